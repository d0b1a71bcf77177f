theorem sx_findStrikes_eq (x : XX) (w : Int32) : sx_X8_findStrikes x w = fsP x w (nP x) := rfl
theorem fs_ok {x : XX} (hI : MI x) (w : Int32) : fsOk x (nP x) 0 (sx_X8_findStrikes x w) := fsP_ok hI w (nP x) (Nat.le_refl _)
theorem fs_le {x : XX} (hI : MI x) (w : Int32) : tn (sx_X8_findStrikes x w 46 0) ≤ 400 := Nat.le_trans (Nat.le_trans (fs_ok hI w).2.2 (ct_le _ _)) hI.2.1.2
def f_X8_writer_43_5 (X : Nat → Nat → Int32) : Nat → Int32 → Int32 := fun i1 a => (if (X 45 i1) = 3 then X 44 i1 else a : Int32)
def f_X8_writer_43_4 (X : Nat → Nat → Int32) : Nat → Int32 → Int32 := fun i1 a => (if (if (X 45 i1) ≤ 0 then 0 else (if 3 ≤ (X 45 i1) then 0 else (if ((X 44 i1) + ((X 45 i1) * (X 6 0))) ≤ (X 0 0) then 0 else 1 : Int32) : Int32) : Int32) = 0 then a else 1 : Int32)
def f_X8_writer_43_3 (X : Nat → Nat → Int32) : Nat → Int32 → Int32 := fun i1 a => (a) + (if ((X 44 i1) + (X 5 0)) ≤ (X 0 0) then 0 else 1 : Int32)
def f_X8_writer_180_6 (X : Nat → Nat → Int32) (w : Int32) : Nat → Int32 → Int32 := fun i2 a => (a) + (if (X 8 (tn (X 13 i2))) = w then (if (s_X8_stands X i2) = 0 then 0 else (if (X 3 (tn (X 14 i2))) ≤ 0 then 0 else 1 : Int32) : Int32) else 0 : Int32)
def f_X8_writer_254_8 (X : Nat → Nat → Int32) (w : Int32) : Nat → Int32 → Int32 := fun i3 a => (a) + (if (X 8 i3) = w then (if (s_X8_isHidden X (nI i3)) = 0 then 0 else 1 : Int32) else 0 : Int32)
def f_X8_writer_254_7 (X : Nat → Nat → Int32) (w : Int32) : Nat → Int32 → Int32 := fun i3 a => (a) + (if (X 8 i3) = w then 1 else 0 : Int32)
def s_X8_writer (x : Nat → Nat → Int32) (w : Int32) (what : Int32) : Int32 := (if (s_X8_within w 0 39) = 0 then (-1) else (if (s_X8_within what 0 6) = 0 then (-1) else (if what = 0 then itd (f_X8_writer_43_3 (sx_X8_findStrikes x w)) 0 (tn ((sx_X8_findStrikes x w) 46 0)) 0 else (if what = 1 then itd (f_X8_writer_43_4 (sx_X8_findStrikes x w)) 0 (tn ((sx_X8_findStrikes x w) 46 0)) 0 else (if what = 2 then (if (itd (f_X8_writer_43_5 (sx_X8_findStrikes x w)) (-1) (tn ((sx_X8_findStrikes x w) 46 0)) 0) < 0 then 0 else 1 : Int32) else (if what = 3 then itr (f_X8_writer_180_6 (sx_X8_findStrikes x w) w) 0 (nC x) else (if what = 4 then itr (f_X8_writer_254_7 (sx_X8_findStrikes x w) w) 0 (nP x) else (if what = 5 then itr (f_X8_writer_254_8 (sx_X8_findStrikes x w) w) 0 (nP x) else itd (f_X8_writer_43_5 (sx_X8_findStrikes x w)) (-1) (tn ((sx_X8_findStrikes x w) 46 0)) 0))))))))
def sx_X8_writer (x : Nat → Nat → Int32) (w : Int32) (what : Int32) : Nat → Nat → Int32 := (if (s_X8_within w 0 39) = 0 then x else (if (s_X8_within what 0 6) = 0 then x else (sx_X8_findStrikes x w)))
set_option maxRecDepth 100000 in
set_option maxHeartbeats 400000 in
theorem cM_writer (l : Launch) (G : GG) (m0 : Nat) (x : Nat → Nat → Int32) (z : Nat → Int64) (hI : MI x) (w : Int32) (what : Int32) : MW l G yX8_writer cX8_writer 10 (some .int) 2 [.ref m0, .int w, .int what] (MWd G m0 x z) (some (.int (s_X8_writer x w what))) (MWd G m0 (sx_X8_writer x w what) z) (MA m0) 0 0 := by
  refine MW.of RX8 rfl (by decide) (Nat.le_of_ble_eq_true rfl) ?_
  intro p_ e_ s_ m_ args_ below_ meth_ c_ ls hargs C hr hnm hW hS hl
  obtain ⟨⟨eP, bP⟩, ⟨eC, bC⟩, ⟨eG, bG⟩, ⟨eV, bV⟩, -, -⟩ := id hI
  have hl : lv_has ls 10 [(0, .ref m0), (1, .int w), (2, .int what)] := hl
  refine lv_iload_n C.hx C.hb dX8_writer_0 rfl (lv_at hl 1 rfl) ?_
  refine lv_iconst (v := 0) C.hx C.hb dX8_writer_1 (by decide) ?_
  refine lv_bipush (v := 39) C.hx C.hb dX8_writer_2 (by decide) ?_
  refine kSR (As := [.int w, .int 0, .int 39]) (rest := []) (v := .int (s_X8_within w 0 39)) C (cM_within l G w 0 39) lk_X8_136 trivial rfl rfl hl (Nat.le_of_ble_eq_true rfl) dX8_writer_4 ⟨⟨by decide, by decide⟩, by decide, by decide⟩ ?_
  refine lv_if_eq (tgt := 20) C.hx C.hb dX8_writer_7 (by decide) (fun c1 => ?_) (fun c1 => ?_)
  · refine lv_iconst (v := (-1)) C.hx C.hb dX8_writer_20 (by decide) ?_
    exact wI C hr dX8_writer_21 hS (by unfold s_X8_writer; rw [if_pos c1]) (by unfold sx_X8_writer; rw [if_pos c1]; exact hW)
  · refine lv_iload_n C.hx C.hb dX8_writer_10 rfl (lv_at hl 2 rfl) ?_
    refine lv_iconst (v := 0) C.hx C.hb dX8_writer_11 (by decide) ?_
    refine lv_bipush (v := 6) C.hx C.hb dX8_writer_12 (by decide) ?_
    refine kSR (As := [.int what, .int 0, .int 6]) (rest := []) (v := .int (s_X8_within what 0 6)) C (cM_within l G what 0 6) lk_X8_136 trivial rfl rfl hl (Nat.le_of_ble_eq_true rfl) dX8_writer_14 ⟨⟨by decide, by decide⟩, by decide, by decide⟩ ?_
    refine lv_if_ne (tgt := 22) C.hx C.hb dX8_writer_17 (by decide) (fun c2 => ?_) (fun c2 => ?_)
    · refine lv_aload_n C.hx C.hb dX8_writer_22 rfl (lv_at hl 0 rfl) ?_
      refine lv_iload_n C.hx C.hb dX8_writer_23 rfl (lv_at hl 1 rfl) ?_
      refine kVWn (As := [.int w]) (rest := []) C (cM_findStrikes l G m0 x z hI w) lk_X8_216 (g_recv C hW.1 rfl) hW rfl rfl hl (Nat.le_of_ble_eq_true rfl) dX8_writer_24 ⟨⟨by decide, by decide⟩, by decide, by decide⟩ hS (fun q h => h) (fun H locs hP hz1 hk1 hS => ?_)
      have hW : MWd G m0 (sx_X8_findStrikes x w) z H := hP
      have hok := fs_ok hI w
      have hag := hok.1
      have eP : (sx_X8_findStrikes x w) 12 0 = nI (nP x) := by rw [hag 12 (by decide) (by decide) (by decide) (by decide)]; exact hI.1.1
      have eC : (sx_X8_findStrikes x w) 27 0 = nI (nC x) := by rw [hag 27 (by decide) (by decide) (by decide) (by decide)]; exact hI.2.1.1
      have enC : nC (sx_X8_findStrikes x w) = nC x := by show tn ((sx_X8_findStrikes x w) 27 0) = _; rw [hag 27 (by decide) (by decide) (by decide) (by decide)]
      have enP : nP (sx_X8_findStrikes x w) = nP x := by show tn ((sx_X8_findStrikes x w) 12 0) = _; rw [hag 12 (by decide) (by decide) (by decide) (by decide)]
      have h46 := hok.2.1
      have hle46 := fs_le hI w
      refine lv_iconst (v := 0) C.hx C.hb dX8_writer_27 (by decide) ?_
      refine lv_istore_n (lv' := [(3, .int 0), (0, .ref m0), (1, .int w), (2, .int what)]) C.hx C.hb dX8_writer_28 rfl hl (by decide) rfl (fun ls hl => ?_)
      refine lv_iconst (v := 0) C.hx C.hb dX8_writer_29 (by decide) ?_
      refine lv_istore (lv' := [(4, .int 0), (3, .int 0), (0, .ref m0), (1, .int w), (2, .int what)]) C.hx C.hb dX8_writer_30 hl (by decide) rfl (fun ls hl => ?_)
      refine lv_iconst (v := (-1)) C.hx C.hb dX8_writer_32 (by decide) ?_
      refine lv_istore (lv' := [(5, .int ((-1))), (4, .int 0), (3, .int 0), (0, .ref m0), (1, .int w), (2, .int what)]) C.hx C.hb dX8_writer_33 hl (by decide) rfl (fun ls hl => ?_)
      refine lv_aload_n C.hx C.hb dX8_writer_35 rfl (lv_at hl 3 rfl) ?_
      refine g_get (k := 46) (v := .int ((sx_X8_findStrikes x w) 46 0)) C hW.1 rfl wu_X8 (by decide) wf_X8_210 rfl rfl dX8_writer_36 ?_
      refine lv_iconst (v := 1) C.hx C.hb dX8_writer_39 (by decide) ?_
      refine lv_isub C.hx C.hb dX8_writer_40 ?_
      refine lv_istore (lv' := [(6, .int (((sx_X8_findStrikes x w) 46 0) - 1)), (5, .int ((-1))), (4, .int 0), (3, .int 0), (0, .ref m0), (1, .int w), (2, .int what)]) C.hx C.hb dX8_writer_41 hl (by decide) rfl (fun ls hl => ?_)
      rw [show ((sx_X8_findStrikes x w) 46 0) - 1 = pri (tn ((sx_X8_findStrikes x w) 46 0)) from congrArg (fun q : Int32 => q - 1) h46] at hl
      have q5 : itd (f_X8_writer_43_5 (sx_X8_findStrikes x w)) (-1) (tn ((sx_X8_findStrikes x w) 46 0)) (tn ((sx_X8_findStrikes x w) 46 0)) = (-1) := itd_N _ _ _
      have q4 : itd (f_X8_writer_43_4 (sx_X8_findStrikes x w)) 0 (tn ((sx_X8_findStrikes x w) 46 0)) (tn ((sx_X8_findStrikes x w) 46 0)) = 0 := itd_N _ _ _
      have q3 : itd (f_X8_writer_43_3 (sx_X8_findStrikes x w)) 0 (tn ((sx_X8_findStrikes x w) 46 0)) (tn ((sx_X8_findStrikes x w) 46 0)) = 0 := itd_N _ _ _
      refine W.loopD (Inv := fun i ls => lv_has ls 10 [(6, .int (pri i)), (5, .int (itd (f_X8_writer_43_5 (sx_X8_findStrikes x w)) (-1) (tn ((sx_X8_findStrikes x w) 46 0)) i)), (4, .int (itd (f_X8_writer_43_4 (sx_X8_findStrikes x w)) 0 (tn ((sx_X8_findStrikes x w) 46 0)) i)), (3, .int (itd (f_X8_writer_43_3 (sx_X8_findStrikes x w)) 0 (tn ((sx_X8_findStrikes x w) 46 0)) i)), (0, .ref m0), (1, .int w), (2, .int what)] ∧ i ≤ (tn ((sx_X8_findStrikes x w) 46 0))) 43 [] (fun i1 ls hq K1 => ?_) (fun ls hq => ?_) (tn ((sx_X8_findStrikes x w) 46 0)) ls ⟨by rw [q5, q4, q3]; exact lv_sub hl [0, 1, 2, 3, 4, 5, 6] rfl, Nat.le_refl _⟩
      · obtain ⟨hl, hle⟩ := hq
        rw [show pri (i1 + 1) = nI i1 from pri_p i1] at hl
        refine lv_iload C.hx C.hb dX8_writer_43 (lv_at hl 0 rfl) ?_
        refine lv_if_lt (tgt := 174) C.hx C.hb dX8_writer_45 (by decide) (fun c3 => ?_) (fun c3 => ?_)
        · exact absurd c3 (nI_pos (by omega))
        · refine lv_iload_n C.hx C.hb dX8_writer_48 rfl (lv_at hl 3 rfl) ?_
          refine lv_aload_n C.hx C.hb dX8_writer_49 rfl (lv_at hl 4 rfl) ?_
          refine g_get (k := 0) (v := .int ((sx_X8_findStrikes x w) 0 0)) C hW.1 rfl wu_X8 (by decide) wf_X8_140 rfl rfl dX8_writer_50 ?_
          refine lv_aload_n C.hx C.hb dX8_writer_53 rfl (lv_at hl 4 rfl) ?_
          refine g_get (k := 44) (v := .ref (am m0 44)) C hW.1 rfl wu_X8 (by decide) wf_X8_127 rfl rfl dX8_writer_54 ?_
          refine lv_iload C.hx C.hb dX8_writer_57 (lv_at hl 0 rfl) ?_
          refine g_iald (f := (sx_X8_findStrikes x w) 44) (k := i1) C (hW.2.1 44 rfl) rfl (show i1 < 400 by omega) (by decide) dX8_writer_59 ?_
          refine lv_aload_n C.hx C.hb dX8_writer_60 rfl (lv_at hl 4 rfl) ?_
          refine g_get (k := 5) (v := .int ((sx_X8_findStrikes x w) 5 0)) C hW.1 rfl wu_X8 (by decide) wf_X8_22 rfl rfl dX8_writer_61 ?_
          refine lv_iadd C.hx C.hb dX8_writer_64 ?_
          refine W.joinI (P := fun jv => jv = (if (((sx_X8_findStrikes x w) 44 i1) + ((sx_X8_findStrikes x w) 5 0)) ≤ ((sx_X8_findStrikes x w) 0 0) then 0 else 1 : Int32)) 73 ls [.int (itd (f_X8_writer_43_3 (sx_X8_findStrikes x w)) 0 (tn ((sx_X8_findStrikes x w) 46 0)) (i1 + 1))] (fun J5 => ?_) (fun v6 hv6 => ?_)
          · refine lv_icmp_ge (tgt := 72) C.hx C.hb dX8_writer_65 (by decide) (fun c4 => ?_) (fun c4 => ?_)
            · refine lv_iconst (v := 0) C.hx C.hb dX8_writer_72 (by decide) ?_
              exact J5 _ (by rw [if_pos c4])
            · refine lv_iconst (v := 1) C.hx C.hb dX8_writer_68 (by decide) ?_
              refine lv_goto (tgt := 73) C.hx C.hb dX8_writer_69 (by decide) ?_
              exact J5 _ (by rw [if_neg c4])
          · refine lv_iadd C.hx C.hb dX8_writer_73 ?_
            refine lv_istore_n (lv' := [(3, .int ((itd (f_X8_writer_43_3 (sx_X8_findStrikes x w)) 0 (tn ((sx_X8_findStrikes x w) 46 0)) (i1 + 1)) + v6)), (6, .int (nI i1)), (5, .int (itd (f_X8_writer_43_5 (sx_X8_findStrikes x w)) (-1) (tn ((sx_X8_findStrikes x w) 46 0)) (i1 + 1))), (4, .int (itd (f_X8_writer_43_4 (sx_X8_findStrikes x w)) 0 (tn ((sx_X8_findStrikes x w) 46 0)) (i1 + 1))), (0, .ref m0), (1, .int w), (2, .int what)]) C.hx C.hb dX8_writer_74 rfl hl (by decide) rfl (fun ls hl => ?_)
            refine lv_aload_n C.hx C.hb dX8_writer_75 rfl (lv_at hl 4 rfl) ?_
            refine g_get (k := 45) (v := .ref (am m0 45)) C hW.1 rfl wu_X8 (by decide) wf_X8_130 rfl rfl dX8_writer_76 ?_
            refine lv_iload C.hx C.hb dX8_writer_79 (lv_at hl 1 rfl) ?_
            refine g_iald (f := (sx_X8_findStrikes x w) 45) (k := i1) C (hW.2.1 45 rfl) rfl (show i1 < 400 by omega) (by decide) dX8_writer_81 ?_
            refine W.joinI (P := fun jv => jv = (if ((sx_X8_findStrikes x w) 45 i1) ≤ 0 then 0 else (if 3 ≤ ((sx_X8_findStrikes x w) 45 i1) then 0 else (if (((sx_X8_findStrikes x w) 44 i1) + (((sx_X8_findStrikes x w) 45 i1) * ((sx_X8_findStrikes x w) 6 0))) ≤ ((sx_X8_findStrikes x w) 0 0) then 0 else 1 : Int32) : Int32) : Int32)) 128 ls [] (fun J10 => ?_) (fun v11 hv11 => ?_)
            · refine lv_if_le (tgt := 127) C.hx C.hb dX8_writer_82 (by decide) (fun c7 => ?_) (fun c7 => ?_)
              · refine lv_iconst (v := 0) C.hx C.hb dX8_writer_127 (by decide) ?_
                exact J10 _ (by rw [if_pos c7])
              · refine lv_aload_n C.hx C.hb dX8_writer_85 rfl (lv_at hl 4 rfl) ?_
                refine g_get (k := 45) (v := .ref (am m0 45)) C hW.1 rfl wu_X8 (by decide) wf_X8_130 rfl rfl dX8_writer_86 ?_
                refine lv_iload C.hx C.hb dX8_writer_89 (lv_at hl 1 rfl) ?_
                refine g_iald (f := (sx_X8_findStrikes x w) 45) (k := i1) C (hW.2.1 45 rfl) rfl (show i1 < 400 by omega) (by decide) dX8_writer_91 ?_
                refine lv_iconst (v := 3) C.hx C.hb dX8_writer_92 (by decide) ?_
                refine lv_icmp_ge (tgt := 127) C.hx C.hb dX8_writer_93 (by decide) (fun c8 => ?_) (fun c8 => ?_)
                · refine lv_iconst (v := 0) C.hx C.hb dX8_writer_127 (by decide) ?_
                  exact J10 _ (by rw [if_neg c7, if_pos c8])
                · refine lv_aload_n C.hx C.hb dX8_writer_96 rfl (lv_at hl 4 rfl) ?_
                  refine g_get (k := 0) (v := .int ((sx_X8_findStrikes x w) 0 0)) C hW.1 rfl wu_X8 (by decide) wf_X8_140 rfl rfl dX8_writer_97 ?_
                  refine lv_aload_n C.hx C.hb dX8_writer_100 rfl (lv_at hl 4 rfl) ?_
                  refine g_get (k := 44) (v := .ref (am m0 44)) C hW.1 rfl wu_X8 (by decide) wf_X8_127 rfl rfl dX8_writer_101 ?_
                  refine lv_iload C.hx C.hb dX8_writer_104 (lv_at hl 1 rfl) ?_
                  refine g_iald (f := (sx_X8_findStrikes x w) 44) (k := i1) C (hW.2.1 44 rfl) rfl (show i1 < 400 by omega) (by decide) dX8_writer_106 ?_
                  refine lv_aload_n C.hx C.hb dX8_writer_107 rfl (lv_at hl 4 rfl) ?_
                  refine g_get (k := 45) (v := .ref (am m0 45)) C hW.1 rfl wu_X8 (by decide) wf_X8_130 rfl rfl dX8_writer_108 ?_
                  refine lv_iload C.hx C.hb dX8_writer_111 (lv_at hl 1 rfl) ?_
                  refine g_iald (f := (sx_X8_findStrikes x w) 45) (k := i1) C (hW.2.1 45 rfl) rfl (show i1 < 400 by omega) (by decide) dX8_writer_113 ?_
                  refine lv_aload_n C.hx C.hb dX8_writer_114 rfl (lv_at hl 4 rfl) ?_
                  refine g_get (k := 6) (v := .int ((sx_X8_findStrikes x w) 6 0)) C hW.1 rfl wu_X8 (by decide) wf_X8_26 rfl rfl dX8_writer_115 ?_
                  refine lv_imul C.hx C.hb dX8_writer_118 ?_
                  refine lv_iadd C.hx C.hb dX8_writer_119 ?_
                  refine lv_icmp_ge (tgt := 127) C.hx C.hb dX8_writer_120 (by decide) (fun c9 => ?_) (fun c9 => ?_)
                  · refine lv_iconst (v := 0) C.hx C.hb dX8_writer_127 (by decide) ?_
                    exact J10 _ (by rw [if_neg c7, if_neg c8, if_pos c9])
                  · refine lv_iconst (v := 1) C.hx C.hb dX8_writer_123 (by decide) ?_
                    refine lv_goto (tgt := 128) C.hx C.hb dX8_writer_124 (by decide) ?_
                    exact J10 _ (by rw [if_neg c7, if_neg c8, if_neg c9])
            · refine lv_istore (lv' := [(7, .int v11), (3, .int ((itd (f_X8_writer_43_3 (sx_X8_findStrikes x w)) 0 (tn ((sx_X8_findStrikes x w) 46 0)) (i1 + 1)) + v6)), (6, .int (nI i1)), (5, .int (itd (f_X8_writer_43_5 (sx_X8_findStrikes x w)) (-1) (tn ((sx_X8_findStrikes x w) 46 0)) (i1 + 1))), (4, .int (itd (f_X8_writer_43_4 (sx_X8_findStrikes x w)) 0 (tn ((sx_X8_findStrikes x w) 46 0)) (i1 + 1))), (0, .ref m0), (1, .int w), (2, .int what)]) C.hx C.hb dX8_writer_128 hl (by decide) rfl (fun ls hl => ?_)
              refine lv_iload C.hx C.hb dX8_writer_130 (lv_at hl 0 rfl) ?_
              refine W.joinI (P := fun jv => jv = (if v11 = 0 then itd (f_X8_writer_43_4 (sx_X8_findStrikes x w)) 0 (tn ((sx_X8_findStrikes x w) 46 0)) (i1 + 1) else 1 : Int32)) 141 ls [] (fun J13 => ?_) (fun v14 hv14 => ?_)
              · refine lv_if_eq (tgt := 139) C.hx C.hb dX8_writer_132 (by decide) (fun c12 => ?_) (fun c12 => ?_)
                · refine lv_iload C.hx C.hb dX8_writer_139 (lv_at hl 4 rfl) ?_
                  exact J13 _ (by rw [if_pos c12])
                · refine lv_iconst (v := 1) C.hx C.hb dX8_writer_135 (by decide) ?_
                  refine lv_goto (tgt := 141) C.hx C.hb dX8_writer_136 (by decide) ?_
                  exact J13 _ (by rw [if_neg c12])
              · refine lv_istore (lv' := [(4, .int v14), (7, .int v11), (3, .int ((itd (f_X8_writer_43_3 (sx_X8_findStrikes x w)) 0 (tn ((sx_X8_findStrikes x w) 46 0)) (i1 + 1)) + v6)), (6, .int (nI i1)), (5, .int (itd (f_X8_writer_43_5 (sx_X8_findStrikes x w)) (-1) (tn ((sx_X8_findStrikes x w) 46 0)) (i1 + 1))), (0, .ref m0), (1, .int w), (2, .int what)]) C.hx C.hb dX8_writer_141 hl (by decide) rfl (fun ls hl => ?_)
                refine lv_aload_n C.hx C.hb dX8_writer_143 rfl (lv_at hl 5 rfl) ?_
                refine g_get (k := 45) (v := .ref (am m0 45)) C hW.1 rfl wu_X8 (by decide) wf_X8_130 rfl rfl dX8_writer_144 ?_
                refine lv_iload C.hx C.hb dX8_writer_147 (lv_at hl 3 rfl) ?_
                refine g_iald (f := (sx_X8_findStrikes x w) 45) (k := i1) C (hW.2.1 45 rfl) rfl (show i1 < 400 by omega) (by decide) dX8_writer_149 ?_
                refine lv_iconst (v := 3) C.hx C.hb dX8_writer_150 (by decide) ?_
                refine W.joinI (P := fun jv => jv = (if ((sx_X8_findStrikes x w) 45 i1) = 3 then (sx_X8_findStrikes x w) 44 i1 else itd (f_X8_writer_43_5 (sx_X8_findStrikes x w)) (-1) (tn ((sx_X8_findStrikes x w) 46 0)) (i1 + 1) : Int32)) 166 ls [] (fun J16 => ?_) (fun v17 hv17 => ?_)
                · refine lv_icmp_ne (tgt := 164) C.hx C.hb dX8_writer_151 (by decide) (fun c15 => ?_) (fun c15 => ?_)
                  · refine lv_iload C.hx C.hb dX8_writer_164 (lv_at hl 4 rfl) ?_
                    exact J16 _ (by rw [if_neg c15])
                  · refine lv_aload_n C.hx C.hb dX8_writer_154 rfl (lv_at hl 5 rfl) ?_
                    refine g_get (k := 44) (v := .ref (am m0 44)) C hW.1 rfl wu_X8 (by decide) wf_X8_127 rfl rfl dX8_writer_155 ?_
                    refine lv_iload C.hx C.hb dX8_writer_158 (lv_at hl 3 rfl) ?_
                    refine g_iald (f := (sx_X8_findStrikes x w) 44) (k := i1) C (hW.2.1 44 rfl) rfl (show i1 < 400 by omega) (by decide) dX8_writer_160 ?_
                    refine lv_goto (tgt := 166) C.hx C.hb dX8_writer_161 (by decide) ?_
                    exact J16 _ (by rw [if_pos c15])
                · refine lv_istore (lv' := [(5, .int v17), (4, .int v14), (7, .int v11), (3, .int ((itd (f_X8_writer_43_3 (sx_X8_findStrikes x w)) 0 (tn ((sx_X8_findStrikes x w) 46 0)) (i1 + 1)) + v6)), (6, .int (nI i1)), (0, .ref m0), (1, .int w), (2, .int what)]) C.hx C.hb dX8_writer_166 hl (by decide) rfl (fun ls hl => ?_)
                  refine lv_iinc (v := (nI i1) + (-1)) (lv' := [(6, .int ((nI i1) + (-1))), (5, .int v17), (4, .int v14), (7, .int v11), (3, .int ((itd (f_X8_writer_43_3 (sx_X8_findStrikes x w)) 0 (tn ((sx_X8_findStrikes x w) 46 0)) (i1 + 1)) + v6)), (0, .ref m0), (1, .int w), (2, .int what)]) C.hx C.hb dX8_writer_168 hl (k := 4) rfl rfl (by decide) rfl (fun ls hl => ?_)
                  refine lv_goto (tgt := 43) C.hx C.hb dX8_writer_171 (by decide) ?_
                  rw [hv17] at hl
                  rw [hv14] at hl
                  rw [hv11] at hl
                  rw [hv6] at hl
                  rw [show (if ((sx_X8_findStrikes x w) 45 i1) = 3 then (sx_X8_findStrikes x w) 44 i1 else itd (f_X8_writer_43_5 (sx_X8_findStrikes x w)) (-1) (tn ((sx_X8_findStrikes x w) 46 0)) (i1 + 1) : Int32) = itd (f_X8_writer_43_5 (sx_X8_findStrikes x w)) (-1) (tn ((sx_X8_findStrikes x w) 46 0)) i1 from (itd_s (f := (f_X8_writer_43_5 (sx_X8_findStrikes x w))) (a := (-1)) (N := (tn ((sx_X8_findStrikes x w) 46 0))) (i := i1) (by omega)).symm] at hl
                  rw [show (if (if ((sx_X8_findStrikes x w) 45 i1) ≤ 0 then 0 else (if 3 ≤ ((sx_X8_findStrikes x w) 45 i1) then 0 else (if (((sx_X8_findStrikes x w) 44 i1) + (((sx_X8_findStrikes x w) 45 i1) * ((sx_X8_findStrikes x w) 6 0))) ≤ ((sx_X8_findStrikes x w) 0 0) then 0 else 1 : Int32) : Int32) : Int32) = 0 then itd (f_X8_writer_43_4 (sx_X8_findStrikes x w)) 0 (tn ((sx_X8_findStrikes x w) 46 0)) (i1 + 1) else 1 : Int32) = itd (f_X8_writer_43_4 (sx_X8_findStrikes x w)) 0 (tn ((sx_X8_findStrikes x w) 46 0)) i1 from (itd_s (f := (f_X8_writer_43_4 (sx_X8_findStrikes x w))) (a := 0) (N := (tn ((sx_X8_findStrikes x w) 46 0))) (i := i1) (by omega)).symm] at hl
                  rw [show (itd (f_X8_writer_43_3 (sx_X8_findStrikes x w)) 0 (tn ((sx_X8_findStrikes x w) 46 0)) (i1 + 1)) + (if (((sx_X8_findStrikes x w) 44 i1) + ((sx_X8_findStrikes x w) 5 0)) ≤ ((sx_X8_findStrikes x w) 0 0) then 0 else 1 : Int32) = itd (f_X8_writer_43_3 (sx_X8_findStrikes x w)) 0 (tn ((sx_X8_findStrikes x w) 46 0)) i1 from (itd_s (f := (f_X8_writer_43_3 (sx_X8_findStrikes x w))) (a := 0) (N := (tn ((sx_X8_findStrikes x w) 46 0))) (i := i1) (by omega)).symm] at hl
                  rw [show nI i1 + (-1) = pri i1 from pri_s i1] at hl
                  exact K1 _ ⟨lv_sub hl [0, 1, 2, 4, 5, 6, 7] rfl, by omega⟩
      · obtain ⟨hl, hle⟩ := hq
        refine lv_iload C.hx C.hb dX8_writer_43 (lv_at hl 0 rfl) ?_
        refine lv_if_lt (tgt := 174) C.hx C.hb dX8_writer_45 (by decide) (fun c18 => ?_) (fun c18 => ?_)
        · refine lv_iconst (v := 0) C.hx C.hb dX8_writer_174 (by decide) ?_
          refine lv_istore (lv' := [(6, .int 0), (5, .int (itd (f_X8_writer_43_5 (sx_X8_findStrikes x w)) (-1) (tn ((sx_X8_findStrikes x w) 46 0)) 0)), (4, .int (itd (f_X8_writer_43_4 (sx_X8_findStrikes x w)) 0 (tn ((sx_X8_findStrikes x w) 46 0)) 0)), (3, .int (itd (f_X8_writer_43_3 (sx_X8_findStrikes x w)) 0 (tn ((sx_X8_findStrikes x w) 46 0)) 0)), (0, .ref m0), (1, .int w), (2, .int what)]) C.hx C.hb dX8_writer_175 hl (by decide) rfl (fun ls hl => ?_)
          refine lv_iconst (v := 0) C.hx C.hb dX8_writer_177 (by decide) ?_
          refine lv_istore (lv' := [(7, .int 0), (6, .int 0), (5, .int (itd (f_X8_writer_43_5 (sx_X8_findStrikes x w)) (-1) (tn ((sx_X8_findStrikes x w) 46 0)) 0)), (4, .int (itd (f_X8_writer_43_4 (sx_X8_findStrikes x w)) 0 (tn ((sx_X8_findStrikes x w) 46 0)) 0)), (3, .int (itd (f_X8_writer_43_3 (sx_X8_findStrikes x w)) 0 (tn ((sx_X8_findStrikes x w) 46 0)) 0)), (0, .ref m0), (1, .int w), (2, .int what)]) C.hx C.hb dX8_writer_178 hl (by decide) rfl (fun ls hl => ?_)
          refine W.loopR (N := nC x) (Inv := fun i ls => lv_has ls 10 [(7, .int (nI i)), (6, .int (itr (f_X8_writer_180_6 (sx_X8_findStrikes x w) w) 0 i)), (5, .int (itd (f_X8_writer_43_5 (sx_X8_findStrikes x w)) (-1) (tn ((sx_X8_findStrikes x w) 46 0)) 0)), (4, .int (itd (f_X8_writer_43_4 (sx_X8_findStrikes x w)) 0 (tn ((sx_X8_findStrikes x w) 46 0)) 0)), (3, .int (itd (f_X8_writer_43_3 (sx_X8_findStrikes x w)) 0 (tn ((sx_X8_findStrikes x w) 46 0)) 0)), (0, .ref m0), (1, .int w), (2, .int what)]) 180 [] (fun i2 ls hi2 hl K2 => ?_) (fun ls hl => ?_) 0 ls (Nat.zero_le _) (lv_sub hl [0, 1, 2, 3, 4, 5, 6, 7] rfl)
          · refine lv_iload C.hx C.hb dX8_writer_180 (lv_at hl 0 rfl) ?_
            refine lv_aload_n C.hx C.hb dX8_writer_182 rfl (lv_at hl 5 rfl) ?_
            refine g_get (k := 27) (v := .int ((sx_X8_findStrikes x w) 27 0)) C hW.1 rfl wu_X8 (by decide) wf_X8_133 rfl rfl dX8_writer_183 ?_
            refine lv_icmp_ge (tgt := 245) C.hx C.hb dX8_writer_186 (by decide) (fun c19 => ?_) (fun c19 => ?_)
            · exact absurd c19 (lt_nle eC hi2 (by omega))
            · refine lv_iload C.hx C.hb dX8_writer_189 (lv_at hl 1 rfl) ?_
              refine lv_aload_n C.hx C.hb dX8_writer_191 rfl (lv_at hl 5 rfl) ?_
              refine g_get (k := 8) (v := .ref (am m0 8)) C hW.1 rfl wu_X8 (by decide) wf_X8_32 rfl rfl dX8_writer_192 ?_
              refine lv_aload_n C.hx C.hb dX8_writer_195 rfl (lv_at hl 5 rfl) ?_
              refine g_get (k := 13) (v := .ref (am m0 13)) C hW.1 rfl wu_X8 (by decide) wf_X8_44 rfl rfl dX8_writer_196 ?_
              refine lv_iload C.hx C.hb dX8_writer_199 (lv_at hl 0 rfl) ?_
              refine g_iald (f := (sx_X8_findStrikes x w) 13) (k := i2) C (hW.2.1 13 rfl) rfl (show i2 < 400 by omega) (by decide) dX8_writer_201 ?_
              have f20 := MI.po (hok.mi hI) (show i2 < nC (sx_X8_findStrikes x w) by omega)
              have f20b : tn ((sx_X8_findStrikes x w) 13 i2) < nP (sx_X8_findStrikes x w) := f20.2
              refine g_iald (f := (sx_X8_findStrikes x w) 8) (k := (tn ((sx_X8_findStrikes x w) 13 i2))) C (hW.2.1 8 rfl) f20.1 (show (tn ((sx_X8_findStrikes x w) 13 i2)) < 300 by omega) (by decide) dX8_writer_202 ?_
              refine lv_iload_n C.hx C.hb dX8_writer_203 rfl (lv_at hl 6 rfl) ?_
              refine W.joinI (P := fun jv => jv = (if ((sx_X8_findStrikes x w) 8 (tn ((sx_X8_findStrikes x w) 13 i2))) = w then (if (s_X8_stands (sx_X8_findStrikes x w) i2) = 0 then 0 else (if ((sx_X8_findStrikes x w) 3 (tn ((sx_X8_findStrikes x w) 14 i2))) ≤ 0 then 0 else 1 : Int32) : Int32) else 0 : Int32)) 236 ls [.int (itr (f_X8_writer_180_6 (sx_X8_findStrikes x w) w) 0 i2)] (fun J25 => ?_) (fun v26 hv26 => ?_)
              · refine lv_icmp_ne (tgt := 235) C.hx C.hb dX8_writer_204 (by decide) (fun c21 => ?_) (fun c21 => ?_)
                · refine lv_iconst (v := 0) C.hx C.hb dX8_writer_235 (by decide) ?_
                  exact J25 _ (by rw [if_neg c21])
                · refine lv_aload_n C.hx C.hb dX8_writer_207 rfl (lv_at hl 5 rfl) ?_
                  refine lv_iload C.hx C.hb dX8_writer_208 (lv_at hl 0 rfl) ?_
                  refine kVR (As := [.int (nI i2)]) (rest := [.int (itr (f_X8_writer_180_6 (sx_X8_findStrikes x w) w) 0 i2)]) (v := .int (s_X8_stands (sx_X8_findStrikes x w) i2)) C (cM_stands l G m0 (sx_X8_findStrikes x w) z (hok.mi hI) i2 (show i2 < nC (sx_X8_findStrikes x w) by omega)) lk_X8_213 (g_recv C hW.1 rfl) hW rfl rfl hl (Nat.le_of_ble_eq_true rfl) dX8_writer_210 ⟨⟨by decide, by decide⟩, by decide, by decide⟩ ?_
                  refine lv_if_eq (tgt := 235) C.hx C.hb dX8_writer_213 (by decide) (fun c22 => ?_) (fun c22 => ?_)
                  · refine lv_iconst (v := 0) C.hx C.hb dX8_writer_235 (by decide) ?_
                    exact J25 _ (by rw [if_pos c21, if_pos c22])
                  · refine lv_aload_n C.hx C.hb dX8_writer_216 rfl (lv_at hl 5 rfl) ?_
                    refine g_get (k := 3) (v := .ref (am m0 3)) C hW.1 rfl wu_X8 (by decide) wf_X8_16 rfl rfl dX8_writer_217 ?_
                    refine lv_aload_n C.hx C.hb dX8_writer_220 rfl (lv_at hl 5 rfl) ?_
                    refine g_get (k := 14) (v := .ref (am m0 14)) C hW.1 rfl wu_X8 (by decide) wf_X8_47 rfl rfl dX8_writer_221 ?_
                    refine lv_iload C.hx C.hb dX8_writer_224 (lv_at hl 0 rfl) ?_
                    refine g_iald (f := (sx_X8_findStrikes x w) 14) (k := i2) C (hW.2.1 14 rfl) rfl (show i2 < 400 by omega) (by decide) dX8_writer_226 ?_
                    have f23 := MI.ru (hok.mi hI) (show i2 < nC (sx_X8_findStrikes x w) by omega)
                    have f23b : tn ((sx_X8_findStrikes x w) 14 i2) < 8 := f23.2
                    refine g_iald (f := (sx_X8_findStrikes x w) 3) (k := (tn ((sx_X8_findStrikes x w) 14 i2))) C (hW.2.1 3 rfl) f23.1 (show (tn ((sx_X8_findStrikes x w) 14 i2)) < 8 by omega) (by decide) dX8_writer_227 ?_
                    refine lv_if_le (tgt := 235) C.hx C.hb dX8_writer_228 (by decide) (fun c24 => ?_) (fun c24 => ?_)
                    · refine lv_iconst (v := 0) C.hx C.hb dX8_writer_235 (by decide) ?_
                      exact J25 _ (by rw [if_pos c21, if_neg c22, if_pos c24])
                    · refine lv_iconst (v := 1) C.hx C.hb dX8_writer_231 (by decide) ?_
                      refine lv_goto (tgt := 236) C.hx C.hb dX8_writer_232 (by decide) ?_
                      exact J25 _ (by rw [if_pos c21, if_neg c22, if_neg c24])
              · refine lv_iadd C.hx C.hb dX8_writer_236 ?_
                refine lv_istore (lv' := [(6, .int ((itr (f_X8_writer_180_6 (sx_X8_findStrikes x w) w) 0 i2) + v26)), (7, .int (nI i2)), (5, .int (itd (f_X8_writer_43_5 (sx_X8_findStrikes x w)) (-1) (tn ((sx_X8_findStrikes x w) 46 0)) 0)), (4, .int (itd (f_X8_writer_43_4 (sx_X8_findStrikes x w)) 0 (tn ((sx_X8_findStrikes x w) 46 0)) 0)), (3, .int (itd (f_X8_writer_43_3 (sx_X8_findStrikes x w)) 0 (tn ((sx_X8_findStrikes x w) 46 0)) 0)), (0, .ref m0), (1, .int w), (2, .int what)]) C.hx C.hb dX8_writer_237 hl (by decide) rfl (fun ls hl => ?_)
                refine lv_iinc (v := (nI i2) + 1) (lv' := [(7, .int ((nI i2) + 1)), (6, .int ((itr (f_X8_writer_180_6 (sx_X8_findStrikes x w) w) 0 i2) + v26)), (5, .int (itd (f_X8_writer_43_5 (sx_X8_findStrikes x w)) (-1) (tn ((sx_X8_findStrikes x w) 46 0)) 0)), (4, .int (itd (f_X8_writer_43_4 (sx_X8_findStrikes x w)) 0 (tn ((sx_X8_findStrikes x w) 46 0)) 0)), (3, .int (itd (f_X8_writer_43_3 (sx_X8_findStrikes x w)) 0 (tn ((sx_X8_findStrikes x w) 46 0)) 0)), (0, .ref m0), (1, .int w), (2, .int what)]) C.hx C.hb dX8_writer_239 hl (k := 1) rfl rfl (by decide) rfl (fun ls hl => ?_)
                refine lv_goto (tgt := 180) C.hx C.hb dX8_writer_242 (by decide) ?_
                rw [hv26] at hl
                rw [nI_1 i2] at hl
                exact K2 _ (lv_sub hl [0, 1, 2, 3, 4, 5, 6, 7] rfl)
          · refine lv_iload C.hx C.hb dX8_writer_180 (lv_at hl 0 rfl) ?_
            refine lv_aload_n C.hx C.hb dX8_writer_182 rfl (lv_at hl 5 rfl) ?_
            refine g_get (k := 27) (v := .int ((sx_X8_findStrikes x w) 27 0)) C hW.1 rfl wu_X8 (by decide) wf_X8_133 rfl rfl dX8_writer_183 ?_
            refine lv_icmp_ge (tgt := 245) C.hx C.hb dX8_writer_186 (by decide) (fun c27 => ?_) (fun c27 => ?_)
            · refine lv_iconst (v := 0) C.hx C.hb dX8_writer_245 (by decide) ?_
              refine lv_istore (lv' := [(7, .int 0), (6, .int (itr (f_X8_writer_180_6 (sx_X8_findStrikes x w) w) 0 (nC x))), (5, .int (itd (f_X8_writer_43_5 (sx_X8_findStrikes x w)) (-1) (tn ((sx_X8_findStrikes x w) 46 0)) 0)), (4, .int (itd (f_X8_writer_43_4 (sx_X8_findStrikes x w)) 0 (tn ((sx_X8_findStrikes x w) 46 0)) 0)), (3, .int (itd (f_X8_writer_43_3 (sx_X8_findStrikes x w)) 0 (tn ((sx_X8_findStrikes x w) 46 0)) 0)), (0, .ref m0), (1, .int w), (2, .int what)]) C.hx C.hb dX8_writer_246 hl (by decide) rfl (fun ls hl => ?_)
              refine lv_iconst (v := 0) C.hx C.hb dX8_writer_248 (by decide) ?_
              refine lv_istore (lv' := [(8, .int 0), (7, .int 0), (6, .int (itr (f_X8_writer_180_6 (sx_X8_findStrikes x w) w) 0 (nC x))), (5, .int (itd (f_X8_writer_43_5 (sx_X8_findStrikes x w)) (-1) (tn ((sx_X8_findStrikes x w) 46 0)) 0)), (4, .int (itd (f_X8_writer_43_4 (sx_X8_findStrikes x w)) 0 (tn ((sx_X8_findStrikes x w) 46 0)) 0)), (3, .int (itd (f_X8_writer_43_3 (sx_X8_findStrikes x w)) 0 (tn ((sx_X8_findStrikes x w) 46 0)) 0)), (0, .ref m0), (1, .int w), (2, .int what)]) C.hx C.hb dX8_writer_249 hl (by decide) rfl (fun ls hl => ?_)
              refine lv_iconst (v := 0) C.hx C.hb dX8_writer_251 (by decide) ?_
              refine lv_istore (lv' := [(9, .int 0), (8, .int 0), (7, .int 0), (6, .int (itr (f_X8_writer_180_6 (sx_X8_findStrikes x w) w) 0 (nC x))), (5, .int (itd (f_X8_writer_43_5 (sx_X8_findStrikes x w)) (-1) (tn ((sx_X8_findStrikes x w) 46 0)) 0)), (4, .int (itd (f_X8_writer_43_4 (sx_X8_findStrikes x w)) 0 (tn ((sx_X8_findStrikes x w) 46 0)) 0)), (3, .int (itd (f_X8_writer_43_3 (sx_X8_findStrikes x w)) 0 (tn ((sx_X8_findStrikes x w) 46 0)) 0)), (0, .ref m0), (1, .int w), (2, .int what)]) C.hx C.hb dX8_writer_252 hl (by decide) rfl (fun ls hl => ?_)
              refine W.loopR (N := nP x) (Inv := fun i ls => lv_has ls 10 [(9, .int (nI i)), (8, .int (itr (f_X8_writer_254_8 (sx_X8_findStrikes x w) w) 0 i)), (7, .int (itr (f_X8_writer_254_7 (sx_X8_findStrikes x w) w) 0 i)), (6, .int (itr (f_X8_writer_180_6 (sx_X8_findStrikes x w) w) 0 (nC x))), (5, .int (itd (f_X8_writer_43_5 (sx_X8_findStrikes x w)) (-1) (tn ((sx_X8_findStrikes x w) 46 0)) 0)), (4, .int (itd (f_X8_writer_43_4 (sx_X8_findStrikes x w)) 0 (tn ((sx_X8_findStrikes x w) 46 0)) 0)), (3, .int (itd (f_X8_writer_43_3 (sx_X8_findStrikes x w)) 0 (tn ((sx_X8_findStrikes x w) 46 0)) 0)), (0, .ref m0), (1, .int w), (2, .int what)]) 254 [] (fun i3 ls hi3 hl K3 => ?_) (fun ls hl => ?_) 0 ls (Nat.zero_le _) (lv_sub hl [0, 1, 2, 3, 4, 5, 6, 7, 8, 9] rfl)
              · refine lv_iload C.hx C.hb dX8_writer_254 (lv_at hl 0 rfl) ?_
                refine lv_aload_n C.hx C.hb dX8_writer_256 rfl (lv_at hl 7 rfl) ?_
                refine g_get (k := 12) (v := .int ((sx_X8_findStrikes x w) 12 0)) C hW.1 rfl wu_X8 (by decide) wf_X8_144 rfl rfl dX8_writer_257 ?_
                refine lv_icmp_ge (tgt := 320) C.hx C.hb dX8_writer_260 (by decide) (fun c28 => ?_) (fun c28 => ?_)
                · exact absurd c28 (lt_nle eP hi3 (by omega))
                · refine lv_iload C.hx C.hb dX8_writer_263 (lv_at hl 2 rfl) ?_
                  refine lv_aload_n C.hx C.hb dX8_writer_265 rfl (lv_at hl 7 rfl) ?_
                  refine g_get (k := 8) (v := .ref (am m0 8)) C hW.1 rfl wu_X8 (by decide) wf_X8_32 rfl rfl dX8_writer_266 ?_
                  refine lv_iload C.hx C.hb dX8_writer_269 (lv_at hl 0 rfl) ?_
                  refine g_iald (f := (sx_X8_findStrikes x w) 8) (k := i3) C (hW.2.1 8 rfl) rfl (show i3 < 300 by omega) (by decide) dX8_writer_271 ?_
                  refine lv_iload_n C.hx C.hb dX8_writer_272 rfl (lv_at hl 8 rfl) ?_
                  refine W.joinI (P := fun jv => jv = (if ((sx_X8_findStrikes x w) 8 i3) = w then 1 else 0 : Int32)) 281 ls [.int (itr (f_X8_writer_254_7 (sx_X8_findStrikes x w) w) 0 i3)] (fun J30 => ?_) (fun v31 hv31 => ?_)
                  · refine lv_icmp_ne (tgt := 280) C.hx C.hb dX8_writer_273 (by decide) (fun c29 => ?_) (fun c29 => ?_)
                    · refine lv_iconst (v := 0) C.hx C.hb dX8_writer_280 (by decide) ?_
                      exact J30 _ (by rw [if_neg c29])
                    · refine lv_iconst (v := 1) C.hx C.hb dX8_writer_276 (by decide) ?_
                      refine lv_goto (tgt := 281) C.hx C.hb dX8_writer_277 (by decide) ?_
                      exact J30 _ (by rw [if_pos c29])
                  · refine lv_iadd C.hx C.hb dX8_writer_281 ?_
                    refine lv_istore (lv' := [(7, .int ((itr (f_X8_writer_254_7 (sx_X8_findStrikes x w) w) 0 i3) + v31)), (9, .int (nI i3)), (8, .int (itr (f_X8_writer_254_8 (sx_X8_findStrikes x w) w) 0 i3)), (6, .int (itr (f_X8_writer_180_6 (sx_X8_findStrikes x w) w) 0 (nC x))), (5, .int (itd (f_X8_writer_43_5 (sx_X8_findStrikes x w)) (-1) (tn ((sx_X8_findStrikes x w) 46 0)) 0)), (4, .int (itd (f_X8_writer_43_4 (sx_X8_findStrikes x w)) 0 (tn ((sx_X8_findStrikes x w) 46 0)) 0)), (3, .int (itd (f_X8_writer_43_3 (sx_X8_findStrikes x w)) 0 (tn ((sx_X8_findStrikes x w) 46 0)) 0)), (0, .ref m0), (1, .int w), (2, .int what)]) C.hx C.hb dX8_writer_282 hl (by decide) rfl (fun ls hl => ?_)
                    refine lv_iload C.hx C.hb dX8_writer_284 (lv_at hl 2 rfl) ?_
                    refine lv_aload_n C.hx C.hb dX8_writer_286 rfl (lv_at hl 7 rfl) ?_
                    refine g_get (k := 8) (v := .ref (am m0 8)) C hW.1 rfl wu_X8 (by decide) wf_X8_32 rfl rfl dX8_writer_287 ?_
                    refine lv_iload C.hx C.hb dX8_writer_290 (lv_at hl 1 rfl) ?_
                    refine g_iald (f := (sx_X8_findStrikes x w) 8) (k := i3) C (hW.2.1 8 rfl) rfl (show i3 < 300 by omega) (by decide) dX8_writer_292 ?_
                    refine lv_iload_n C.hx C.hb dX8_writer_293 rfl (lv_at hl 8 rfl) ?_
                    refine W.joinI (P := fun jv => jv = (if ((sx_X8_findStrikes x w) 8 i3) = w then (if (s_X8_isHidden (sx_X8_findStrikes x w) (nI i3)) = 0 then 0 else 1 : Int32) else 0 : Int32)) 311 ls [.int (itr (f_X8_writer_254_8 (sx_X8_findStrikes x w) w) 0 i3)] (fun J34 => ?_) (fun v35 hv35 => ?_)
                    · refine lv_icmp_ne (tgt := 310) C.hx C.hb dX8_writer_294 (by decide) (fun c32 => ?_) (fun c32 => ?_)
                      · refine lv_iconst (v := 0) C.hx C.hb dX8_writer_310 (by decide) ?_
                        exact J34 _ (by rw [if_neg c32])
                      · refine lv_aload_n C.hx C.hb dX8_writer_297 rfl (lv_at hl 7 rfl) ?_
                        refine lv_iload C.hx C.hb dX8_writer_298 (lv_at hl 1 rfl) ?_
                        refine kVR (As := [.int (nI i3)]) (rest := [.int (itr (f_X8_writer_254_8 (sx_X8_findStrikes x w) w) 0 i3)]) (v := .int (s_X8_isHidden (sx_X8_findStrikes x w) (nI i3))) C (cM_isHidden l G m0 (sx_X8_findStrikes x w) z (hok.mi hI) (nI i3)) lk_X8_219 (g_recv C hW.1 rfl) hW rfl rfl hl (Nat.le_of_ble_eq_true rfl) dX8_writer_300 ⟨⟨by decide, by decide⟩, by decide, by decide⟩ ?_
                        refine lv_if_eq (tgt := 310) C.hx C.hb dX8_writer_303 (by decide) (fun c33 => ?_) (fun c33 => ?_)
                        · refine lv_iconst (v := 0) C.hx C.hb dX8_writer_310 (by decide) ?_
                          exact J34 _ (by rw [if_pos c32, if_pos c33])
                        · refine lv_iconst (v := 1) C.hx C.hb dX8_writer_306 (by decide) ?_
                          refine lv_goto (tgt := 311) C.hx C.hb dX8_writer_307 (by decide) ?_
                          exact J34 _ (by rw [if_pos c32, if_neg c33])
                    · refine lv_iadd C.hx C.hb dX8_writer_311 ?_
                      refine lv_istore (lv' := [(8, .int ((itr (f_X8_writer_254_8 (sx_X8_findStrikes x w) w) 0 i3) + v35)), (7, .int ((itr (f_X8_writer_254_7 (sx_X8_findStrikes x w) w) 0 i3) + v31)), (9, .int (nI i3)), (6, .int (itr (f_X8_writer_180_6 (sx_X8_findStrikes x w) w) 0 (nC x))), (5, .int (itd (f_X8_writer_43_5 (sx_X8_findStrikes x w)) (-1) (tn ((sx_X8_findStrikes x w) 46 0)) 0)), (4, .int (itd (f_X8_writer_43_4 (sx_X8_findStrikes x w)) 0 (tn ((sx_X8_findStrikes x w) 46 0)) 0)), (3, .int (itd (f_X8_writer_43_3 (sx_X8_findStrikes x w)) 0 (tn ((sx_X8_findStrikes x w) 46 0)) 0)), (0, .ref m0), (1, .int w), (2, .int what)]) C.hx C.hb dX8_writer_312 hl (by decide) rfl (fun ls hl => ?_)
                      refine lv_iinc (v := (nI i3) + 1) (lv' := [(9, .int ((nI i3) + 1)), (8, .int ((itr (f_X8_writer_254_8 (sx_X8_findStrikes x w) w) 0 i3) + v35)), (7, .int ((itr (f_X8_writer_254_7 (sx_X8_findStrikes x w) w) 0 i3) + v31)), (6, .int (itr (f_X8_writer_180_6 (sx_X8_findStrikes x w) w) 0 (nC x))), (5, .int (itd (f_X8_writer_43_5 (sx_X8_findStrikes x w)) (-1) (tn ((sx_X8_findStrikes x w) 46 0)) 0)), (4, .int (itd (f_X8_writer_43_4 (sx_X8_findStrikes x w)) 0 (tn ((sx_X8_findStrikes x w) 46 0)) 0)), (3, .int (itd (f_X8_writer_43_3 (sx_X8_findStrikes x w)) 0 (tn ((sx_X8_findStrikes x w) 46 0)) 0)), (0, .ref m0), (1, .int w), (2, .int what)]) C.hx C.hb dX8_writer_314 hl (k := 2) rfl rfl (by decide) rfl (fun ls hl => ?_)
                      refine lv_goto (tgt := 254) C.hx C.hb dX8_writer_317 (by decide) ?_
                      rw [hv35] at hl
                      rw [hv31] at hl
                      rw [nI_1 i3] at hl
                      exact K3 _ (lv_sub hl [0, 1, 2, 3, 4, 5, 6, 7, 8, 9] rfl)
              · refine lv_iload C.hx C.hb dX8_writer_254 (lv_at hl 0 rfl) ?_
                refine lv_aload_n C.hx C.hb dX8_writer_256 rfl (lv_at hl 7 rfl) ?_
                refine g_get (k := 12) (v := .int ((sx_X8_findStrikes x w) 12 0)) C hW.1 rfl wu_X8 (by decide) wf_X8_144 rfl rfl dX8_writer_257 ?_
                refine lv_icmp_ge (tgt := 320) C.hx C.hb dX8_writer_260 (by decide) (fun c36 => ?_) (fun c36 => ?_)
                · refine lv_iload_n C.hx C.hb dX8_writer_320 rfl (lv_at hl 9 rfl) ?_
                  by_cases c37 : what = 0
                  · refine sw_in (off := 39) (tgt := 360) C.hx C.hb dX8_writer_321 c37 (by decide) (by decide) (by decide) (by decide) ?_
                    refine lv_iload_n C.hx C.hb dX8_writer_360 rfl (lv_at hl 6 rfl) ?_
                    exact wI C hr dX8_writer_361 hS (by unfold s_X8_writer; rw [if_neg c1, if_neg c2, if_pos c37]) (by unfold sx_X8_writer; rw [if_neg c1, if_neg c2]; exact hW)
                  by_cases c38 : what = 1
                  · refine sw_in (off := 41) (tgt := 362) C.hx C.hb dX8_writer_321 c38 (by decide) (by decide) (by decide) (by decide) ?_
                    refine lv_iload C.hx C.hb dX8_writer_362 (lv_at hl 5 rfl) ?_
                    exact wI C hr dX8_writer_364 hS (by unfold s_X8_writer; rw [if_neg c1, if_neg c2, if_neg c37, if_pos c38]) (by unfold sx_X8_writer; rw [if_neg c1, if_neg c2]; exact hW)
                  by_cases c39 : what = 2
                  · refine sw_in (off := 44) (tgt := 365) C.hx C.hb dX8_writer_321 c39 (by decide) (by decide) (by decide) (by decide) ?_
                    refine lv_iload C.hx C.hb dX8_writer_365 (lv_at hl 4 rfl) ?_
                    refine W.joinI (P := fun jv => jv = (if (itd (f_X8_writer_43_5 (sx_X8_findStrikes x w)) (-1) (tn ((sx_X8_findStrikes x w) 46 0)) 0) < 0 then 0 else 1 : Int32)) 375 ls [] (fun J41 => ?_) (fun v42 hv42 => ?_)
                    · refine lv_if_lt (tgt := 374) C.hx C.hb dX8_writer_367 (by decide) (fun c40 => ?_) (fun c40 => ?_)
                      · refine lv_iconst (v := 0) C.hx C.hb dX8_writer_374 (by decide) ?_
                        exact J41 _ (by rw [if_pos c40])
                      · refine lv_iconst (v := 1) C.hx C.hb dX8_writer_370 (by decide) ?_
                        refine lv_goto (tgt := 375) C.hx C.hb dX8_writer_371 (by decide) ?_
                        exact J41 _ (by rw [if_neg c40])
                    · exact wI C hr dX8_writer_375 hS (by rw [hv42]; unfold s_X8_writer; rw [if_neg c1, if_neg c2, if_neg c37, if_neg c38, if_pos c39]) (by unfold sx_X8_writer; rw [if_neg c1, if_neg c2]; exact hW)
                  by_cases c43 : what = 3
                  · refine sw_in (off := 55) (tgt := 376) C.hx C.hb dX8_writer_321 c43 (by decide) (by decide) (by decide) (by decide) ?_
                    refine lv_iload C.hx C.hb dX8_writer_376 (lv_at hl 3 rfl) ?_
                    exact wI C hr dX8_writer_378 hS (by unfold s_X8_writer; rw [if_neg c1, if_neg c2, if_neg c37, if_neg c38, if_neg c39, if_pos c43]) (by unfold sx_X8_writer; rw [if_neg c1, if_neg c2]; exact hW)
                  by_cases c44 : what = 4
                  · refine sw_in (off := 58) (tgt := 379) C.hx C.hb dX8_writer_321 c44 (by decide) (by decide) (by decide) (by decide) ?_
                    refine lv_iload C.hx C.hb dX8_writer_379 (lv_at hl 2 rfl) ?_
                    exact wI C hr dX8_writer_381 hS (by unfold s_X8_writer; rw [if_neg c1, if_neg c2, if_neg c37, if_neg c38, if_neg c39, if_neg c43, if_pos c44]) (by unfold sx_X8_writer; rw [if_neg c1, if_neg c2]; exact hW)
                  by_cases c45 : what = 5
                  · refine sw_in (off := 61) (tgt := 382) C.hx C.hb dX8_writer_321 c45 (by decide) (by decide) (by decide) (by decide) ?_
                    refine lv_iload C.hx C.hb dX8_writer_382 (lv_at hl 1 rfl) ?_
                    exact wI C hr dX8_writer_384 hS (by unfold s_X8_writer; rw [if_neg c1, if_neg c2, if_neg c37, if_neg c38, if_neg c39, if_neg c43, if_neg c44, if_pos c45]) (by unfold sx_X8_writer; rw [if_neg c1, if_neg c2]; exact hW)
                  refine lv_tableOut (tgt := 385) C.hx C.hb dX8_writer_321 (by have nc37 := lv_neT c37 (a := 0) (by decide); have nc38 := lv_neT c38 (a := 1) (by decide); have nc39 := lv_neT c39 (a := 2) (by decide); have nc43 := lv_neT c43 (a := 3) (by decide); have nc44 := lv_neT c44 (a := 4) (by decide); have nc45 := lv_neT c45 (a := 5) (by decide); omega) (by decide) ?_
                  refine lv_iload C.hx C.hb dX8_writer_385 (lv_at hl 4 rfl) ?_
                  exact wI C hr dX8_writer_387 hS (by unfold s_X8_writer; rw [if_neg c1, if_neg c2, if_neg c37, if_neg c38, if_neg c39, if_neg c43, if_neg c44, if_neg c45]) (by unfold sx_X8_writer; rw [if_neg c1, if_neg c2]; exact hW)
                · exact absurd (le_eqn eP) c36
            · exact absurd (le_eqn eC) c27
        · exact absurd (by decide) c18
    · refine lv_iconst (v := (-1)) C.hx C.hb dX8_writer_20 (by decide) ?_
      exact wI C hr dX8_writer_21 hS (by unfold s_X8_writer; rw [if_neg c1, if_pos c2]) (by unfold sx_X8_writer; rw [if_neg c1, if_pos c2]; exact hW)
def q_X8_level_27 (X : Nat → Nat → Int32) (cN : Nat) : Nat → Bool := fun i1 => (if (X 43 i1) = (nI cN) then true else false)
def s_X8_level (x : Nat → Nat → Int32) (c : Int32) : Int32 := (if (s_X8_isCase x c) = 0 then (-1) else (if hasv (q_X8_level_27 (sx_X8_findStrikes x (x 8 (tn (x 13 (tn c))))) (tn c)) (tn ((sx_X8_findStrikes x (x 8 (tn (x 13 (tn c))))) 46 0)) = true then (sx_X8_findStrikes x (x 8 (tn (x 13 (tn c))))) 45 (fstv (q_X8_level_27 (sx_X8_findStrikes x (x 8 (tn (x 13 (tn c))))) (tn c)) (tn ((sx_X8_findStrikes x (x 8 (tn (x 13 (tn c))))) 46 0))) else (-4)))
def sx_X8_level (x : Nat → Nat → Int32) (c : Int32) : Nat → Nat → Int32 := (if (s_X8_isCase x c) = 0 then x else (sx_X8_findStrikes x (x 8 (tn (x 13 (tn c))))))
set_option maxRecDepth 100000 in
set_option maxHeartbeats 400000 in
theorem cM_level (l : Launch) (G : GG) (m0 : Nat) (x : Nat → Nat → Int32) (z : Nat → Int64) (hI : MI x) (c : Int32) : MW l G yX8_level cX8_level 3 (some .int) 2 [.ref m0, .int c] (MWd G m0 x z) (some (.int (s_X8_level x c))) (MWd G m0 (sx_X8_level x c) z) (MA m0) 0 0 := by
  refine MW.of RX8 rfl (by decide) (Nat.le_of_ble_eq_true rfl) ?_
  intro p_ e_ s_ m_ args_ below_ meth_ c_ ls hargs C hr hnm hW hS hl
  obtain ⟨⟨eP, bP⟩, ⟨eC, bC⟩, ⟨eG, bG⟩, ⟨eV, bV⟩, -, -⟩ := id hI
  have hl : lv_has ls 3 [(0, .ref m0), (1, .int c)] := hl
  refine lv_aload_n C.hx C.hb dX8_level_0 rfl (lv_at hl 0 rfl) ?_
  refine lv_iload_n C.hx C.hb dX8_level_1 rfl (lv_at hl 1 rfl) ?_
  refine kVR (As := [.int c]) (rest := []) (v := .int (s_X8_isCase x c)) C (cM_isCase l G m0 x z hI c) lk_X8_184 (g_recv C hW.1 rfl) hW rfl rfl hl (Nat.le_of_ble_eq_true rfl) dX8_level_2 ⟨⟨by decide, by decide⟩, by decide, by decide⟩ ?_
  refine lv_if_ne (tgt := 10) C.hx C.hb dX8_level_5 (by decide) (fun c1 => ?_) (fun c1 => ?_)
  · obtain ⟨cN, hcN, rfl⟩ := isCase_nz hI c1
    have tcN : tn (nI cN) = cN := nI_clamp (by omega)
    refine lv_aload_n C.hx C.hb dX8_level_10 rfl (lv_at hl 0 rfl) ?_
    refine lv_aload_n C.hx C.hb dX8_level_11 rfl (lv_at hl 0 rfl) ?_
    refine g_get (k := 8) (v := .ref (am m0 8)) C hW.1 rfl wu_X8 (by decide) wf_X8_32 rfl rfl dX8_level_12 ?_
    refine lv_aload_n C.hx C.hb dX8_level_15 rfl (lv_at hl 0 rfl) ?_
    refine g_get (k := 13) (v := .ref (am m0 13)) C hW.1 rfl wu_X8 (by decide) wf_X8_44 rfl rfl dX8_level_16 ?_
    refine lv_iload_n C.hx C.hb dX8_level_19 rfl (lv_at hl 1 rfl) ?_
    refine g_iald (f := x 13) (k := cN) C (hW.2.1 13 rfl) rfl (show cN < 400 by omega) (by decide) dX8_level_20 ?_
    have f2 := MI.po hI (show cN < nC x by omega)
    have f2b : tn (x 13 cN) < nP x := f2.2
    refine g_iald (f := x 8) (k := (tn (x 13 cN))) C (hW.2.1 8 rfl) f2.1 (show (tn (x 13 cN)) < 300 by omega) (by decide) dX8_level_21 ?_
    refine kVWn (As := [.int (x 8 (tn (x 13 cN)))]) (rest := []) C (cM_findStrikes l G m0 x z hI (x 8 (tn (x 13 cN)))) lk_X8_216 (g_recv C hW.1 rfl) hW rfl rfl hl (Nat.le_of_ble_eq_true rfl) dX8_level_22 ⟨⟨by decide, by decide⟩, by decide, by decide⟩ hS (fun q h => h) (fun H locs hP hz1 hk1 hS => ?_)
    have hW : MWd G m0 (sx_X8_findStrikes x (x 8 (tn (x 13 cN)))) z H := hP
    have hok := fs_ok hI (x 8 (tn (x 13 cN)))
    have hag := hok.1
    have eP : (sx_X8_findStrikes x (x 8 (tn (x 13 cN)))) 12 0 = nI (nP x) := by rw [hag 12 (by decide) (by decide) (by decide) (by decide)]; exact hI.1.1
    have eC : (sx_X8_findStrikes x (x 8 (tn (x 13 cN)))) 27 0 = nI (nC x) := by rw [hag 27 (by decide) (by decide) (by decide) (by decide)]; exact hI.2.1.1
    have enC : nC (sx_X8_findStrikes x (x 8 (tn (x 13 cN)))) = nC x := by show tn ((sx_X8_findStrikes x (x 8 (tn (x 13 cN)))) 27 0) = _; rw [hag 27 (by decide) (by decide) (by decide) (by decide)]
    have enP : nP (sx_X8_findStrikes x (x 8 (tn (x 13 cN)))) = nP x := by show tn ((sx_X8_findStrikes x (x 8 (tn (x 13 cN)))) 12 0) = _; rw [hag 12 (by decide) (by decide) (by decide) (by decide)]
    have h46 := hok.2.1
    have hle46 := fs_le hI (x 8 (tn (x 13 cN)))
    refine lv_iconst (v := 0) C.hx C.hb dX8_level_25 (by decide) ?_
    refine lv_istore_n (lv' := [(2, .int 0), (0, .ref m0), (1, .int (nI cN))]) C.hx C.hb dX8_level_26 rfl hl (by decide) rfl (fun ls hl => ?_)
    refine W.loopR (N := (tn ((sx_X8_findStrikes x (x 8 (tn (x 13 cN)))) 46 0))) (Inv := fun i ls => lv_has ls 3 [(2, .int (nI i)), (0, .ref m0), (1, .int (nI cN))] ∧ hasv (q_X8_level_27 (sx_X8_findStrikes x (x 8 (tn (x 13 cN)))) cN) i = false) 27 [] (fun i1 ls hi1 hq K1 => ?_) (fun ls hq => ?_) 0 ls (Nat.zero_le _) ⟨lv_sub hl [0, 1, 2] rfl, rfl⟩
    · obtain ⟨hl, hno⟩ := hq
      refine lv_iload_n C.hx C.hb dX8_level_27 rfl (lv_at hl 0 rfl) ?_
      refine lv_aload_n C.hx C.hb dX8_level_28 rfl (lv_at hl 1 rfl) ?_
      refine g_get (k := 46) (v := .int ((sx_X8_findStrikes x (x 8 (tn (x 13 cN)))) 46 0)) C hW.1 rfl wu_X8 (by decide) wf_X8_210 rfl rfl dX8_level_29 ?_
      refine lv_icmp_ge (tgt := 58) C.hx C.hb dX8_level_32 (by decide) (fun c3 => ?_) (fun c3 => ?_)
      · exact absurd c3 (lt_nle h46 hi1 (by omega))
      · refine lv_aload_n C.hx C.hb dX8_level_35 rfl (lv_at hl 1 rfl) ?_
        refine g_get (k := 43) (v := .ref (am m0 43)) C hW.1 rfl wu_X8 (by decide) wf_X8_124 rfl rfl dX8_level_36 ?_
        refine lv_iload_n C.hx C.hb dX8_level_39 rfl (lv_at hl 0 rfl) ?_
        refine g_iald (f := (sx_X8_findStrikes x (x 8 (tn (x 13 cN)))) 43) (k := i1) C (hW.2.1 43 rfl) rfl (show i1 < 400 by omega) (by decide) dX8_level_40 ?_
        refine lv_iload_n C.hx C.hb dX8_level_41 rfl (lv_at hl 2 rfl) ?_
        refine lv_icmp_ne (tgt := 52) C.hx C.hb dX8_level_42 (by decide) (fun c4 => ?_) (fun c4 => ?_)
        · refine lv_iinc (v := (nI i1) + 1) (lv' := [(2, .int ((nI i1) + 1)), (0, .ref m0), (1, .int (nI cN))]) C.hx C.hb dX8_level_52 hl (k := 0) rfl rfl (by decide) rfl (fun ls hl => ?_)
          refine lv_goto (tgt := 27) C.hx C.hb dX8_level_55 (by decide) ?_
          rw [nI_1 i1] at hl
          exact K1 _ ⟨lv_sub hl [0, 1, 2] rfl, hasv_no hno (by unfold q_X8_level_27; rw [if_neg c4])⟩
        · refine lv_aload_n C.hx C.hb dX8_level_45 rfl (lv_at hl 1 rfl) ?_
          refine g_get (k := 45) (v := .ref (am m0 45)) C hW.1 rfl wu_X8 (by decide) wf_X8_130 rfl rfl dX8_level_46 ?_
          refine lv_iload_n C.hx C.hb dX8_level_49 rfl (lv_at hl 0 rfl) ?_
          refine g_iald (f := (sx_X8_findStrikes x (x 8 (tn (x 13 cN)))) 45) (k := i1) C (hW.2.1 45 rfl) rfl (show i1 < 400 by omega) (by decide) dX8_level_50 ?_
          have hk1 : hasv (q_X8_level_27 (sx_X8_findStrikes x (x 8 (tn (x 13 cN)))) cN) (tn ((sx_X8_findStrikes x (x 8 (tn (x 13 cN)))) 46 0)) = true := hasv_yes hi1 (by unfold q_X8_level_27; rw [if_pos c4])
          have ei1 : fstv (q_X8_level_27 (sx_X8_findStrikes x (x 8 (tn (x 13 cN)))) cN) (tn ((sx_X8_findStrikes x (x 8 (tn (x 13 cN)))) 46 0)) = i1 := fstv_eq hi1 hno (by unfold q_X8_level_27; rw [if_pos c4])
          exact wI C hr dX8_level_51 hS (by unfold s_X8_level; (try simp only [tcN, ei1]); rw [if_neg c1, if_pos hk1]) (by unfold sx_X8_level; (try simp only [tcN, ei1]); rw [if_neg c1]; exact hW)
    · obtain ⟨hl, hno⟩ := hq
      have hk1 : ¬ hasv (q_X8_level_27 (sx_X8_findStrikes x (x 8 (tn (x 13 cN)))) cN) (tn ((sx_X8_findStrikes x (x 8 (tn (x 13 cN)))) 46 0)) = true := by rw [hno]; decide
      refine lv_iload_n C.hx C.hb dX8_level_27 rfl (lv_at hl 0 rfl) ?_
      refine lv_aload_n C.hx C.hb dX8_level_28 rfl (lv_at hl 1 rfl) ?_
      refine g_get (k := 46) (v := .int ((sx_X8_findStrikes x (x 8 (tn (x 13 cN)))) 46 0)) C hW.1 rfl wu_X8 (by decide) wf_X8_210 rfl rfl dX8_level_29 ?_
      refine lv_icmp_ge (tgt := 58) C.hx C.hb dX8_level_32 (by decide) (fun c5 => ?_) (fun c5 => ?_)
      · refine lv_bipush (v := (-4)) C.hx C.hb dX8_level_58 (by decide) ?_
        exact wI C hr dX8_level_60 hS (by unfold s_X8_level; (try simp only [tcN]); rw [if_neg c1, if_neg hk1]) (by unfold sx_X8_level; (try simp only [tcN]); rw [if_neg c1]; exact hW)
      · exact absurd (le_eqn h46) c5
  · refine lv_iconst (v := (-1)) C.hx C.hb dX8_level_8 (by decide) ?_
    exact wI C hr dX8_level_9 hS (by unfold s_X8_level; rw [if_pos c1]) (by unfold sx_X8_level; rw [if_pos c1]; exact hW)
