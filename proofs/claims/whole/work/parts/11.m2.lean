def f_X8_votesOf_4_2 (x : Nat → Nat → Int32) (cN : Nat) : Nat → Int32 → Int32 := fun i1 a => (a) + (if (x 38 i1) = (nI cN) then (if (x 39 i1) = (s_X8_timeOf x cN) then 1 else 0 : Int32) else 0 : Int32)
def s_X8_votesOf (x : Nat → Nat → Int32) (cN : Nat) : Int32 := itr (f_X8_votesOf_4_2 x cN) 0 (nV x)
set_option maxRecDepth 100000 in
set_option maxHeartbeats 400000 in
theorem cM_votesOf (l : Launch) (G : GG) (m0 : Nat) (x : Nat → Nat → Int32) (z : Nat → Int64) (hI : MI x) (cN : Nat) (hc : cN < nC x) : MR l G yX8_votesOf cX8_votesOf 4 (some .int) 1 [.ref m0, .int (nI cN)] (MWd G m0 x z) (some (.int (s_X8_votesOf x cN))) := by
  refine MR.of RX8 rfl (by decide) (Nat.le_of_ble_eq_true rfl) ?_
  intro p_ e_ s_ m_ args_ below_ meth_ c_ ls hargs C hr hnm hW hl
  obtain ⟨⟨eP, bP⟩, ⟨eC, bC⟩, ⟨eG, bG⟩, ⟨eV, bV⟩, -, -⟩ := id hI
  have hl : lv_has ls 4 [(0, .ref m0), (1, .int (nI cN))] := hl
  refine lv_iconst (v := 0) C.hx C.hb dX8_votesOf_0 (by decide) ?_
  refine lv_istore_n (lv' := [(2, .int 0), (0, .ref m0), (1, .int (nI cN))]) C.hx C.hb dX8_votesOf_1 rfl hl (by decide) rfl (fun ls hl => ?_)
  refine lv_iconst (v := 0) C.hx C.hb dX8_votesOf_2 (by decide) ?_
  refine lv_istore_n (lv' := [(3, .int 0), (2, .int 0), (0, .ref m0), (1, .int (nI cN))]) C.hx C.hb dX8_votesOf_3 rfl hl (by decide) rfl (fun ls hl => ?_)
  refine W.loopR (N := nV x) (Inv := fun i ls => lv_has ls 4 [(3, .int (nI i)), (2, .int (itr (f_X8_votesOf_4_2 x cN) 0 i)), (0, .ref m0), (1, .int (nI cN))]) 4 [] (fun i1 ls hi1 hl K1 => ?_) (fun ls hl => ?_) 0 ls (Nat.zero_le _) (lv_sub hl [0, 1, 2, 3] rfl)
  · refine lv_iload_n C.hx C.hb dX8_votesOf_4 rfl (lv_at hl 0 rfl) ?_
    refine lv_aload_n C.hx C.hb dX8_votesOf_5 rfl (lv_at hl 2 rfl) ?_
    refine g_get (k := 42) (v := .int (x 42 0)) C hW.1 rfl wu_X8 (by decide) wf_X8_160 rfl rfl dX8_votesOf_6 ?_
    refine lv_icmp_ge (tgt := 50) C.hx C.hb dX8_votesOf_9 (by decide) (fun c1 => ?_) (fun c1 => ?_)
    · exact absurd c1 (lt_nle eV hi1 (by omega))
    · refine lv_iload_n C.hx C.hb dX8_votesOf_12 rfl (lv_at hl 1 rfl) ?_
      refine lv_aload_n C.hx C.hb dX8_votesOf_13 rfl (lv_at hl 2 rfl) ?_
      refine g_get (k := 38) (v := .ref (am m0 38)) C hW.1 rfl wu_X8 (by decide) wf_X8_112 rfl rfl dX8_votesOf_14 ?_
      refine lv_iload_n C.hx C.hb dX8_votesOf_17 rfl (lv_at hl 0 rfl) ?_
      refine g_iald (f := x 38) (k := i1) C (hW.2.1 38 rfl) rfl (show i1 < 8000 by omega) (by decide) dX8_votesOf_18 ?_
      have f2 := MI.vc hI (show i1 < nV x by omega)
      have f2b : tn (x 38 i1) < nC x := f2.2
      refine lv_iload_n C.hx C.hb dX8_votesOf_19 rfl (lv_at hl 3 rfl) ?_
      refine W.joinI (P := fun jv => jv = (if (x 38 i1) = (nI cN) then (if (x 39 i1) = (s_X8_timeOf x cN) then 1 else 0 : Int32) else 0 : Int32)) 42 ls [.int (itr (f_X8_votesOf_4_2 x cN) 0 i1)] (fun J7 => ?_) (fun v8 hv8 => ?_)
      · refine lv_icmp_ne (tgt := 41) C.hx C.hb dX8_votesOf_20 (by decide) (fun c3 => ?_) (fun c3 => ?_)
        · refine lv_iconst (v := 0) C.hx C.hb dX8_votesOf_41 (by decide) ?_
          exact J7 _ (by rw [if_neg c3])
        · refine lv_aload_n C.hx C.hb dX8_votesOf_23 rfl (lv_at hl 2 rfl) ?_
          refine g_get (k := 39) (v := .ref (am m0 39)) C hW.1 rfl wu_X8 (by decide) wf_X8_115 rfl rfl dX8_votesOf_24 ?_
          refine lv_iload_n C.hx C.hb dX8_votesOf_27 rfl (lv_at hl 0 rfl) ?_
          refine g_iald (f := x 39) (k := i1) C (hW.2.1 39 rfl) rfl (show i1 < 8000 by omega) (by decide) dX8_votesOf_28 ?_
          have f4 := MI.vt hI (show i1 < nV x by omega)
          have f4b : tn (x 39 i1) < 2 := f4.2
          refine lv_aload_n C.hx C.hb dX8_votesOf_29 rfl (lv_at hl 2 rfl) ?_
          refine lv_iload_n C.hx C.hb dX8_votesOf_30 rfl (lv_at hl 3 rfl) ?_
          refine kVR (As := [.int (nI cN)]) (rest := [.int (x 39 i1), .int (itr (f_X8_votesOf_4_2 x cN) 0 i1)]) (v := .int (s_X8_timeOf x cN)) C (cM_timeOf l G m0 x z hI cN (show cN < nC x by omega)) lk_X8_163 (g_recv C hW.1 rfl) hW rfl rfl hl (Nat.le_of_ble_eq_true rfl) dX8_votesOf_31 ⟨⟨by decide, by decide⟩, by decide, by decide⟩ ?_
          have f4 := (timeOf_ix x cN).2
          refine lv_icmp_ne (tgt := 41) C.hx C.hb dX8_votesOf_34 (by decide) (fun c6 => ?_) (fun c6 => ?_)
          · refine lv_iconst (v := 0) C.hx C.hb dX8_votesOf_41 (by decide) ?_
            exact J7 _ (by rw [if_pos c3, if_neg c6])
          · refine lv_iconst (v := 1) C.hx C.hb dX8_votesOf_37 (by decide) ?_
            refine lv_goto (tgt := 42) C.hx C.hb dX8_votesOf_38 (by decide) ?_
            exact J7 _ (by rw [if_pos c3, if_pos c6])
      · refine lv_iadd C.hx C.hb dX8_votesOf_42 ?_
        refine lv_istore_n (lv' := [(2, .int ((itr (f_X8_votesOf_4_2 x cN) 0 i1) + v8)), (3, .int (nI i1)), (0, .ref m0), (1, .int (nI cN))]) C.hx C.hb dX8_votesOf_43 rfl hl (by decide) rfl (fun ls hl => ?_)
        refine lv_iinc (v := (nI i1) + 1) (lv' := [(3, .int ((nI i1) + 1)), (2, .int ((itr (f_X8_votesOf_4_2 x cN) 0 i1) + v8)), (0, .ref m0), (1, .int (nI cN))]) C.hx C.hb dX8_votesOf_44 hl (k := 1) rfl rfl (by decide) rfl (fun ls hl => ?_)
        refine lv_goto (tgt := 4) C.hx C.hb dX8_votesOf_47 (by decide) ?_
        rw [hv8] at hl
        rw [nI_1 i1] at hl
        exact K1 _ (lv_sub hl [0, 1, 2, 3] rfl)
  · refine lv_iload_n C.hx C.hb dX8_votesOf_4 rfl (lv_at hl 0 rfl) ?_
    refine lv_aload_n C.hx C.hb dX8_votesOf_5 rfl (lv_at hl 2 rfl) ?_
    refine g_get (k := 42) (v := .int (x 42 0)) C hW.1 rfl wu_X8 (by decide) wf_X8_160 rfl rfl dX8_votesOf_6 ?_
    refine lv_icmp_ge (tgt := 50) C.hx C.hb dX8_votesOf_9 (by decide) (fun c9 => ?_) (fun c9 => ?_)
    · refine lv_iload_n C.hx C.hb dX8_votesOf_50 rfl (lv_at hl 1 rfl) ?_
      exact rI C hr dX8_votesOf_51 (by unfold s_X8_votesOf; with_reducible rfl)
    · exact absurd (le_eqn eV) c9
def f_X8_giftsOf_5_3 (x : Nat → Nat → Int32) (j : Int32) (c : Int32) : Nat → Int32 → Int32 := fun i1 a => (a) + (if j < 0 then (if c < 0 then 1 else (if (x 35 i1) = c then 1 else 0 : Int32) : Int32) else (if (x 34 i1) = j then (if c < 0 then 1 else (if (x 35 i1) = c then 1 else 0 : Int32) : Int32) else 0 : Int32) : Int32)
def s_X8_giftsOf (x : Nat → Nat → Int32) (j : Int32) (c : Int32) : Int32 := itr (f_X8_giftsOf_5_3 x j c) 0 (nG x)
set_option maxRecDepth 100000 in
set_option maxHeartbeats 400000 in
theorem cM_giftsOf (l : Launch) (G : GG) (m0 : Nat) (x : Nat → Nat → Int32) (z : Nat → Int64) (hI : MI x) (j : Int32) (c : Int32) : MR l G yX8_giftsOf cX8_giftsOf 5 (some .int) 0 [.ref m0, .int j, .int c] (MWd G m0 x z) (some (.int (s_X8_giftsOf x j c))) := by
  refine MR.of RX8 rfl (by decide) (Nat.le_of_ble_eq_true rfl) ?_
  intro p_ e_ s_ m_ args_ below_ meth_ c_ ls hargs C hr hnm hW hl
  obtain ⟨⟨eP, bP⟩, ⟨eC, bC⟩, ⟨eG, bG⟩, ⟨eV, bV⟩, -, -⟩ := id hI
  have hl : lv_has ls 5 [(0, .ref m0), (1, .int j), (2, .int c)] := hl
  refine lv_iconst (v := 0) C.hx C.hb dX8_giftsOf_0 (by decide) ?_
  refine lv_istore_n (lv' := [(3, .int 0), (0, .ref m0), (1, .int j), (2, .int c)]) C.hx C.hb dX8_giftsOf_1 rfl hl (by decide) rfl (fun ls hl => ?_)
  refine lv_iconst (v := 0) C.hx C.hb dX8_giftsOf_2 (by decide) ?_
  refine lv_istore (lv' := [(4, .int 0), (3, .int 0), (0, .ref m0), (1, .int j), (2, .int c)]) C.hx C.hb dX8_giftsOf_3 hl (by decide) rfl (fun ls hl => ?_)
  refine W.loopR (N := nG x) (Inv := fun i ls => lv_has ls 5 [(4, .int (nI i)), (3, .int (itr (f_X8_giftsOf_5_3 x j c) 0 i)), (0, .ref m0), (1, .int j), (2, .int c)]) 5 [] (fun i1 ls hi1 hl K1 => ?_) (fun ls hl => ?_) 0 ls (Nat.zero_le _) (lv_sub hl [0, 1, 2, 3, 4] rfl)
  · refine lv_iload C.hx C.hb dX8_giftsOf_5 (lv_at hl 0 rfl) ?_
    refine lv_aload_n C.hx C.hb dX8_giftsOf_7 rfl (lv_at hl 2 rfl) ?_
    refine g_get (k := 36) (v := .int (x 36 0)) C hW.1 rfl wu_X8 (by decide) wf_X8_153 rfl rfl dX8_giftsOf_8 ?_
    refine lv_icmp_ge (tgt := 58) C.hx C.hb dX8_giftsOf_11 (by decide) (fun c1 => ?_) (fun c1 => ?_)
    · exact absurd c1 (lt_nle eG hi1 (by omega))
    · refine lv_iload_n C.hx C.hb dX8_giftsOf_14 rfl (lv_at hl 1 rfl) ?_
      refine lv_iload_n C.hx C.hb dX8_giftsOf_15 rfl (lv_at hl 3 rfl) ?_
      refine W.joinI (P := fun jv => jv = (if j < 0 then (if c < 0 then 1 else (if (x 35 i1) = c then 1 else 0 : Int32) : Int32) else (if (x 34 i1) = j then (if c < 0 then 1 else (if (x 35 i1) = c then 1 else 0 : Int32) : Int32) else 0 : Int32) : Int32)) 50 ls [.int (itr (f_X8_giftsOf_5_3 x j c) 0 i1)] (fun J8 => ?_) (fun v9 hv9 => ?_)
      · refine lv_if_lt (tgt := 30) C.hx C.hb dX8_giftsOf_16 (by decide) (fun c2 => ?_) (fun c2 => ?_)
        · refine lv_iload_n C.hx C.hb dX8_giftsOf_30 rfl (lv_at hl 4 rfl) ?_
          refine lv_if_lt (tgt := 45) C.hx C.hb dX8_giftsOf_31 (by decide) (fun c3 => ?_) (fun c3 => ?_)
          · refine lv_iconst (v := 1) C.hx C.hb dX8_giftsOf_45 (by decide) ?_
            refine lv_goto (tgt := 50) C.hx C.hb dX8_giftsOf_46 (by decide) ?_
            exact J8 _ (by rw [if_pos c2, if_pos c3])
          · refine lv_aload_n C.hx C.hb dX8_giftsOf_34 rfl (lv_at hl 2 rfl) ?_
            refine g_get (k := 35) (v := .ref (am m0 35)) C hW.1 rfl wu_X8 (by decide) wf_X8_106 rfl rfl dX8_giftsOf_35 ?_
            refine lv_iload C.hx C.hb dX8_giftsOf_38 (lv_at hl 0 rfl) ?_
            refine g_iald (f := x 35) (k := i1) C (hW.2.1 35 rfl) rfl (show i1 < 400 by omega) (by decide) dX8_giftsOf_40 ?_
            refine lv_iload_n C.hx C.hb dX8_giftsOf_41 rfl (lv_at hl 4 rfl) ?_
            refine lv_icmp_ne (tgt := 49) C.hx C.hb dX8_giftsOf_42 (by decide) (fun c4 => ?_) (fun c4 => ?_)
            · refine lv_iconst (v := 0) C.hx C.hb dX8_giftsOf_49 (by decide) ?_
              exact J8 _ (by rw [if_pos c2, if_neg c3, if_neg c4])
            · refine lv_iconst (v := 1) C.hx C.hb dX8_giftsOf_45 (by decide) ?_
              refine lv_goto (tgt := 50) C.hx C.hb dX8_giftsOf_46 (by decide) ?_
              exact J8 _ (by rw [if_pos c2, if_neg c3, if_pos c4])
        · refine lv_aload_n C.hx C.hb dX8_giftsOf_19 rfl (lv_at hl 2 rfl) ?_
          refine g_get (k := 34) (v := .ref (am m0 34)) C hW.1 rfl wu_X8 (by decide) wf_X8_103 rfl rfl dX8_giftsOf_20 ?_
          refine lv_iload C.hx C.hb dX8_giftsOf_23 (lv_at hl 0 rfl) ?_
          refine g_iald (f := x 34) (k := i1) C (hW.2.1 34 rfl) rfl (show i1 < 400 by omega) (by decide) dX8_giftsOf_25 ?_
          refine lv_iload_n C.hx C.hb dX8_giftsOf_26 rfl (lv_at hl 3 rfl) ?_
          refine lv_icmp_ne (tgt := 49) C.hx C.hb dX8_giftsOf_27 (by decide) (fun c5 => ?_) (fun c5 => ?_)
          · refine lv_iconst (v := 0) C.hx C.hb dX8_giftsOf_49 (by decide) ?_
            exact J8 _ (by rw [if_neg c2, if_neg c5])
          · refine lv_iload_n C.hx C.hb dX8_giftsOf_30 rfl (lv_at hl 4 rfl) ?_
            refine lv_if_lt (tgt := 45) C.hx C.hb dX8_giftsOf_31 (by decide) (fun c6 => ?_) (fun c6 => ?_)
            · refine lv_iconst (v := 1) C.hx C.hb dX8_giftsOf_45 (by decide) ?_
              refine lv_goto (tgt := 50) C.hx C.hb dX8_giftsOf_46 (by decide) ?_
              exact J8 _ (by rw [if_neg c2, if_pos c5, if_pos c6])
            · refine lv_aload_n C.hx C.hb dX8_giftsOf_34 rfl (lv_at hl 2 rfl) ?_
              refine g_get (k := 35) (v := .ref (am m0 35)) C hW.1 rfl wu_X8 (by decide) wf_X8_106 rfl rfl dX8_giftsOf_35 ?_
              refine lv_iload C.hx C.hb dX8_giftsOf_38 (lv_at hl 0 rfl) ?_
              refine g_iald (f := x 35) (k := i1) C (hW.2.1 35 rfl) rfl (show i1 < 400 by omega) (by decide) dX8_giftsOf_40 ?_
              refine lv_iload_n C.hx C.hb dX8_giftsOf_41 rfl (lv_at hl 4 rfl) ?_
              refine lv_icmp_ne (tgt := 49) C.hx C.hb dX8_giftsOf_42 (by decide) (fun c7 => ?_) (fun c7 => ?_)
              · refine lv_iconst (v := 0) C.hx C.hb dX8_giftsOf_49 (by decide) ?_
                exact J8 _ (by rw [if_neg c2, if_pos c5, if_neg c6, if_neg c7])
              · refine lv_iconst (v := 1) C.hx C.hb dX8_giftsOf_45 (by decide) ?_
                refine lv_goto (tgt := 50) C.hx C.hb dX8_giftsOf_46 (by decide) ?_
                exact J8 _ (by rw [if_neg c2, if_pos c5, if_neg c6, if_pos c7])
      · refine lv_iadd C.hx C.hb dX8_giftsOf_50 ?_
        refine lv_istore_n (lv' := [(3, .int ((itr (f_X8_giftsOf_5_3 x j c) 0 i1) + v9)), (4, .int (nI i1)), (0, .ref m0), (1, .int j), (2, .int c)]) C.hx C.hb dX8_giftsOf_51 rfl hl (by decide) rfl (fun ls hl => ?_)
        refine lv_iinc (v := (nI i1) + 1) (lv' := [(4, .int ((nI i1) + 1)), (3, .int ((itr (f_X8_giftsOf_5_3 x j c) 0 i1) + v9)), (0, .ref m0), (1, .int j), (2, .int c)]) C.hx C.hb dX8_giftsOf_52 hl (k := 1) rfl rfl (by decide) rfl (fun ls hl => ?_)
        refine lv_goto (tgt := 5) C.hx C.hb dX8_giftsOf_55 (by decide) ?_
        rw [hv9] at hl
        rw [nI_1 i1] at hl
        exact K1 _ (lv_sub hl [0, 1, 2, 3, 4] rfl)
  · refine lv_iload C.hx C.hb dX8_giftsOf_5 (lv_at hl 0 rfl) ?_
    refine lv_aload_n C.hx C.hb dX8_giftsOf_7 rfl (lv_at hl 2 rfl) ?_
    refine g_get (k := 36) (v := .int (x 36 0)) C hW.1 rfl wu_X8 (by decide) wf_X8_153 rfl rfl dX8_giftsOf_8 ?_
    refine lv_icmp_ge (tgt := 58) C.hx C.hb dX8_giftsOf_11 (by decide) (fun c10 => ?_) (fun c10 => ?_)
    · refine lv_iload_n C.hx C.hb dX8_giftsOf_58 rfl (lv_at hl 1 rfl) ?_
      exact rI C hr dX8_giftsOf_59 (by unfold s_X8_giftsOf; with_reducible rfl)
    · exact absurd (le_eqn eG) c10
def f_X8_doubt_5_3 (x : Nat → Nat → Int32) (j : Int32) (alone : Int32) : Nat → Int32 → Int32 := fun i1 a => (a) + (if (x 37 i1) = j then (if (s_X8_against x i1) < 0 then 0 else (if alone = 0 then 1 else (if (x 40 i1) = (s_X8_against x i1) then 0 else 1 : Int32) : Int32) : Int32) else 0 : Int32)
def s_X8_doubt (x : Nat → Nat → Int32) (j : Int32) (alone : Int32) : Int32 := itr (f_X8_doubt_5_3 x j alone) 0 (nV x)
set_option maxRecDepth 100000 in
set_option maxHeartbeats 400000 in
theorem cM_doubt (l : Launch) (G : GG) (m0 : Nat) (x : Nat → Nat → Int32) (z : Nat → Int64) (hI : MI x) (j : Int32) (alone : Int32) : MR l G yX8_doubt cX8_doubt 6 (some .int) 1 [.ref m0, .int j, .int alone] (MWd G m0 x z) (some (.int (s_X8_doubt x j alone))) := by
  refine MR.of RX8 rfl (by decide) (Nat.le_of_ble_eq_true rfl) ?_
  intro p_ e_ s_ m_ args_ below_ meth_ c_ ls hargs C hr hnm hW hl
  obtain ⟨⟨eP, bP⟩, ⟨eC, bC⟩, ⟨eG, bG⟩, ⟨eV, bV⟩, -, -⟩ := id hI
  have hl : lv_has ls 6 [(0, .ref m0), (1, .int j), (2, .int alone)] := hl
  refine lv_iconst (v := 0) C.hx C.hb dX8_doubt_0 (by decide) ?_
  refine lv_istore_n (lv' := [(3, .int 0), (0, .ref m0), (1, .int j), (2, .int alone)]) C.hx C.hb dX8_doubt_1 rfl hl (by decide) rfl (fun ls hl => ?_)
  refine lv_iconst (v := 0) C.hx C.hb dX8_doubt_2 (by decide) ?_
  refine lv_istore (lv' := [(4, .int 0), (3, .int 0), (0, .ref m0), (1, .int j), (2, .int alone)]) C.hx C.hb dX8_doubt_3 hl (by decide) rfl (fun ls hl => ?_)
  refine W.loopR (N := nV x) (Inv := fun i ls => lv_has ls 6 [(4, .int (nI i)), (3, .int (itr (f_X8_doubt_5_3 x j alone) 0 i)), (0, .ref m0), (1, .int j), (2, .int alone)]) 5 [] (fun i1 ls hi1 hl K1 => ?_) (fun ls hl => ?_) 0 ls (Nat.zero_le _) (lv_sub hl [0, 1, 2, 3, 4] rfl)
  · refine lv_iload C.hx C.hb dX8_doubt_5 (lv_at hl 0 rfl) ?_
    refine lv_aload_n C.hx C.hb dX8_doubt_7 rfl (lv_at hl 2 rfl) ?_
    refine g_get (k := 42) (v := .int (x 42 0)) C hW.1 rfl wu_X8 (by decide) wf_X8_160 rfl rfl dX8_doubt_8 ?_
    refine lv_icmp_ge (tgt := 68) C.hx C.hb dX8_doubt_11 (by decide) (fun c1 => ?_) (fun c1 => ?_)
    · exact absurd c1 (lt_nle eV hi1 (by omega))
    · refine lv_aload_n C.hx C.hb dX8_doubt_14 rfl (lv_at hl 2 rfl) ?_
      refine lv_iload C.hx C.hb dX8_doubt_15 (lv_at hl 0 rfl) ?_
      refine kVR (As := [.int (nI i1)]) (rest := []) (v := .int (s_X8_against x i1)) C (cM_against l G m0 x z hI i1 (show i1 < nV x by omega)) lk_X8_187 (g_recv C hW.1 rfl) hW rfl rfl hl (Nat.le_of_ble_eq_true rfl) dX8_doubt_17 ⟨⟨by decide, by decide⟩, by decide, by decide⟩ ?_
      refine lv_istore (lv' := [(5, .int (s_X8_against x i1)), (4, .int (nI i1)), (3, .int (itr (f_X8_doubt_5_3 x j alone) 0 i1)), (0, .ref m0), (1, .int j), (2, .int alone)]) C.hx C.hb dX8_doubt_20 hl (by decide) rfl (fun ls hl => ?_)
      refine lv_iload_n C.hx C.hb dX8_doubt_22 rfl (lv_at hl 2 rfl) ?_
      refine lv_aload_n C.hx C.hb dX8_doubt_23 rfl (lv_at hl 3 rfl) ?_
      refine g_get (k := 37) (v := .ref (am m0 37)) C hW.1 rfl wu_X8 (by decide) wf_X8_109 rfl rfl dX8_doubt_24 ?_
      refine lv_iload C.hx C.hb dX8_doubt_27 (lv_at hl 1 rfl) ?_
      refine g_iald (f := x 37) (k := i1) C (hW.2.1 37 rfl) rfl (show i1 < 8000 by omega) (by decide) dX8_doubt_29 ?_
      refine lv_iload_n C.hx C.hb dX8_doubt_30 rfl (lv_at hl 4 rfl) ?_
      refine W.joinI (P := fun jv => jv = (if (x 37 i1) = j then (if (s_X8_against x i1) < 0 then 0 else (if alone = 0 then 1 else (if (x 40 i1) = (s_X8_against x i1) then 0 else 1 : Int32) : Int32) : Int32) else 0 : Int32)) 60 ls [.int (itr (f_X8_doubt_5_3 x j alone) 0 i1)] (fun J6 => ?_) (fun v7 hv7 => ?_)
      · refine lv_icmp_ne (tgt := 59) C.hx C.hb dX8_doubt_31 (by decide) (fun c2 => ?_) (fun c2 => ?_)
        · refine lv_iconst (v := 0) C.hx C.hb dX8_doubt_59 (by decide) ?_
          exact J6 _ (by rw [if_neg c2])
        · refine lv_iload C.hx C.hb dX8_doubt_34 (lv_at hl 0 rfl) ?_
          refine lv_if_lt (tgt := 59) C.hx C.hb dX8_doubt_36 (by decide) (fun c3 => ?_) (fun c3 => ?_)
          · refine lv_iconst (v := 0) C.hx C.hb dX8_doubt_59 (by decide) ?_
            exact J6 _ (by rw [if_pos c2, if_pos c3])
          · refine lv_iload_n C.hx C.hb dX8_doubt_39 rfl (lv_at hl 5 rfl) ?_
            refine lv_if_eq (tgt := 55) C.hx C.hb dX8_doubt_40 (by decide) (fun c4 => ?_) (fun c4 => ?_)
            · refine lv_iconst (v := 1) C.hx C.hb dX8_doubt_55 (by decide) ?_
              refine lv_goto (tgt := 60) C.hx C.hb dX8_doubt_56 (by decide) ?_
              exact J6 _ (by rw [if_pos c2, if_neg c3, if_pos c4])
            · refine lv_aload_n C.hx C.hb dX8_doubt_43 rfl (lv_at hl 3 rfl) ?_
              refine g_get (k := 40) (v := .ref (am m0 40)) C hW.1 rfl wu_X8 (by decide) wf_X8_118 rfl rfl dX8_doubt_44 ?_
              refine lv_iload C.hx C.hb dX8_doubt_47 (lv_at hl 1 rfl) ?_
              refine g_iald (f := x 40) (k := i1) C (hW.2.1 40 rfl) rfl (show i1 < 8000 by omega) (by decide) dX8_doubt_49 ?_
              refine lv_iload C.hx C.hb dX8_doubt_50 (lv_at hl 0 rfl) ?_
              refine lv_icmp_eq (tgt := 59) C.hx C.hb dX8_doubt_52 (by decide) (fun c5 => ?_) (fun c5 => ?_)
              · refine lv_iconst (v := 0) C.hx C.hb dX8_doubt_59 (by decide) ?_
                exact J6 _ (by rw [if_pos c2, if_neg c3, if_neg c4, if_pos c5])
              · refine lv_iconst (v := 1) C.hx C.hb dX8_doubt_55 (by decide) ?_
                refine lv_goto (tgt := 60) C.hx C.hb dX8_doubt_56 (by decide) ?_
                exact J6 _ (by rw [if_pos c2, if_neg c3, if_neg c4, if_neg c5])
      · refine lv_iadd C.hx C.hb dX8_doubt_60 ?_
        refine lv_istore_n (lv' := [(3, .int ((itr (f_X8_doubt_5_3 x j alone) 0 i1) + v7)), (5, .int (s_X8_against x i1)), (4, .int (nI i1)), (0, .ref m0), (1, .int j), (2, .int alone)]) C.hx C.hb dX8_doubt_61 rfl hl (by decide) rfl (fun ls hl => ?_)
        refine lv_iinc (v := (nI i1) + 1) (lv' := [(4, .int ((nI i1) + 1)), (3, .int ((itr (f_X8_doubt_5_3 x j alone) 0 i1) + v7)), (5, .int (s_X8_against x i1)), (0, .ref m0), (1, .int j), (2, .int alone)]) C.hx C.hb dX8_doubt_62 hl (k := 2) rfl rfl (by decide) rfl (fun ls hl => ?_)
        refine lv_goto (tgt := 5) C.hx C.hb dX8_doubt_65 (by decide) ?_
        rw [hv7] at hl
        rw [nI_1 i1] at hl
        exact K1 _ (lv_sub hl [0, 1, 3, 4, 5] rfl)
  · refine lv_iload C.hx C.hb dX8_doubt_5 (lv_at hl 0 rfl) ?_
    refine lv_aload_n C.hx C.hb dX8_doubt_7 rfl (lv_at hl 2 rfl) ?_
    refine g_get (k := 42) (v := .int (x 42 0)) C hW.1 rfl wu_X8 (by decide) wf_X8_160 rfl rfl dX8_doubt_8 ?_
    refine lv_icmp_ge (tgt := 68) C.hx C.hb dX8_doubt_11 (by decide) (fun c8 => ?_) (fun c8 => ?_)
    · refine lv_iload_n C.hx C.hb dX8_doubt_68 rfl (lv_at hl 1 rfl) ?_
      exact rI C hr dX8_doubt_69 (by unfold s_X8_doubt; with_reducible rfl)
    · exact absurd (le_eqn eV) c8
theorem itr_01 {f : Nat → Int32 → Int32} {a : Int32} (h : ∀ i b, (b = 0 ∨ b = 1) → (f i b = 0 ∨ f i b = 1)) (h0 : a = 0 ∨ a = 1) : ∀ n, itr f a n = 0 ∨ itr f a n = 1
  | 0 => h0
  | n + 1 => h n _ (itr_01 h h0 n)
def f_X8_isHidden_4_2 (x : Nat → Nat → Int32) (pp : Int32) : Nat → Int32 → Int32 := fun i1 a => (if (a) = 0 then (if (x 13 i1) = pp then (if (s_X8_stands x i1) = 0 then 0 else 1 : Int32) else 0 : Int32) else 1 : Int32)
def s_X8_isHidden (x : Nat → Nat → Int32) (pp : Int32) : Int32 := itr (f_X8_isHidden_4_2 x pp) 0 (nC x)
set_option maxRecDepth 100000 in
set_option maxHeartbeats 400000 in
theorem cM_isHidden (l : Launch) (G : GG) (m0 : Nat) (x : Nat → Nat → Int32) (z : Nat → Int64) (hI : MI x) (pp : Int32) : MR l G yX8_isHidden cX8_isHidden 4 (some .boolean) 1 [.ref m0, .int pp] (MWd G m0 x z) (some (.int (s_X8_isHidden x pp))) := by
  refine MR.of RX8 rfl (by decide) (Nat.le_of_ble_eq_true rfl) ?_
  intro p_ e_ s_ m_ args_ below_ meth_ c_ ls hargs C hr hnm hW hl
  obtain ⟨⟨eP, bP⟩, ⟨eC, bC⟩, ⟨eG, bG⟩, ⟨eV, bV⟩, -, -⟩ := id hI
  have hl : lv_has ls 4 [(0, .ref m0), (1, .int pp)] := hl
  refine lv_iconst (v := 0) C.hx C.hb dX8_isHidden_0 (by decide) ?_
  refine lv_istore_n (lv' := [(2, .int 0), (0, .ref m0), (1, .int pp)]) C.hx C.hb dX8_isHidden_1 rfl hl (by decide) rfl (fun ls hl => ?_)
  refine lv_iconst (v := 0) C.hx C.hb dX8_isHidden_2 (by decide) ?_
  refine lv_istore_n (lv' := [(3, .int 0), (2, .int 0), (0, .ref m0), (1, .int pp)]) C.hx C.hb dX8_isHidden_3 rfl hl (by decide) rfl (fun ls hl => ?_)
  refine W.loopR (N := nC x) (Inv := fun i ls => lv_has ls 4 [(3, .int (nI i)), (2, .int (itr (f_X8_isHidden_4_2 x pp) 0 i)), (0, .ref m0), (1, .int pp)]) 4 [] (fun i1 ls hi1 hl K1 => ?_) (fun ls hl => ?_) 0 ls (Nat.zero_le _) (lv_sub hl [0, 1, 2, 3] rfl)
  · refine lv_iload_n C.hx C.hb dX8_isHidden_4 rfl (lv_at hl 0 rfl) ?_
    refine lv_aload_n C.hx C.hb dX8_isHidden_5 rfl (lv_at hl 2 rfl) ?_
    refine g_get (k := 27) (v := .int (x 27 0)) C hW.1 rfl wu_X8 (by decide) wf_X8_133 rfl rfl dX8_isHidden_6 ?_
    refine lv_icmp_ge (tgt := 46) C.hx C.hb dX8_isHidden_9 (by decide) (fun c1 => ?_) (fun c1 => ?_)
    · exact absurd c1 (lt_nle eC hi1 (by omega))
    · refine lv_iload_n C.hx C.hb dX8_isHidden_12 rfl (lv_at hl 1 rfl) ?_
      refine W.joinI (P := fun jv => jv = (if (itr (f_X8_isHidden_4_2 x pp) 0 i1) = 0 then (if (x 13 i1) = pp then (if (s_X8_stands x i1) = 0 then 0 else 1 : Int32) else 0 : Int32) else 1 : Int32)) 39 ls [] (fun J6 => ?_) (fun v7 hv7 => ?_)
      · refine lv_if_ne (tgt := 34) C.hx C.hb dX8_isHidden_13 (by decide) (fun c2 => ?_) (fun c2 => ?_)
        · refine lv_iconst (v := 1) C.hx C.hb dX8_isHidden_34 (by decide) ?_
          refine lv_goto (tgt := 39) C.hx C.hb dX8_isHidden_35 (by decide) ?_
          exact J6 _ (by rw [if_neg c2])
        · refine lv_aload_n C.hx C.hb dX8_isHidden_16 rfl (lv_at hl 2 rfl) ?_
          refine g_get (k := 13) (v := .ref (am m0 13)) C hW.1 rfl wu_X8 (by decide) wf_X8_44 rfl rfl dX8_isHidden_17 ?_
          refine lv_iload_n C.hx C.hb dX8_isHidden_20 rfl (lv_at hl 0 rfl) ?_
          refine g_iald (f := x 13) (k := i1) C (hW.2.1 13 rfl) rfl (show i1 < 400 by omega) (by decide) dX8_isHidden_21 ?_
          have f3 := MI.po hI (show i1 < nC x by omega)
          have f3b : tn (x 13 i1) < nP x := f3.2
          refine lv_iload_n C.hx C.hb dX8_isHidden_22 rfl (lv_at hl 3 rfl) ?_
          refine lv_icmp_ne (tgt := 38) C.hx C.hb dX8_isHidden_23 (by decide) (fun c4 => ?_) (fun c4 => ?_)
          · refine lv_iconst (v := 0) C.hx C.hb dX8_isHidden_38 (by decide) ?_
            exact J6 _ (by rw [if_pos c2, if_neg c4])
          · refine lv_aload_n C.hx C.hb dX8_isHidden_26 rfl (lv_at hl 2 rfl) ?_
            refine lv_iload_n C.hx C.hb dX8_isHidden_27 rfl (lv_at hl 0 rfl) ?_
            refine kVR (As := [.int (nI i1)]) (rest := []) (v := .int (s_X8_stands x i1)) C (cM_stands l G m0 x z hI i1 (show i1 < nC x by omega)) lk_X8_213 (g_recv C hW.1 rfl) hW rfl rfl hl (Nat.le_of_ble_eq_true rfl) dX8_isHidden_28 ⟨⟨by decide, by decide⟩, by decide, by decide⟩ ?_
            refine lv_if_eq (tgt := 38) C.hx C.hb dX8_isHidden_31 (by decide) (fun c5 => ?_) (fun c5 => ?_)
            · refine lv_iconst (v := 0) C.hx C.hb dX8_isHidden_38 (by decide) ?_
              exact J6 _ (by rw [if_pos c2, if_pos c4, if_pos c5])
            · refine lv_iconst (v := 1) C.hx C.hb dX8_isHidden_34 (by decide) ?_
              refine lv_goto (tgt := 39) C.hx C.hb dX8_isHidden_35 (by decide) ?_
              exact J6 _ (by rw [if_pos c2, if_pos c4, if_neg c5])
      · refine lv_istore_n (lv' := [(2, .int v7), (3, .int (nI i1)), (0, .ref m0), (1, .int pp)]) C.hx C.hb dX8_isHidden_39 rfl hl (by decide) rfl (fun ls hl => ?_)
        refine lv_iinc (v := (nI i1) + 1) (lv' := [(3, .int ((nI i1) + 1)), (2, .int v7), (0, .ref m0), (1, .int pp)]) C.hx C.hb dX8_isHidden_40 hl (k := 1) rfl rfl (by decide) rfl (fun ls hl => ?_)
        refine lv_goto (tgt := 4) C.hx C.hb dX8_isHidden_43 (by decide) ?_
        rw [hv7] at hl
        rw [nI_1 i1] at hl
        exact K1 _ (lv_sub hl [0, 1, 2, 3] rfl)
  · refine lv_iload_n C.hx C.hb dX8_isHidden_4 rfl (lv_at hl 0 rfl) ?_
    refine lv_aload_n C.hx C.hb dX8_isHidden_5 rfl (lv_at hl 2 rfl) ?_
    refine g_get (k := 27) (v := .int (x 27 0)) C hW.1 rfl wu_X8 (by decide) wf_X8_133 rfl rfl dX8_isHidden_6 ?_
    refine lv_icmp_ge (tgt := 46) C.hx C.hb dX8_isHidden_9 (by decide) (fun c8 => ?_) (fun c8 => ?_)
    · refine lv_iload_n C.hx C.hb dX8_isHidden_46 rfl (lv_at hl 1 rfl) ?_
      exact rZ C hr dX8_isHidden_47 (by unfold s_X8_isHidden; with_reducible rfl) (nb01 (itr_01 (fun i a h => by unfold f_X8_isHidden_4_2; (repeat' split) <;> simp) (Or.inl rfl) _))
    · exact absurd (le_eqn eC) c8
def f_X8_likeOnes_105_9 (x : Nat → Nat → Int32) (cN : Nat) (i1 : Nat) : Nat → Int32 → Int32 := fun i2 a => (a) + ((((x 11 (tn (x 13 cN))) ^^^ (x 11 (tn (x 13 i1)))) >>> ((nI i2) &&& 31)) &&& 1)
def f_X8_likeOnes_6_4 (x : Nat → Nat → Int32) (d : Int32) (as : Int32) (cN : Nat) : Nat → Int32 → Int32 := fun i1 a => (a) + (if (nI i1) = (nI cN) then 0 else (if (x 14 i1) = (x 14 cN) then (if (if 0 ≤ as then (if as = 1 then (if (x 15 i1) = 2 then 1 else (if (x 15 i1) = 5 then 1 else 0 : Int32) : Int32) else (if (x 15 i1) = 1 then 1 else (if (x 15 i1) = 4 then 1 else 0 : Int32) : Int32) : Int32) else (if (if (x 15 i1) = 2 then 1 else (if (x 15 i1) = 5 then 1 else 0 : Int32) : Int32) = 0 then (if (if (x 15 i1) = 1 then 1 else (if (x 15 i1) = 4 then 1 else 0 : Int32) : Int32) = 0 then 0 else 1 : Int32) else 1 : Int32) : Int32) = 0 then 0 else (if d < (itr (f_X8_likeOnes_105_9 x cN i1) 0 8) then 0 else 1 : Int32) : Int32) else 0 : Int32) : Int32)
def s_X8_likeOnes (x : Nat → Nat → Int32) (cN : Nat) (d : Int32) (as : Int32) : Int32 := itr (f_X8_likeOnes_6_4 x d as cN) 0 (nC x)
set_option maxRecDepth 100000 in
set_option maxHeartbeats 400000 in
theorem cM_likeOnes (l : Launch) (G : GG) (m0 : Nat) (x : Nat → Nat → Int32) (z : Nat → Int64) (hI : MI x) (cN : Nat) (d : Int32) (as : Int32) (hc : cN < nC x) : MR l G yX8_likeOnes cX8_likeOnes 11 (some .int) 0 [.ref m0, .int (nI cN), .int d, .int as] (MWd G m0 x z) (some (.int (s_X8_likeOnes x cN d as))) := by
  refine MR.of RX8 rfl (by decide) (Nat.le_of_ble_eq_true rfl) ?_
  intro p_ e_ s_ m_ args_ below_ meth_ c_ ls hargs C hr hnm hW hl
  obtain ⟨⟨eP, bP⟩, ⟨eC, bC⟩, ⟨eG, bG⟩, ⟨eV, bV⟩, -, -⟩ := id hI
  have hl : lv_has ls 11 [(0, .ref m0), (1, .int (nI cN)), (2, .int d), (3, .int as)] := hl
  refine lv_iconst (v := 0) C.hx C.hb dX8_likeOnes_0 (by decide) ?_
  refine lv_istore (lv' := [(4, .int 0), (0, .ref m0), (1, .int (nI cN)), (2, .int d), (3, .int as)]) C.hx C.hb dX8_likeOnes_1 hl (by decide) rfl (fun ls hl => ?_)
  refine lv_iconst (v := 0) C.hx C.hb dX8_likeOnes_3 (by decide) ?_
  refine lv_istore (lv' := [(5, .int 0), (4, .int 0), (0, .ref m0), (1, .int (nI cN)), (2, .int d), (3, .int as)]) C.hx C.hb dX8_likeOnes_4 hl (by decide) rfl (fun ls hl => ?_)
  refine W.loopR (N := nC x) (Inv := fun i ls => lv_has ls 11 [(5, .int (nI i)), (4, .int (itr (f_X8_likeOnes_6_4 x d as cN) 0 i)), (0, .ref m0), (1, .int (nI cN)), (2, .int d), (3, .int as)]) 6 [] (fun i1 ls hi1 hl K1 => ?_) (fun ls hl => ?_) 0 ls (Nat.zero_le _) (lv_sub hl [0, 1, 2, 3, 4, 5] rfl)
  · refine lv_iload C.hx C.hb dX8_likeOnes_6 (lv_at hl 0 rfl) ?_
    refine lv_aload_n C.hx C.hb dX8_likeOnes_8 rfl (lv_at hl 2 rfl) ?_
    refine g_get (k := 27) (v := .int (x 27 0)) C hW.1 rfl wu_X8 (by decide) wf_X8_133 rfl rfl dX8_likeOnes_9 ?_
    refine lv_icmp_ge (tgt := 215) C.hx C.hb dX8_likeOnes_12 (by decide) (fun c1 => ?_) (fun c1 => ?_)
    · exact absurd c1 (lt_nle eC hi1 (by omega))
    · refine lv_aload_n C.hx C.hb dX8_likeOnes_15 rfl (lv_at hl 2 rfl) ?_
      refine g_get (k := 15) (v := .ref (am m0 15)) C hW.1 rfl wu_X8 (by decide) wf_X8_50 rfl rfl dX8_likeOnes_16 ?_
      refine lv_iload C.hx C.hb dX8_likeOnes_19 (lv_at hl 0 rfl) ?_
      refine g_iald (f := x 15) (k := i1) C (hW.2.1 15 rfl) rfl (show i1 < 400 by omega) (by decide) dX8_likeOnes_21 ?_
      refine lv_iconst (v := 2) C.hx C.hb dX8_likeOnes_22 (by decide) ?_
      refine W.joinI (P := fun jv => jv = (if (x 15 i1) = 2 then 1 else (if (x 15 i1) = 5 then 1 else 0 : Int32) : Int32)) 42 ls [] (fun J4 => ?_) (fun v5 hv5 => ?_)
      · refine lv_icmp_eq (tgt := 37) C.hx C.hb dX8_likeOnes_23 (by decide) (fun c2 => ?_) (fun c2 => ?_)
        · refine lv_iconst (v := 1) C.hx C.hb dX8_likeOnes_37 (by decide) ?_
          refine lv_goto (tgt := 42) C.hx C.hb dX8_likeOnes_38 (by decide) ?_
          exact J4 _ (by rw [if_pos c2])
        · refine lv_aload_n C.hx C.hb dX8_likeOnes_26 rfl (lv_at hl 2 rfl) ?_
          refine g_get (k := 15) (v := .ref (am m0 15)) C hW.1 rfl wu_X8 (by decide) wf_X8_50 rfl rfl dX8_likeOnes_27 ?_
          refine lv_iload C.hx C.hb dX8_likeOnes_30 (lv_at hl 0 rfl) ?_
          refine g_iald (f := x 15) (k := i1) C (hW.2.1 15 rfl) rfl (show i1 < 400 by omega) (by decide) dX8_likeOnes_32 ?_
          refine lv_iconst (v := 5) C.hx C.hb dX8_likeOnes_33 (by decide) ?_
          refine lv_icmp_ne (tgt := 41) C.hx C.hb dX8_likeOnes_34 (by decide) (fun c3 => ?_) (fun c3 => ?_)
          · refine lv_iconst (v := 0) C.hx C.hb dX8_likeOnes_41 (by decide) ?_
            exact J4 _ (by rw [if_neg c2, if_neg c3])
          · refine lv_iconst (v := 1) C.hx C.hb dX8_likeOnes_37 (by decide) ?_
            refine lv_goto (tgt := 42) C.hx C.hb dX8_likeOnes_38 (by decide) ?_
            exact J4 _ (by rw [if_neg c2, if_pos c3])
      · refine lv_istore (lv' := [(6, .int v5), (5, .int (nI i1)), (4, .int (itr (f_X8_likeOnes_6_4 x d as cN) 0 i1)), (0, .ref m0), (1, .int (nI cN)), (2, .int d), (3, .int as)]) C.hx C.hb dX8_likeOnes_42 hl (by decide) rfl (fun ls hl => ?_)
        refine lv_aload_n C.hx C.hb dX8_likeOnes_44 rfl (lv_at hl 3 rfl) ?_
        refine g_get (k := 15) (v := .ref (am m0 15)) C hW.1 rfl wu_X8 (by decide) wf_X8_50 rfl rfl dX8_likeOnes_45 ?_
        refine lv_iload C.hx C.hb dX8_likeOnes_48 (lv_at hl 1 rfl) ?_
        refine g_iald (f := x 15) (k := i1) C (hW.2.1 15 rfl) rfl (show i1 < 400 by omega) (by decide) dX8_likeOnes_50 ?_
        refine lv_iconst (v := 1) C.hx C.hb dX8_likeOnes_51 (by decide) ?_
        refine W.joinI (P := fun jv => jv = (if (x 15 i1) = 1 then 1 else (if (x 15 i1) = 4 then 1 else 0 : Int32) : Int32)) 71 ls [] (fun J8 => ?_) (fun v9 hv9 => ?_)
        · refine lv_icmp_eq (tgt := 66) C.hx C.hb dX8_likeOnes_52 (by decide) (fun c6 => ?_) (fun c6 => ?_)
          · refine lv_iconst (v := 1) C.hx C.hb dX8_likeOnes_66 (by decide) ?_
            refine lv_goto (tgt := 71) C.hx C.hb dX8_likeOnes_67 (by decide) ?_
            exact J8 _ (by rw [if_pos c6])
          · refine lv_aload_n C.hx C.hb dX8_likeOnes_55 rfl (lv_at hl 3 rfl) ?_
            refine g_get (k := 15) (v := .ref (am m0 15)) C hW.1 rfl wu_X8 (by decide) wf_X8_50 rfl rfl dX8_likeOnes_56 ?_
            refine lv_iload C.hx C.hb dX8_likeOnes_59 (lv_at hl 1 rfl) ?_
            refine g_iald (f := x 15) (k := i1) C (hW.2.1 15 rfl) rfl (show i1 < 400 by omega) (by decide) dX8_likeOnes_61 ?_
            refine lv_iconst (v := 4) C.hx C.hb dX8_likeOnes_62 (by decide) ?_
            refine lv_icmp_ne (tgt := 70) C.hx C.hb dX8_likeOnes_63 (by decide) (fun c7 => ?_) (fun c7 => ?_)
            · refine lv_iconst (v := 0) C.hx C.hb dX8_likeOnes_70 (by decide) ?_
              exact J8 _ (by rw [if_neg c6, if_neg c7])
            · refine lv_iconst (v := 1) C.hx C.hb dX8_likeOnes_66 (by decide) ?_
              refine lv_goto (tgt := 71) C.hx C.hb dX8_likeOnes_67 (by decide) ?_
              exact J8 _ (by rw [if_neg c6, if_pos c7])
        · refine lv_istore (lv' := [(7, .int v9), (6, .int v5), (5, .int (nI i1)), (4, .int (itr (f_X8_likeOnes_6_4 x d as cN) 0 i1)), (0, .ref m0), (1, .int (nI cN)), (2, .int d), (3, .int as)]) C.hx C.hb dX8_likeOnes_71 hl (by decide) rfl (fun ls hl => ?_)
          refine lv_aload_n C.hx C.hb dX8_likeOnes_73 rfl (lv_at hl 4 rfl) ?_
          refine g_get (k := 11) (v := .ref (am m0 11)) C hW.1 rfl wu_X8 (by decide) wf_X8_41 rfl rfl dX8_likeOnes_74 ?_
          refine lv_aload_n C.hx C.hb dX8_likeOnes_77 rfl (lv_at hl 4 rfl) ?_
          refine g_get (k := 13) (v := .ref (am m0 13)) C hW.1 rfl wu_X8 (by decide) wf_X8_44 rfl rfl dX8_likeOnes_78 ?_
          refine lv_iload_n C.hx C.hb dX8_likeOnes_81 rfl (lv_at hl 5 rfl) ?_
          refine g_iald (f := x 13) (k := cN) C (hW.2.1 13 rfl) rfl (show cN < 400 by omega) (by decide) dX8_likeOnes_82 ?_
          have f10 := MI.po hI (show cN < nC x by omega)
          have f10b : tn (x 13 cN) < nP x := f10.2
          refine g_iald (f := x 11) (k := (tn (x 13 cN))) C (hW.2.1 11 rfl) f10.1 (show (tn (x 13 cN)) < 300 by omega) (by decide) dX8_likeOnes_83 ?_
          refine lv_aload_n C.hx C.hb dX8_likeOnes_84 rfl (lv_at hl 4 rfl) ?_
          refine g_get (k := 11) (v := .ref (am m0 11)) C hW.1 rfl wu_X8 (by decide) wf_X8_41 rfl rfl dX8_likeOnes_85 ?_
          refine lv_aload_n C.hx C.hb dX8_likeOnes_88 rfl (lv_at hl 4 rfl) ?_
          refine g_get (k := 13) (v := .ref (am m0 13)) C hW.1 rfl wu_X8 (by decide) wf_X8_44 rfl rfl dX8_likeOnes_89 ?_
          refine lv_iload C.hx C.hb dX8_likeOnes_92 (lv_at hl 2 rfl) ?_
          refine g_iald (f := x 13) (k := i1) C (hW.2.1 13 rfl) rfl (show i1 < 400 by omega) (by decide) dX8_likeOnes_94 ?_
          have f11 := MI.po hI (show i1 < nC x by omega)
          have f11b : tn (x 13 i1) < nP x := f11.2
          refine g_iald (f := x 11) (k := (tn (x 13 i1))) C (hW.2.1 11 rfl) f11.1 (show (tn (x 13 i1)) < 300 by omega) (by decide) dX8_likeOnes_95 ?_
          refine lv_ixor C.hx C.hb dX8_likeOnes_96 ?_
          refine lv_istore (lv' := [(8, .int ((x 11 (tn (x 13 cN))) ^^^ (x 11 (tn (x 13 i1))))), (7, .int v9), (6, .int v5), (5, .int (nI i1)), (4, .int (itr (f_X8_likeOnes_6_4 x d as cN) 0 i1)), (0, .ref m0), (1, .int (nI cN)), (2, .int d), (3, .int as)]) C.hx C.hb dX8_likeOnes_97 hl (by decide) rfl (fun ls hl => ?_)
          refine lv_iconst (v := 0) C.hx C.hb dX8_likeOnes_99 (by decide) ?_
          refine lv_istore (lv' := [(9, .int 0), (8, .int ((x 11 (tn (x 13 cN))) ^^^ (x 11 (tn (x 13 i1))))), (7, .int v9), (6, .int v5), (5, .int (nI i1)), (4, .int (itr (f_X8_likeOnes_6_4 x d as cN) 0 i1)), (0, .ref m0), (1, .int (nI cN)), (2, .int d), (3, .int as)]) C.hx C.hb dX8_likeOnes_100 hl (by decide) rfl (fun ls hl => ?_)
          refine lv_iconst (v := 0) C.hx C.hb dX8_likeOnes_102 (by decide) ?_
          refine lv_istore (lv' := [(10, .int 0), (9, .int 0), (8, .int ((x 11 (tn (x 13 cN))) ^^^ (x 11 (tn (x 13 i1))))), (7, .int v9), (6, .int v5), (5, .int (nI i1)), (4, .int (itr (f_X8_likeOnes_6_4 x d as cN) 0 i1)), (0, .ref m0), (1, .int (nI cN)), (2, .int d), (3, .int as)]) C.hx C.hb dX8_likeOnes_103 hl (by decide) rfl (fun ls hl => ?_)
          refine W.loopR (N := 8) (Inv := fun i ls => lv_has ls 11 [(10, .int (nI i)), (9, .int (itr (f_X8_likeOnes_105_9 x cN i1) 0 i)), (8, .int ((x 11 (tn (x 13 cN))) ^^^ (x 11 (tn (x 13 i1))))), (7, .int v9), (6, .int v5), (5, .int (nI i1)), (4, .int (itr (f_X8_likeOnes_6_4 x d as cN) 0 i1)), (0, .ref m0), (1, .int (nI cN)), (2, .int d), (3, .int as)]) 105 [] (fun i2 ls hi2 hl K2 => ?_) (fun ls hl => ?_) 0 ls (Nat.zero_le _) (lv_sub hl [0, 1, 2, 3, 4, 5, 6, 7, 8, 9, 10] rfl)
          · refine lv_iload C.hx C.hb dX8_likeOnes_105 (lv_at hl 0 rfl) ?_
            refine lv_bipush (v := 8) C.hx C.hb dX8_likeOnes_107 (by decide) ?_
            refine lv_icmp_ge (tgt := 130) C.hx C.hb dX8_likeOnes_109 (by decide) (fun c12 => ?_) (fun c12 => ?_)
            · exact absurd c12 (lt_nle (by decide) hi2 (by omega))
            · refine lv_iload C.hx C.hb dX8_likeOnes_112 (lv_at hl 1 rfl) ?_
              refine lv_iload C.hx C.hb dX8_likeOnes_114 (lv_at hl 2 rfl) ?_
              refine lv_iload C.hx C.hb dX8_likeOnes_116 (lv_at hl 0 rfl) ?_
              refine lv_ishr C.hx C.hb dX8_likeOnes_118 ?_
              refine lv_iconst (v := 1) C.hx C.hb dX8_likeOnes_119 (by decide) ?_
              refine lv_iand C.hx C.hb dX8_likeOnes_120 ?_
              refine lv_iadd C.hx C.hb dX8_likeOnes_121 ?_
              refine lv_istore (lv' := [(9, .int ((itr (f_X8_likeOnes_105_9 x cN i1) 0 i2) + ((((x 11 (tn (x 13 cN))) ^^^ (x 11 (tn (x 13 i1)))) >>> ((nI i2) &&& 31)) &&& 1))), (10, .int (nI i2)), (8, .int ((x 11 (tn (x 13 cN))) ^^^ (x 11 (tn (x 13 i1))))), (7, .int v9), (6, .int v5), (5, .int (nI i1)), (4, .int (itr (f_X8_likeOnes_6_4 x d as cN) 0 i1)), (0, .ref m0), (1, .int (nI cN)), (2, .int d), (3, .int as)]) C.hx C.hb dX8_likeOnes_122 hl (by decide) rfl (fun ls hl => ?_)
              refine lv_iinc (v := (nI i2) + 1) (lv' := [(10, .int ((nI i2) + 1)), (9, .int ((itr (f_X8_likeOnes_105_9 x cN i1) 0 i2) + ((((x 11 (tn (x 13 cN))) ^^^ (x 11 (tn (x 13 i1)))) >>> ((nI i2) &&& 31)) &&& 1))), (8, .int ((x 11 (tn (x 13 cN))) ^^^ (x 11 (tn (x 13 i1))))), (7, .int v9), (6, .int v5), (5, .int (nI i1)), (4, .int (itr (f_X8_likeOnes_6_4 x d as cN) 0 i1)), (0, .ref m0), (1, .int (nI cN)), (2, .int d), (3, .int as)]) C.hx C.hb dX8_likeOnes_124 hl (k := 1) rfl rfl (by decide) rfl (fun ls hl => ?_)
              refine lv_goto (tgt := 105) C.hx C.hb dX8_likeOnes_127 (by decide) ?_
              rw [nI_1 i2] at hl
              exact K2 _ (lv_sub hl [0, 1, 2, 3, 4, 5, 6, 7, 8, 9, 10] rfl)
          · refine lv_iload C.hx C.hb dX8_likeOnes_105 (lv_at hl 0 rfl) ?_
            refine lv_bipush (v := 8) C.hx C.hb dX8_likeOnes_107 (by decide) ?_
            refine lv_icmp_ge (tgt := 130) C.hx C.hb dX8_likeOnes_109 (by decide) (fun c13 => ?_) (fun c13 => ?_)
            · refine lv_iload_n C.hx C.hb dX8_likeOnes_130 rfl (lv_at hl 10 rfl) ?_
              refine W.joinI (P := fun jv => jv = (if 0 ≤ as then (if as = 1 then v5 else v9 : Int32) else (if v5 = 0 then (if v9 = 0 then 0 else 1 : Int32) else 1 : Int32) : Int32)) 164 ls [] (fun J18 => ?_) (fun v19 hv19 => ?_)
              · refine lv_if_ge (tgt := 152) C.hx C.hb dX8_likeOnes_131 (by decide) (fun c14 => ?_) (fun c14 => ?_)
                · refine lv_iload_n C.hx C.hb dX8_likeOnes_152 rfl (lv_at hl 10 rfl) ?_
                  refine lv_iconst (v := 1) C.hx C.hb dX8_likeOnes_153 (by decide) ?_
                  refine lv_icmp_ne (tgt := 162) C.hx C.hb dX8_likeOnes_154 (by decide) (fun c15 => ?_) (fun c15 => ?_)
                  · refine lv_iload C.hx C.hb dX8_likeOnes_162 (lv_at hl 3 rfl) ?_
                    exact J18 _ (by rw [if_pos c14, if_neg c15])
                  · refine lv_iload C.hx C.hb dX8_likeOnes_157 (lv_at hl 4 rfl) ?_
                    refine lv_goto (tgt := 164) C.hx C.hb dX8_likeOnes_159 (by decide) ?_
                    exact J18 _ (by rw [if_pos c14, if_pos c15])
                · refine lv_iload C.hx C.hb dX8_likeOnes_134 (lv_at hl 4 rfl) ?_
                  refine lv_if_ne (tgt := 144) C.hx C.hb dX8_likeOnes_136 (by decide) (fun c16 => ?_) (fun c16 => ?_)
                  · refine lv_iconst (v := 1) C.hx C.hb dX8_likeOnes_144 (by decide) ?_
                    refine lv_goto (tgt := 164) C.hx C.hb dX8_likeOnes_145 (by decide) ?_
                    exact J18 _ (by rw [if_neg c14, if_neg c16])
                  · refine lv_iload C.hx C.hb dX8_likeOnes_139 (lv_at hl 3 rfl) ?_
                    refine lv_if_eq (tgt := 148) C.hx C.hb dX8_likeOnes_141 (by decide) (fun c17 => ?_) (fun c17 => ?_)
                    · refine lv_iconst (v := 0) C.hx C.hb dX8_likeOnes_148 (by decide) ?_
                      refine lv_goto (tgt := 164) C.hx C.hb dX8_likeOnes_149 (by decide) ?_
                      exact J18 _ (by rw [if_neg c14, if_pos c16, if_pos c17])
                    · refine lv_iconst (v := 1) C.hx C.hb dX8_likeOnes_144 (by decide) ?_
                      refine lv_goto (tgt := 164) C.hx C.hb dX8_likeOnes_145 (by decide) ?_
                      exact J18 _ (by rw [if_neg c14, if_pos c16, if_neg c17])
              · refine lv_istore (lv' := [(10, .int v19), (9, .int (itr (f_X8_likeOnes_105_9 x cN i1) 0 8)), (8, .int ((x 11 (tn (x 13 cN))) ^^^ (x 11 (tn (x 13 i1))))), (7, .int v9), (6, .int v5), (5, .int (nI i1)), (4, .int (itr (f_X8_likeOnes_6_4 x d as cN) 0 i1)), (0, .ref m0), (1, .int (nI cN)), (2, .int d), (3, .int as)]) C.hx C.hb dX8_likeOnes_164 hl (by decide) rfl (fun ls hl => ?_)
                refine lv_iload C.hx C.hb dX8_likeOnes_166 (lv_at hl 6 rfl) ?_
                refine lv_iload C.hx C.hb dX8_likeOnes_168 (lv_at hl 5 rfl) ?_
                refine lv_iload_n C.hx C.hb dX8_likeOnes_170 rfl (lv_at hl 8 rfl) ?_
                refine W.joinI (P := fun jv => jv = (if (nI i1) = (nI cN) then 0 else (if (x 14 i1) = (x 14 cN) then (if v19 = 0 then 0 else (if d < (itr (f_X8_likeOnes_105_9 x cN i1) 0 8) then 0 else 1 : Int32) : Int32) else 0 : Int32) : Int32)) 206 ls [.int (itr (f_X8_likeOnes_6_4 x d as cN) 0 i1)] (fun J26 => ?_) (fun v27 hv27 => ?_)
                · refine lv_icmp_eq (tgt := 205) C.hx C.hb dX8_likeOnes_171 (by decide) (fun c20 => ?_) (fun c20 => ?_)
                  · refine lv_iconst (v := 0) C.hx C.hb dX8_likeOnes_205 (by decide) ?_
                    exact J26 _ (by rw [if_pos c20])
                  · refine lv_aload_n C.hx C.hb dX8_likeOnes_174 rfl (lv_at hl 7 rfl) ?_
                    refine g_get (k := 14) (v := .ref (am m0 14)) C hW.1 rfl wu_X8 (by decide) wf_X8_47 rfl rfl dX8_likeOnes_175 ?_
                    refine lv_iload C.hx C.hb dX8_likeOnes_178 (lv_at hl 5 rfl) ?_
                    refine g_iald (f := x 14) (k := i1) C (hW.2.1 14 rfl) rfl (show i1 < 400 by omega) (by decide) dX8_likeOnes_180 ?_
                    have f21 := MI.ru hI (show i1 < nC x by omega)
                    have f21b : tn (x 14 i1) < 8 := f21.2
                    refine lv_aload_n C.hx C.hb dX8_likeOnes_181 rfl (lv_at hl 7 rfl) ?_
                    refine g_get (k := 14) (v := .ref (am m0 14)) C hW.1 rfl wu_X8 (by decide) wf_X8_47 rfl rfl dX8_likeOnes_182 ?_
                    refine lv_iload_n C.hx C.hb dX8_likeOnes_185 rfl (lv_at hl 8 rfl) ?_
                    refine g_iald (f := x 14) (k := cN) C (hW.2.1 14 rfl) rfl (show cN < 400 by omega) (by decide) dX8_likeOnes_186 ?_
                    have f22 := MI.ru hI (show cN < nC x by omega)
                    have f22b : tn (x 14 cN) < 8 := f22.2
                    refine lv_icmp_ne (tgt := 205) C.hx C.hb dX8_likeOnes_187 (by decide) (fun c23 => ?_) (fun c23 => ?_)
                    · refine lv_iconst (v := 0) C.hx C.hb dX8_likeOnes_205 (by decide) ?_
                      exact J26 _ (by rw [if_neg c20, if_neg c23])
                    · refine lv_iload C.hx C.hb dX8_likeOnes_190 (lv_at hl 0 rfl) ?_
                      refine lv_if_eq (tgt := 205) C.hx C.hb dX8_likeOnes_192 (by decide) (fun c24 => ?_) (fun c24 => ?_)
                      · refine lv_iconst (v := 0) C.hx C.hb dX8_likeOnes_205 (by decide) ?_
                        exact J26 _ (by rw [if_neg c20, if_pos c23, if_pos c24])
                      · refine lv_iload C.hx C.hb dX8_likeOnes_195 (lv_at hl 1 rfl) ?_
                        refine lv_iload_n C.hx C.hb dX8_likeOnes_197 rfl (lv_at hl 9 rfl) ?_
                        refine lv_icmp_gt (tgt := 205) C.hx C.hb dX8_likeOnes_198 (by decide) (fun c25 => ?_) (fun c25 => ?_)
                        · refine lv_iconst (v := 0) C.hx C.hb dX8_likeOnes_205 (by decide) ?_
                          exact J26 _ (by rw [if_neg c20, if_pos c23, if_neg c24, if_pos c25])
                        · refine lv_iconst (v := 1) C.hx C.hb dX8_likeOnes_201 (by decide) ?_
                          refine lv_goto (tgt := 206) C.hx C.hb dX8_likeOnes_202 (by decide) ?_
                          exact J26 _ (by rw [if_neg c20, if_pos c23, if_neg c24, if_neg c25])
                · refine lv_iadd C.hx C.hb dX8_likeOnes_206 ?_
                  refine lv_istore (lv' := [(4, .int ((itr (f_X8_likeOnes_6_4 x d as cN) 0 i1) + v27)), (10, .int v19), (9, .int (itr (f_X8_likeOnes_105_9 x cN i1) 0 8)), (8, .int ((x 11 (tn (x 13 cN))) ^^^ (x 11 (tn (x 13 i1))))), (7, .int v9), (6, .int v5), (5, .int (nI i1)), (0, .ref m0), (1, .int (nI cN)), (2, .int d), (3, .int as)]) C.hx C.hb dX8_likeOnes_207 hl (by decide) rfl (fun ls hl => ?_)
                  refine lv_iinc (v := (nI i1) + 1) (lv' := [(5, .int ((nI i1) + 1)), (4, .int ((itr (f_X8_likeOnes_6_4 x d as cN) 0 i1) + v27)), (10, .int v19), (9, .int (itr (f_X8_likeOnes_105_9 x cN i1) 0 8)), (8, .int ((x 11 (tn (x 13 cN))) ^^^ (x 11 (tn (x 13 i1))))), (7, .int v9), (6, .int v5), (0, .ref m0), (1, .int (nI cN)), (2, .int d), (3, .int as)]) C.hx C.hb dX8_likeOnes_209 hl (k := 6) rfl rfl (by decide) rfl (fun ls hl => ?_)
                  refine lv_goto (tgt := 6) C.hx C.hb dX8_likeOnes_212 (by decide) ?_
                  rw [hv27] at hl
                  rw [hv19] at hl
                  rw [hv9] at hl
                  rw [hv5] at hl
                  rw [nI_1 i1] at hl
                  exact K1 _ (lv_sub hl [0, 1, 7, 8, 9, 10] rfl)
            · exact absurd (le_eqn (by decide)) c13
  · refine lv_iload C.hx C.hb dX8_likeOnes_6 (lv_at hl 0 rfl) ?_
    refine lv_aload_n C.hx C.hb dX8_likeOnes_8 rfl (lv_at hl 2 rfl) ?_
    refine g_get (k := 27) (v := .int (x 27 0)) C hW.1 rfl wu_X8 (by decide) wf_X8_133 rfl rfl dX8_likeOnes_9 ?_
    refine lv_icmp_ge (tgt := 215) C.hx C.hb dX8_likeOnes_12 (by decide) (fun c28 => ?_) (fun c28 => ?_)
    · refine lv_iload C.hx C.hb dX8_likeOnes_215 (lv_at hl 1 rfl) ?_
      exact rI C hr dX8_likeOnes_217 (by unfold s_X8_likeOnes; with_reducible rfl)
    · exact absurd (le_eqn eC) c28
def f_X8_told_106_3 (x : Nat → Nat → Int32) (jN : Nat) : Nat → Int32 → Int32 := fun i1 a => (a) + (if (x 37 i1) = (nI jN) then 1 else 0 : Int32)
def s_X8_told (x : Nat → Nat → Int32) (j : Int32) (what : Int32) : Int32 := (if (s_X8_isJudge j) = 0 then (-1) else (if what = 0 then x 29 (tn j) else (if what = 1 then x 31 (tn j) else (if what = 2 then x 32 (tn j) else (if what = 3 then s_X8_giftsOf x j (-1) else (if what = 4 then (if (x 33 (tn j)) = 0 then 0 else 1 : Int32) else (if what = 5 then itr (f_X8_told_106_3 x (tn j)) 0 (nV x) else (if what = 6 then s_X8_doubt x j 0 else (if what = 7 then s_X8_doubt x j 1 else (-1))))))))))
set_option maxRecDepth 100000 in
set_option maxHeartbeats 400000 in
theorem cM_told (l : Launch) (G : GG) (m0 : Nat) (x : Nat → Nat → Int32) (z : Nat → Int64) (hI : MI x) (j : Int32) (what : Int32) : MR l G yX8_told cX8_told 5 (some .int) 2 [.ref m0, .int j, .int what] (MWd G m0 x z) (some (.int (s_X8_told x j what))) := by
  refine MR.of RX8 rfl (by decide) (Nat.le_of_ble_eq_true rfl) ?_
  intro p_ e_ s_ m_ args_ below_ meth_ c_ ls hargs C hr hnm hW hl
  obtain ⟨⟨eP, bP⟩, ⟨eC, bC⟩, ⟨eG, bG⟩, ⟨eV, bV⟩, -, -⟩ := id hI
  have hl : lv_has ls 5 [(0, .ref m0), (1, .int j), (2, .int what)] := hl
  refine lv_iload_n C.hx C.hb dX8_told_0 rfl (lv_at hl 1 rfl) ?_
  refine kSR (As := [.int j]) (rest := []) (v := .int (s_X8_isJudge j)) C (cM_isJudge l G j) lk_X8_147 trivial rfl rfl hl (Nat.le_of_ble_eq_true rfl) dX8_told_1 ⟨⟨by decide, by decide⟩, by decide, by decide⟩ ?_
  refine lv_if_ne (tgt := 9) C.hx C.hb dX8_told_4 (by decide) (fun c1 => ?_) (fun c1 => ?_)
  · obtain ⟨jN, hjN, rfl⟩ := isJudge_nz c1
    have tjN : tn (nI jN) = jN := nI_clamp (by omega)
    refine lv_iconst (v := 0) C.hx C.hb dX8_told_9 (by decide) ?_
    refine lv_istore_n (lv' := [(3, .int 0), (0, .ref m0), (1, .int (nI jN)), (2, .int what)]) C.hx C.hb dX8_told_10 rfl hl (by decide) rfl (fun ls hl => ?_)
    refine lv_iload_n C.hx C.hb dX8_told_11 rfl (lv_at hl 3 rfl) ?_
    by_cases c2 : what = 0
    · refine sw_in (off := 48) (tgt := 60) C.hx C.hb dX8_told_12 c2 (by decide) (by decide) (by decide) (by decide) ?_
      refine lv_aload_n C.hx C.hb dX8_told_60 rfl (lv_at hl 1 rfl) ?_
      refine g_get (k := 29) (v := .ref (am m0 29)) C hW.1 rfl wu_X8 (by decide) wf_X8_86 rfl rfl dX8_told_61 ?_
      refine lv_iload_n C.hx C.hb dX8_told_64 rfl (lv_at hl 2 rfl) ?_
      refine g_iald (f := x 29) (k := jN) C (hW.2.1 29 rfl) rfl (show jN < 20 by omega) (by decide) dX8_told_65 ?_
      exact rI C hr dX8_told_66 (by unfold s_X8_told; (try simp only [tjN]); rw [if_neg c1, if_pos c2])
    by_cases c3 : what = 1
    · refine sw_in (off := 55) (tgt := 67) C.hx C.hb dX8_told_12 c3 (by decide) (by decide) (by decide) (by decide) ?_
      refine lv_aload_n C.hx C.hb dX8_told_67 rfl (lv_at hl 1 rfl) ?_
      refine g_get (k := 31) (v := .ref (am m0 31)) C hW.1 rfl wu_X8 (by decide) wf_X8_93 rfl rfl dX8_told_68 ?_
      refine lv_iload_n C.hx C.hb dX8_told_71 rfl (lv_at hl 2 rfl) ?_
      refine g_iald (f := x 31) (k := jN) C (hW.2.1 31 rfl) rfl (show jN < 20 by omega) (by decide) dX8_told_72 ?_
      exact rI C hr dX8_told_73 (by unfold s_X8_told; (try simp only [tjN]); rw [if_neg c1, if_neg c2, if_pos c3])
    by_cases c4 : what = 2
    · refine sw_in (off := 62) (tgt := 74) C.hx C.hb dX8_told_12 c4 (by decide) (by decide) (by decide) (by decide) ?_
      refine lv_aload_n C.hx C.hb dX8_told_74 rfl (lv_at hl 1 rfl) ?_
      refine g_get (k := 32) (v := .ref (am m0 32)) C hW.1 rfl wu_X8 (by decide) wf_X8_96 rfl rfl dX8_told_75 ?_
      refine lv_iload_n C.hx C.hb dX8_told_78 rfl (lv_at hl 2 rfl) ?_
      refine g_iald (f := x 32) (k := jN) C (hW.2.1 32 rfl) rfl (show jN < 20 by omega) (by decide) dX8_told_79 ?_
      exact rI C hr dX8_told_80 (by unfold s_X8_told; (try simp only [tjN]); rw [if_neg c1, if_neg c2, if_neg c3, if_pos c4])
    by_cases c5 : what = 3
    · refine sw_in (off := 69) (tgt := 81) C.hx C.hb dX8_told_12 c5 (by decide) (by decide) (by decide) (by decide) ?_
      refine lv_aload_n C.hx C.hb dX8_told_81 rfl (lv_at hl 1 rfl) ?_
      refine lv_iload_n C.hx C.hb dX8_told_82 rfl (lv_at hl 2 rfl) ?_
      refine lv_iconst (v := (-1)) C.hx C.hb dX8_told_83 (by decide) ?_
      refine kVR (As := [.int (nI jN), .int ((-1))]) (rest := []) (v := .int (s_X8_giftsOf x (nI jN) (-1))) C (cM_giftsOf l G m0 x z hI (nI jN) (-1)) lk_X8_170 (g_recv C hW.1 rfl) hW rfl rfl hl (Nat.le_of_ble_eq_true rfl) dX8_told_84 ⟨⟨by decide, by decide⟩, by decide, by decide⟩ ?_
      exact rI C hr dX8_told_87 (by unfold s_X8_told; (try simp only [tjN]); rw [if_neg c1, if_neg c2, if_neg c3, if_neg c4, if_pos c5])
    by_cases c6 : what = 4
    · refine sw_in (off := 76) (tgt := 88) C.hx C.hb dX8_told_12 c6 (by decide) (by decide) (by decide) (by decide) ?_
      refine lv_aload_n C.hx C.hb dX8_told_88 rfl (lv_at hl 1 rfl) ?_
      refine g_get (k := 33) (v := .ref (am m0 33)) C hW.1 rfl wu_X8 (by decide) wf_X8_99 rfl rfl dX8_told_89 ?_
      refine lv_iload_n C.hx C.hb dX8_told_92 rfl (lv_at hl 2 rfl) ?_
      refine g_zald (f := x 33) (k := jN) C hW.2.2.2 rfl (show jN < 20 by omega) (by decide) dX8_told_93 ?_
      refine W.joinI (P := fun jv => jv = (if (x 33 jN) = 0 then 0 else 1 : Int32)) 102 ls [] (fun J8 => ?_) (fun v9 hv9 => ?_)
      · refine lv_if_eq (tgt := 101) C.hx C.hb dX8_told_94 (by decide) (fun c7 => ?_) (fun c7 => ?_)
        · refine lv_iconst (v := 0) C.hx C.hb dX8_told_101 (by decide) ?_
          exact J8 _ (by rw [if_pos c7])
        · refine lv_iconst (v := 1) C.hx C.hb dX8_told_97 (by decide) ?_
          refine lv_goto (tgt := 102) C.hx C.hb dX8_told_98 (by decide) ?_
          exact J8 _ (by rw [if_neg c7])
      · exact rI C hr dX8_told_102 (by rw [hv9]; unfold s_X8_told; (try simp only [tjN]); rw [if_neg c1, if_neg c2, if_neg c3, if_neg c4, if_neg c5, if_pos c6])
    by_cases c10 : what = 5
    · refine sw_in (off := 91) (tgt := 103) C.hx C.hb dX8_told_12 c10 (by decide) (by decide) (by decide) (by decide) ?_
      refine lv_iconst (v := 0) C.hx C.hb dX8_told_103 (by decide) ?_
      refine lv_istore (lv' := [(4, .int 0), (3, .int 0), (0, .ref m0), (1, .int (nI jN)), (2, .int what)]) C.hx C.hb dX8_told_104 hl (by decide) rfl (fun ls hl => ?_)
      refine W.loopR (N := nV x) (Inv := fun i ls => lv_has ls 5 [(4, .int (nI i)), (3, .int (itr (f_X8_told_106_3 x jN) 0 i)), (0, .ref m0), (1, .int (nI jN)), (2, .int what)]) 106 [] (fun i1 ls hi1 hl K1 => ?_) (fun ls hl => ?_) 0 ls (Nat.zero_le _) (lv_sub hl [0, 1, 2, 3, 4] rfl)
      · refine lv_iload C.hx C.hb dX8_told_106 (lv_at hl 0 rfl) ?_
        refine lv_aload_n C.hx C.hb dX8_told_108 rfl (lv_at hl 2 rfl) ?_
        refine g_get (k := 42) (v := .int (x 42 0)) C hW.1 rfl wu_X8 (by decide) wf_X8_160 rfl rfl dX8_told_109 ?_
        refine lv_icmp_ge (tgt := 140) C.hx C.hb dX8_told_112 (by decide) (fun c11 => ?_) (fun c11 => ?_)
        · exact absurd c11 (lt_nle eV hi1 (by omega))
        · refine lv_iload_n C.hx C.hb dX8_told_115 rfl (lv_at hl 1 rfl) ?_
          refine lv_aload_n C.hx C.hb dX8_told_116 rfl (lv_at hl 2 rfl) ?_
          refine g_get (k := 37) (v := .ref (am m0 37)) C hW.1 rfl wu_X8 (by decide) wf_X8_109 rfl rfl dX8_told_117 ?_
          refine lv_iload C.hx C.hb dX8_told_120 (lv_at hl 0 rfl) ?_
          refine g_iald (f := x 37) (k := i1) C (hW.2.1 37 rfl) rfl (show i1 < 8000 by omega) (by decide) dX8_told_122 ?_
          refine lv_iload_n C.hx C.hb dX8_told_123 rfl (lv_at hl 3 rfl) ?_
          refine W.joinI (P := fun jv => jv = (if (x 37 i1) = (nI jN) then 1 else 0 : Int32)) 132 ls [.int (itr (f_X8_told_106_3 x jN) 0 i1)] (fun J13 => ?_) (fun v14 hv14 => ?_)
          · refine lv_icmp_ne (tgt := 131) C.hx C.hb dX8_told_124 (by decide) (fun c12 => ?_) (fun c12 => ?_)
            · refine lv_iconst (v := 0) C.hx C.hb dX8_told_131 (by decide) ?_
              exact J13 _ (by rw [if_neg c12])
            · refine lv_iconst (v := 1) C.hx C.hb dX8_told_127 (by decide) ?_
              refine lv_goto (tgt := 132) C.hx C.hb dX8_told_128 (by decide) ?_
              exact J13 _ (by rw [if_pos c12])
          · refine lv_iadd C.hx C.hb dX8_told_132 ?_
            refine lv_istore_n (lv' := [(3, .int ((itr (f_X8_told_106_3 x jN) 0 i1) + v14)), (4, .int (nI i1)), (0, .ref m0), (1, .int (nI jN)), (2, .int what)]) C.hx C.hb dX8_told_133 rfl hl (by decide) rfl (fun ls hl => ?_)
            refine lv_iinc (v := (nI i1) + 1) (lv' := [(4, .int ((nI i1) + 1)), (3, .int ((itr (f_X8_told_106_3 x jN) 0 i1) + v14)), (0, .ref m0), (1, .int (nI jN)), (2, .int what)]) C.hx C.hb dX8_told_134 hl (k := 1) rfl rfl (by decide) rfl (fun ls hl => ?_)
            refine lv_goto (tgt := 106) C.hx C.hb dX8_told_137 (by decide) ?_
            rw [hv14] at hl
            rw [nI_1 i1] at hl
            exact K1 _ (lv_sub hl [0, 1, 2, 3, 4] rfl)
      · refine lv_iload C.hx C.hb dX8_told_106 (lv_at hl 0 rfl) ?_
        refine lv_aload_n C.hx C.hb dX8_told_108 rfl (lv_at hl 2 rfl) ?_
        refine g_get (k := 42) (v := .int (x 42 0)) C hW.1 rfl wu_X8 (by decide) wf_X8_160 rfl rfl dX8_told_109 ?_
        refine lv_icmp_ge (tgt := 140) C.hx C.hb dX8_told_112 (by decide) (fun c15 => ?_) (fun c15 => ?_)
        · refine lv_iload_n C.hx C.hb dX8_told_140 rfl (lv_at hl 1 rfl) ?_
          exact rI C hr dX8_told_141 (by unfold s_X8_told; (try simp only [tjN]); rw [if_neg c1, if_neg c2, if_neg c3, if_neg c4, if_neg c5, if_neg c6, if_pos c10])
        · exact absurd (le_eqn eV) c15
    by_cases c16 : what = 6
    · refine sw_in (off := 130) (tgt := 142) C.hx C.hb dX8_told_12 c16 (by decide) (by decide) (by decide) (by decide) ?_
      refine lv_aload_n C.hx C.hb dX8_told_142 rfl (lv_at hl 1 rfl) ?_
      refine lv_iload_n C.hx C.hb dX8_told_143 rfl (lv_at hl 2 rfl) ?_
      refine lv_iconst (v := 0) C.hx C.hb dX8_told_144 (by decide) ?_
      refine kVR (As := [.int (nI jN), .int 0]) (rest := []) (v := .int (s_X8_doubt x (nI jN) 0)) C (cM_doubt l G m0 x z hI (nI jN) 0) lk_X8_190 (g_recv C hW.1 rfl) hW rfl rfl hl (Nat.le_of_ble_eq_true rfl) dX8_told_145 ⟨⟨by decide, by decide⟩, by decide, by decide⟩ ?_
      exact rI C hr dX8_told_148 (by unfold s_X8_told; (try simp only [tjN]); rw [if_neg c1, if_neg c2, if_neg c3, if_neg c4, if_neg c5, if_neg c6, if_neg c10, if_pos c16])
    by_cases c17 : what = 7
    · refine sw_in (off := 137) (tgt := 149) C.hx C.hb dX8_told_12 c17 (by decide) (by decide) (by decide) (by decide) ?_
      refine lv_aload_n C.hx C.hb dX8_told_149 rfl (lv_at hl 1 rfl) ?_
      refine lv_iload_n C.hx C.hb dX8_told_150 rfl (lv_at hl 2 rfl) ?_
      refine lv_iconst (v := 1) C.hx C.hb dX8_told_151 (by decide) ?_
      refine kVR (As := [.int (nI jN), .int 1]) (rest := []) (v := .int (s_X8_doubt x (nI jN) 1)) C (cM_doubt l G m0 x z hI (nI jN) 1) lk_X8_190 (g_recv C hW.1 rfl) hW rfl rfl hl (Nat.le_of_ble_eq_true rfl) dX8_told_152 ⟨⟨by decide, by decide⟩, by decide, by decide⟩ ?_
      exact rI C hr dX8_told_155 (by unfold s_X8_told; (try simp only [tjN]); rw [if_neg c1, if_neg c2, if_neg c3, if_neg c4, if_neg c5, if_neg c6, if_neg c10, if_neg c16, if_pos c17])
    refine lv_tableOut (tgt := 156) C.hx C.hb dX8_told_12 (by have nc2 := lv_neT c2 (a := 0) (by decide); have nc3 := lv_neT c3 (a := 1) (by decide); have nc4 := lv_neT c4 (a := 2) (by decide); have nc5 := lv_neT c5 (a := 3) (by decide); have nc6 := lv_neT c6 (a := 4) (by decide); have nc10 := lv_neT c10 (a := 5) (by decide); have nc16 := lv_neT c16 (a := 6) (by decide); have nc17 := lv_neT c17 (a := 7) (by decide); omega) (by decide) ?_
    refine lv_iconst (v := (-1)) C.hx C.hb dX8_told_156 (by decide) ?_
    exact rI C hr dX8_told_157 (by unfold s_X8_told; (try simp only [tjN]); rw [if_neg c1, if_neg c2, if_neg c3, if_neg c4, if_neg c5, if_neg c6, if_neg c10, if_neg c16, if_neg c17])
  · refine lv_iconst (v := (-1)) C.hx C.hb dX8_told_7 (by decide) ?_
    exact rI C hr dX8_told_8 (by unfold s_X8_told; rw [if_pos c1])
def f_X8_count_52_2 (x : Nat → Nat → Int32) : Nat → Int32 → Int32 := fun i1 a => (a) + (if (s_X8_isAsking x i1) = 0 then 0 else 1 : Int32)
def s_X8_count (x : Nat → Nat → Int32) (what : Int32) : Int32 := (if what = 0 then x 12 0 else (if what = 1 then x 27 0 else (if what = 2 then itr (f_X8_count_52_2 x) 0 (nC x) else (if what = 3 then x 36 0 else (if what = 4 then x 28 0 else (if what = 5 then x 0 0 else (-1)))))))
set_option maxRecDepth 100000 in
set_option maxHeartbeats 400000 in
theorem cM_count (l : Launch) (G : GG) (m0 : Nat) (x : Nat → Nat → Int32) (z : Nat → Int64) (hI : MI x) (what : Int32) : MR l G yX8_count cX8_count 4 (some .int) 1 [.ref m0, .int what] (MWd G m0 x z) (some (.int (s_X8_count x what))) := by
  refine MR.of RX8 rfl (by decide) (Nat.le_of_ble_eq_true rfl) ?_
  intro p_ e_ s_ m_ args_ below_ meth_ c_ ls hargs C hr hnm hW hl
  obtain ⟨⟨eP, bP⟩, ⟨eC, bC⟩, ⟨eG, bG⟩, ⟨eV, bV⟩, -, -⟩ := id hI
  have hl : lv_has ls 4 [(0, .ref m0), (1, .int what)] := hl
  refine lv_iconst (v := 0) C.hx C.hb dX8_count_0 (by decide) ?_
  refine lv_istore_n (lv' := [(2, .int 0), (0, .ref m0), (1, .int what)]) C.hx C.hb dX8_count_1 rfl hl (by decide) rfl (fun ls hl => ?_)
  refine lv_iload_n C.hx C.hb dX8_count_2 rfl (lv_at hl 2 rfl) ?_
  by_cases c1 : what = 0
  · refine sw_in (off := 37) (tgt := 40) C.hx C.hb dX8_count_3 c1 (by decide) (by decide) (by decide) (by decide) ?_
    refine lv_aload_n C.hx C.hb dX8_count_40 rfl (lv_at hl 1 rfl) ?_
    refine g_get (k := 12) (v := .int (x 12 0)) C hW.1 rfl wu_X8 (by decide) wf_X8_144 rfl rfl dX8_count_41 ?_
    exact rI C hr dX8_count_44 (by unfold s_X8_count; rw [if_pos c1])
  by_cases c2 : what = 1
  · refine sw_in (off := 42) (tgt := 45) C.hx C.hb dX8_count_3 c2 (by decide) (by decide) (by decide) (by decide) ?_
    refine lv_aload_n C.hx C.hb dX8_count_45 rfl (lv_at hl 1 rfl) ?_
    refine g_get (k := 27) (v := .int (x 27 0)) C hW.1 rfl wu_X8 (by decide) wf_X8_133 rfl rfl dX8_count_46 ?_
    exact rI C hr dX8_count_49 (by unfold s_X8_count; rw [if_neg c1, if_pos c2])
  by_cases c3 : what = 2
  · refine sw_in (off := 47) (tgt := 50) C.hx C.hb dX8_count_3 c3 (by decide) (by decide) (by decide) (by decide) ?_
    refine lv_iconst (v := 0) C.hx C.hb dX8_count_50 (by decide) ?_
    refine lv_istore_n (lv' := [(3, .int 0), (2, .int 0), (0, .ref m0), (1, .int what)]) C.hx C.hb dX8_count_51 rfl hl (by decide) rfl (fun ls hl => ?_)
    refine W.loopR (N := nC x) (Inv := fun i ls => lv_has ls 4 [(3, .int (nI i)), (2, .int (itr (f_X8_count_52_2 x) 0 i)), (0, .ref m0), (1, .int what)]) 52 [] (fun i1 ls hi1 hl K1 => ?_) (fun ls hl => ?_) 0 ls (Nat.zero_le _) (lv_sub hl [0, 1, 2, 3] rfl)
    · refine lv_iload_n C.hx C.hb dX8_count_52 rfl (lv_at hl 0 rfl) ?_
      refine lv_aload_n C.hx C.hb dX8_count_53 rfl (lv_at hl 2 rfl) ?_
      refine g_get (k := 27) (v := .int (x 27 0)) C hW.1 rfl wu_X8 (by decide) wf_X8_133 rfl rfl dX8_count_54 ?_
      refine lv_icmp_ge (tgt := 82) C.hx C.hb dX8_count_57 (by decide) (fun c4 => ?_) (fun c4 => ?_)
      · exact absurd c4 (lt_nle eC hi1 (by omega))
      · refine lv_iload_n C.hx C.hb dX8_count_60 rfl (lv_at hl 1 rfl) ?_
        refine lv_aload_n C.hx C.hb dX8_count_61 rfl (lv_at hl 2 rfl) ?_
        refine lv_iload_n C.hx C.hb dX8_count_62 rfl (lv_at hl 0 rfl) ?_
        refine kVR (As := [.int (nI i1)]) (rest := [.int (itr (f_X8_count_52_2 x) 0 i1)]) (v := .int (s_X8_isAsking x i1)) C (cM_isAsking l G m0 x z hI i1 (show i1 < nC x by omega)) lk_X8_167 (g_recv C hW.1 rfl) hW rfl rfl hl (Nat.le_of_ble_eq_true rfl) dX8_count_63 ⟨⟨by decide, by decide⟩, by decide, by decide⟩ ?_
        refine W.joinI (P := fun jv => jv = (if (s_X8_isAsking x i1) = 0 then 0 else 1 : Int32)) 74 ls [.int (itr (f_X8_count_52_2 x) 0 i1)] (fun J6 => ?_) (fun v7 hv7 => ?_)
        · refine lv_if_eq (tgt := 73) C.hx C.hb dX8_count_66 (by decide) (fun c5 => ?_) (fun c5 => ?_)
          · refine lv_iconst (v := 0) C.hx C.hb dX8_count_73 (by decide) ?_
            exact J6 _ (by rw [if_pos c5])
          · refine lv_iconst (v := 1) C.hx C.hb dX8_count_69 (by decide) ?_
            refine lv_goto (tgt := 74) C.hx C.hb dX8_count_70 (by decide) ?_
            exact J6 _ (by rw [if_neg c5])
        · refine lv_iadd C.hx C.hb dX8_count_74 ?_
          refine lv_istore_n (lv' := [(2, .int ((itr (f_X8_count_52_2 x) 0 i1) + v7)), (3, .int (nI i1)), (0, .ref m0), (1, .int what)]) C.hx C.hb dX8_count_75 rfl hl (by decide) rfl (fun ls hl => ?_)
          refine lv_iinc (v := (nI i1) + 1) (lv' := [(3, .int ((nI i1) + 1)), (2, .int ((itr (f_X8_count_52_2 x) 0 i1) + v7)), (0, .ref m0), (1, .int what)]) C.hx C.hb dX8_count_76 hl (k := 1) rfl rfl (by decide) rfl (fun ls hl => ?_)
          refine lv_goto (tgt := 52) C.hx C.hb dX8_count_79 (by decide) ?_
          rw [hv7] at hl
          rw [nI_1 i1] at hl
          exact K1 _ (lv_sub hl [0, 1, 2, 3] rfl)
    · refine lv_iload_n C.hx C.hb dX8_count_52 rfl (lv_at hl 0 rfl) ?_
      refine lv_aload_n C.hx C.hb dX8_count_53 rfl (lv_at hl 2 rfl) ?_
      refine g_get (k := 27) (v := .int (x 27 0)) C hW.1 rfl wu_X8 (by decide) wf_X8_133 rfl rfl dX8_count_54 ?_
      refine lv_icmp_ge (tgt := 82) C.hx C.hb dX8_count_57 (by decide) (fun c8 => ?_) (fun c8 => ?_)
      · refine lv_iload_n C.hx C.hb dX8_count_82 rfl (lv_at hl 1 rfl) ?_
        exact rI C hr dX8_count_83 (by unfold s_X8_count; rw [if_neg c1, if_neg c2, if_pos c3])
      · exact absurd (le_eqn eC) c8
  by_cases c9 : what = 3
  · refine sw_in (off := 81) (tgt := 84) C.hx C.hb dX8_count_3 c9 (by decide) (by decide) (by decide) (by decide) ?_
    refine lv_aload_n C.hx C.hb dX8_count_84 rfl (lv_at hl 1 rfl) ?_
    refine g_get (k := 36) (v := .int (x 36 0)) C hW.1 rfl wu_X8 (by decide) wf_X8_153 rfl rfl dX8_count_85 ?_
    exact rI C hr dX8_count_88 (by unfold s_X8_count; rw [if_neg c1, if_neg c2, if_neg c3, if_pos c9])
  by_cases c10 : what = 4
  · refine sw_in (off := 86) (tgt := 89) C.hx C.hb dX8_count_3 c10 (by decide) (by decide) (by decide) (by decide) ?_
    refine lv_aload_n C.hx C.hb dX8_count_89 rfl (lv_at hl 1 rfl) ?_
    refine g_get (k := 28) (v := .int (x 28 0)) C hW.1 rfl wu_X8 (by decide) wf_X8_197 rfl rfl dX8_count_90 ?_
    exact rI C hr dX8_count_93 (by unfold s_X8_count; rw [if_neg c1, if_neg c2, if_neg c3, if_neg c9, if_pos c10])
  by_cases c11 : what = 5
  · refine sw_in (off := 91) (tgt := 94) C.hx C.hb dX8_count_3 c11 (by decide) (by decide) (by decide) (by decide) ?_
    refine lv_aload_n C.hx C.hb dX8_count_94 rfl (lv_at hl 1 rfl) ?_
    refine g_get (k := 0) (v := .int (x 0 0)) C hW.1 rfl wu_X8 (by decide) wf_X8_140 rfl rfl dX8_count_95 ?_
    exact rI C hr dX8_count_98 (by unfold s_X8_count; rw [if_neg c1, if_neg c2, if_neg c3, if_neg c9, if_neg c10, if_pos c11])
  refine lv_tableOut (tgt := 99) C.hx C.hb dX8_count_3 (by have nc1 := lv_neT c1 (a := 0) (by decide); have nc2 := lv_neT c2 (a := 1) (by decide); have nc3 := lv_neT c3 (a := 2) (by decide); have nc9 := lv_neT c9 (a := 3) (by decide); have nc10 := lv_neT c10 (a := 4) (by decide); have nc11 := lv_neT c11 (a := 5) (by decide); omega) (by decide) ?_
  refine lv_iconst (v := (-1)) C.hx C.hb dX8_count_99 (by decide) ?_
  exact rI C hr dX8_count_100 (by unfold s_X8_count; rw [if_neg c1, if_neg c2, if_neg c3, if_neg c9, if_neg c10, if_neg c11])
def s_X8_about (x : Nat → Nat → Int32) (c : Int32) (what : Int32) : Int32 := (if (s_X8_isCase x c) = 0 then (-1) else (if what = 0 then x 13 (tn c) else (if what = 1 then x 14 (tn c) else (if what = 2 then x 15 (tn c) else (if what = 3 then x 16 (tn c) else (if what = 4 then (if (s_X8_isAsking x (tn c)) = 0 then 0 else x 19 (tn c) : Int32) else (if what = 5 then s_X8_giftsOf x (-1) c else (if what = 6 then s_X8_lateBy x (tn c) else (if what = 7 then x 21 (tn c) else (-1))))))))))
set_option maxRecDepth 100000 in
set_option maxHeartbeats 400000 in
theorem cM_about (l : Launch) (G : GG) (m0 : Nat) (x : Nat → Nat → Int32) (z : Nat → Int64) (hI : MI x) (c : Int32) (what : Int32) : MR l G yX8_about cX8_about 3 (some .int) 2 [.ref m0, .int c, .int what] (MWd G m0 x z) (some (.int (s_X8_about x c what))) := by
  refine MR.of RX8 rfl (by decide) (Nat.le_of_ble_eq_true rfl) ?_
  intro p_ e_ s_ m_ args_ below_ meth_ c_ ls hargs C hr hnm hW hl
  obtain ⟨⟨eP, bP⟩, ⟨eC, bC⟩, ⟨eG, bG⟩, ⟨eV, bV⟩, -, -⟩ := id hI
  have hl : lv_has ls 3 [(0, .ref m0), (1, .int c), (2, .int what)] := hl
  refine lv_aload_n C.hx C.hb dX8_about_0 rfl (lv_at hl 0 rfl) ?_
  refine lv_iload_n C.hx C.hb dX8_about_1 rfl (lv_at hl 1 rfl) ?_
  refine kVR (As := [.int c]) (rest := []) (v := .int (s_X8_isCase x c)) C (cM_isCase l G m0 x z hI c) lk_X8_184 (g_recv C hW.1 rfl) hW rfl rfl hl (Nat.le_of_ble_eq_true rfl) dX8_about_2 ⟨⟨by decide, by decide⟩, by decide, by decide⟩ ?_
  refine lv_if_ne (tgt := 10) C.hx C.hb dX8_about_5 (by decide) (fun c1 => ?_) (fun c1 => ?_)
  · obtain ⟨cN, hcN, rfl⟩ := isCase_nz hI c1
    have tcN : tn (nI cN) = cN := nI_clamp (by omega)
    refine lv_iload_n C.hx C.hb dX8_about_10 rfl (lv_at hl 2 rfl) ?_
    by_cases c2 : what = 0
    · refine sw_in (off := 45) (tgt := 56) C.hx C.hb dX8_about_11 c2 (by decide) (by decide) (by decide) (by decide) ?_
      refine lv_aload_n C.hx C.hb dX8_about_56 rfl (lv_at hl 0 rfl) ?_
      refine g_get (k := 13) (v := .ref (am m0 13)) C hW.1 rfl wu_X8 (by decide) wf_X8_44 rfl rfl dX8_about_57 ?_
      refine lv_iload_n C.hx C.hb dX8_about_60 rfl (lv_at hl 1 rfl) ?_
      refine g_iald (f := x 13) (k := cN) C (hW.2.1 13 rfl) rfl (show cN < 400 by omega) (by decide) dX8_about_61 ?_
      have f3 := MI.po hI (show cN < nC x by omega)
      have f3b : tn (x 13 cN) < nP x := f3.2
      exact rI C hr dX8_about_62 (by unfold s_X8_about; (try simp only [tcN]); rw [if_neg c1, if_pos c2])
    by_cases c4 : what = 1
    · refine sw_in (off := 52) (tgt := 63) C.hx C.hb dX8_about_11 c4 (by decide) (by decide) (by decide) (by decide) ?_
      refine lv_aload_n C.hx C.hb dX8_about_63 rfl (lv_at hl 0 rfl) ?_
      refine g_get (k := 14) (v := .ref (am m0 14)) C hW.1 rfl wu_X8 (by decide) wf_X8_47 rfl rfl dX8_about_64 ?_
      refine lv_iload_n C.hx C.hb dX8_about_67 rfl (lv_at hl 1 rfl) ?_
      refine g_iald (f := x 14) (k := cN) C (hW.2.1 14 rfl) rfl (show cN < 400 by omega) (by decide) dX8_about_68 ?_
      have f5 := MI.ru hI (show cN < nC x by omega)
      have f5b : tn (x 14 cN) < 8 := f5.2
      exact rI C hr dX8_about_69 (by unfold s_X8_about; (try simp only [tcN]); rw [if_neg c1, if_neg c2, if_pos c4])
    by_cases c6 : what = 2
    · refine sw_in (off := 59) (tgt := 70) C.hx C.hb dX8_about_11 c6 (by decide) (by decide) (by decide) (by decide) ?_
      refine lv_aload_n C.hx C.hb dX8_about_70 rfl (lv_at hl 0 rfl) ?_
      refine g_get (k := 15) (v := .ref (am m0 15)) C hW.1 rfl wu_X8 (by decide) wf_X8_50 rfl rfl dX8_about_71 ?_
      refine lv_iload_n C.hx C.hb dX8_about_74 rfl (lv_at hl 1 rfl) ?_
      refine g_iald (f := x 15) (k := cN) C (hW.2.1 15 rfl) rfl (show cN < 400 by omega) (by decide) dX8_about_75 ?_
      exact rI C hr dX8_about_76 (by unfold s_X8_about; (try simp only [tcN]); rw [if_neg c1, if_neg c2, if_neg c4, if_pos c6])
    by_cases c7 : what = 3
    · refine sw_in (off := 66) (tgt := 77) C.hx C.hb dX8_about_11 c7 (by decide) (by decide) (by decide) (by decide) ?_
      refine lv_aload_n C.hx C.hb dX8_about_77 rfl (lv_at hl 0 rfl) ?_
      refine g_get (k := 16) (v := .ref (am m0 16)) C hW.1 rfl wu_X8 (by decide) wf_X8_53 rfl rfl dX8_about_78 ?_
      refine lv_iload_n C.hx C.hb dX8_about_81 rfl (lv_at hl 1 rfl) ?_
      refine g_iald (f := x 16) (k := cN) C (hW.2.1 16 rfl) rfl (show cN < 400 by omega) (by decide) dX8_about_82 ?_
      exact rI C hr dX8_about_83 (by unfold s_X8_about; (try simp only [tcN]); rw [if_neg c1, if_neg c2, if_neg c4, if_neg c6, if_pos c7])
    by_cases c8 : what = 4
    · refine sw_in (off := 73) (tgt := 84) C.hx C.hb dX8_about_11 c8 (by decide) (by decide) (by decide) (by decide) ?_
      refine lv_aload_n C.hx C.hb dX8_about_84 rfl (lv_at hl 0 rfl) ?_
      refine lv_iload_n C.hx C.hb dX8_about_85 rfl (lv_at hl 1 rfl) ?_
      refine kVR (As := [.int (nI cN)]) (rest := []) (v := .int (s_X8_isAsking x cN)) C (cM_isAsking l G m0 x z hI cN (show cN < nC x by omega)) lk_X8_167 (g_recv C hW.1 rfl) hW rfl rfl hl (Nat.le_of_ble_eq_true rfl) dX8_about_86 ⟨⟨by decide, by decide⟩, by decide, by decide⟩ ?_
      refine W.joinI (P := fun jv => jv = (if (s_X8_isAsking x cN) = 0 then 0 else x 19 cN : Int32)) 102 ls [] (fun J10 => ?_) (fun v11 hv11 => ?_)
      · refine lv_if_eq (tgt := 101) C.hx C.hb dX8_about_89 (by decide) (fun c9 => ?_) (fun c9 => ?_)
        · refine lv_iconst (v := 0) C.hx C.hb dX8_about_101 (by decide) ?_
          exact J10 _ (by rw [if_pos c9])
        · refine lv_aload_n C.hx C.hb dX8_about_92 rfl (lv_at hl 0 rfl) ?_
          refine g_get (k := 19) (v := .ref (am m0 19)) C hW.1 rfl wu_X8 (by decide) wf_X8_62 rfl rfl dX8_about_93 ?_
          refine lv_iload_n C.hx C.hb dX8_about_96 rfl (lv_at hl 1 rfl) ?_
          refine g_iald (f := x 19) (k := cN) C (hW.2.1 19 rfl) rfl (show cN < 400 by omega) (by decide) dX8_about_97 ?_
          refine lv_goto (tgt := 102) C.hx C.hb dX8_about_98 (by decide) ?_
          exact J10 _ (by rw [if_neg c9])
      · exact rI C hr dX8_about_102 (by rw [hv11]; unfold s_X8_about; (try simp only [tcN]); rw [if_neg c1, if_neg c2, if_neg c4, if_neg c6, if_neg c7, if_pos c8])
    by_cases c12 : what = 5
    · refine sw_in (off := 92) (tgt := 103) C.hx C.hb dX8_about_11 c12 (by decide) (by decide) (by decide) (by decide) ?_
      refine lv_aload_n C.hx C.hb dX8_about_103 rfl (lv_at hl 0 rfl) ?_
      refine lv_iconst (v := (-1)) C.hx C.hb dX8_about_104 (by decide) ?_
      refine lv_iload_n C.hx C.hb dX8_about_105 rfl (lv_at hl 1 rfl) ?_
      refine kVR (As := [.int ((-1)), .int (nI cN)]) (rest := []) (v := .int (s_X8_giftsOf x (-1) (nI cN))) C (cM_giftsOf l G m0 x z hI (-1) (nI cN)) lk_X8_170 (g_recv C hW.1 rfl) hW rfl rfl hl (Nat.le_of_ble_eq_true rfl) dX8_about_106 ⟨⟨by decide, by decide⟩, by decide, by decide⟩ ?_
      exact rI C hr dX8_about_109 (by unfold s_X8_about; (try simp only [tcN]); rw [if_neg c1, if_neg c2, if_neg c4, if_neg c6, if_neg c7, if_neg c8, if_pos c12])
    by_cases c13 : what = 6
    · refine sw_in (off := 99) (tgt := 110) C.hx C.hb dX8_about_11 c13 (by decide) (by decide) (by decide) (by decide) ?_
      refine lv_aload_n C.hx C.hb dX8_about_110 rfl (lv_at hl 0 rfl) ?_
      refine lv_iload_n C.hx C.hb dX8_about_111 rfl (lv_at hl 1 rfl) ?_
      refine kVR (As := [.int (nI cN)]) (rest := []) (v := .int (s_X8_lateBy x cN)) C (cM_lateBy l G m0 x z hI cN (show cN < nC x by omega)) lk_X8_203 (g_recv C hW.1 rfl) hW rfl rfl hl (Nat.le_of_ble_eq_true rfl) dX8_about_112 ⟨⟨by decide, by decide⟩, by decide, by decide⟩ ?_
      exact rI C hr dX8_about_115 (by unfold s_X8_about; (try simp only [tcN]); rw [if_neg c1, if_neg c2, if_neg c4, if_neg c6, if_neg c7, if_neg c8, if_neg c12, if_pos c13])
    by_cases c14 : what = 7
    · refine sw_in (off := 105) (tgt := 116) C.hx C.hb dX8_about_11 c14 (by decide) (by decide) (by decide) (by decide) ?_
      refine lv_aload_n C.hx C.hb dX8_about_116 rfl (lv_at hl 0 rfl) ?_
      refine g_get (k := 21) (v := .ref (am m0 21)) C hW.1 rfl wu_X8 (by decide) wf_X8_68 rfl rfl dX8_about_117 ?_
      refine lv_iload_n C.hx C.hb dX8_about_120 rfl (lv_at hl 1 rfl) ?_
      refine g_iald (f := x 21) (k := cN) C (hW.2.1 21 rfl) rfl (show cN < 400 by omega) (by decide) dX8_about_121 ?_
      exact rI C hr dX8_about_122 (by unfold s_X8_about; (try simp only [tcN]); rw [if_neg c1, if_neg c2, if_neg c4, if_neg c6, if_neg c7, if_neg c8, if_neg c12, if_neg c13, if_pos c14])
    refine lv_tableOut (tgt := 123) C.hx C.hb dX8_about_11 (by have nc2 := lv_neT c2 (a := 0) (by decide); have nc4 := lv_neT c4 (a := 1) (by decide); have nc6 := lv_neT c6 (a := 2) (by decide); have nc7 := lv_neT c7 (a := 3) (by decide); have nc8 := lv_neT c8 (a := 4) (by decide); have nc12 := lv_neT c12 (a := 5) (by decide); have nc13 := lv_neT c13 (a := 6) (by decide); have nc14 := lv_neT c14 (a := 7) (by decide); omega) (by decide) ?_
    refine lv_iconst (v := (-1)) C.hx C.hb dX8_about_123 (by decide) ?_
    exact rI C hr dX8_about_124 (by unfold s_X8_about; (try simp only [tcN]); rw [if_neg c1, if_neg c2, if_neg c4, if_neg c6, if_neg c7, if_neg c8, if_neg c12, if_neg c13, if_neg c14])
  · refine lv_iconst (v := (-1)) C.hx C.hb dX8_about_8 (by decide) ?_
    exact rI C hr dX8_about_9 (by unfold s_X8_about; rw [if_pos c1])
def s_X8_judged (x : Nat → Nat → Int32) (c : Int32) (what : Int32) : Int32 := (if (s_X8_isCase x c) = 0 then (-1) else (if (s_X8_within what 0 2) = 0 then (-1) else (if (x 21 (tn c)) = 0 then (-4) else (if what = 0 then x 24 (tn c) else (if what = 1 then x 25 (tn c) else x 26 (tn c) : Int32) : Int32))))
set_option maxRecDepth 100000 in
set_option maxHeartbeats 400000 in
theorem cM_judged (l : Launch) (G : GG) (m0 : Nat) (x : Nat → Nat → Int32) (z : Nat → Int64) (hI : MI x) (c : Int32) (what : Int32) : MR l G yX8_judged cX8_judged 3 (some .int) 1 [.ref m0, .int c, .int what] (MWd G m0 x z) (some (.int (s_X8_judged x c what))) := by
  refine MR.of RX8 rfl (by decide) (Nat.le_of_ble_eq_true rfl) ?_
  intro p_ e_ s_ m_ args_ below_ meth_ c_ ls hargs C hr hnm hW hl
  obtain ⟨⟨eP, bP⟩, ⟨eC, bC⟩, ⟨eG, bG⟩, ⟨eV, bV⟩, -, -⟩ := id hI
  have hl : lv_has ls 3 [(0, .ref m0), (1, .int c), (2, .int what)] := hl
  refine lv_aload_n C.hx C.hb dX8_judged_0 rfl (lv_at hl 0 rfl) ?_
  refine lv_iload_n C.hx C.hb dX8_judged_1 rfl (lv_at hl 1 rfl) ?_
  refine kVR (As := [.int c]) (rest := []) (v := .int (s_X8_isCase x c)) C (cM_isCase l G m0 x z hI c) lk_X8_184 (g_recv C hW.1 rfl) hW rfl rfl hl (Nat.le_of_ble_eq_true rfl) dX8_judged_2 ⟨⟨by decide, by decide⟩, by decide, by decide⟩ ?_
  refine lv_if_eq (tgt := 17) C.hx C.hb dX8_judged_5 (by decide) (fun c1 => ?_) (fun c1 => ?_)
  · refine lv_iconst (v := (-1)) C.hx C.hb dX8_judged_17 (by decide) ?_
    exact rI C hr dX8_judged_18 (by unfold s_X8_judged; rw [if_pos c1])
  · obtain ⟨cN, hcN, rfl⟩ := isCase_nz hI c1
    have tcN : tn (nI cN) = cN := nI_clamp (by omega)
    refine lv_iload_n C.hx C.hb dX8_judged_8 rfl (lv_at hl 2 rfl) ?_
    refine lv_iconst (v := 0) C.hx C.hb dX8_judged_9 (by decide) ?_
    refine lv_iconst (v := 2) C.hx C.hb dX8_judged_10 (by decide) ?_
    refine kSR (As := [.int what, .int 0, .int 2]) (rest := []) (v := .int (s_X8_within what 0 2)) C (cM_within l G what 0 2) lk_X8_136 trivial rfl rfl hl (Nat.le_of_ble_eq_true rfl) dX8_judged_11 ⟨⟨by decide, by decide⟩, by decide, by decide⟩ ?_
    refine lv_if_ne (tgt := 19) C.hx C.hb dX8_judged_14 (by decide) (fun c2 => ?_) (fun c2 => ?_)
    · refine lv_aload_n C.hx C.hb dX8_judged_19 rfl (lv_at hl 0 rfl) ?_
      refine g_get (k := 21) (v := .ref (am m0 21)) C hW.1 rfl wu_X8 (by decide) wf_X8_68 rfl rfl dX8_judged_20 ?_
      refine lv_iload_n C.hx C.hb dX8_judged_23 rfl (lv_at hl 1 rfl) ?_
      refine g_iald (f := x 21) (k := cN) C (hW.2.1 21 rfl) rfl (show cN < 400 by omega) (by decide) dX8_judged_24 ?_
      refine lv_if_ne (tgt := 31) C.hx C.hb dX8_judged_25 (by decide) (fun c3 => ?_) (fun c3 => ?_)
      · refine lv_iload_n C.hx C.hb dX8_judged_31 rfl (lv_at hl 2 rfl) ?_
        refine W.joinI (P := fun jv => jv = (if what = 0 then x 24 cN else (if what = 1 then x 25 cN else x 26 cN : Int32) : Int32)) 64 ls [] (fun J6 => ?_) (fun v7 hv7 => ?_)
        · refine lv_if_ne (tgt := 44) C.hx C.hb dX8_judged_32 (by decide) (fun c4 => ?_) (fun c4 => ?_)
          · refine lv_iload_n C.hx C.hb dX8_judged_44 rfl (lv_at hl 2 rfl) ?_
            refine lv_iconst (v := 1) C.hx C.hb dX8_judged_45 (by decide) ?_
            refine lv_icmp_ne (tgt := 58) C.hx C.hb dX8_judged_46 (by decide) (fun c5 => ?_) (fun c5 => ?_)
            · refine lv_aload_n C.hx C.hb dX8_judged_58 rfl (lv_at hl 0 rfl) ?_
              refine g_get (k := 26) (v := .ref (am m0 26)) C hW.1 rfl wu_X8 (by decide) wf_X8_83 rfl rfl dX8_judged_59 ?_
              refine lv_iload_n C.hx C.hb dX8_judged_62 rfl (lv_at hl 1 rfl) ?_
              refine g_iald (f := x 26) (k := cN) C (hW.2.1 26 rfl) rfl (show cN < 400 by omega) (by decide) dX8_judged_63 ?_
              exact J6 _ (by rw [if_neg c4, if_neg c5])
            · refine lv_aload_n C.hx C.hb dX8_judged_49 rfl (lv_at hl 0 rfl) ?_
              refine g_get (k := 25) (v := .ref (am m0 25)) C hW.1 rfl wu_X8 (by decide) wf_X8_80 rfl rfl dX8_judged_50 ?_
              refine lv_iload_n C.hx C.hb dX8_judged_53 rfl (lv_at hl 1 rfl) ?_
              refine g_iald (f := x 25) (k := cN) C (hW.2.1 25 rfl) rfl (show cN < 400 by omega) (by decide) dX8_judged_54 ?_
              refine lv_goto (tgt := 64) C.hx C.hb dX8_judged_55 (by decide) ?_
              exact J6 _ (by rw [if_neg c4, if_pos c5])
          · refine lv_aload_n C.hx C.hb dX8_judged_35 rfl (lv_at hl 0 rfl) ?_
            refine g_get (k := 24) (v := .ref (am m0 24)) C hW.1 rfl wu_X8 (by decide) wf_X8_77 rfl rfl dX8_judged_36 ?_
            refine lv_iload_n C.hx C.hb dX8_judged_39 rfl (lv_at hl 1 rfl) ?_
            refine g_iald (f := x 24) (k := cN) C (hW.2.1 24 rfl) rfl (show cN < 400 by omega) (by decide) dX8_judged_40 ?_
            refine lv_goto (tgt := 64) C.hx C.hb dX8_judged_41 (by decide) ?_
            exact J6 _ (by rw [if_pos c4])
        · exact rI C hr dX8_judged_64 (by rw [hv7]; unfold s_X8_judged; (try simp only [tcN]); rw [if_neg c1, if_neg c2, if_neg c3])
      · refine lv_bipush (v := (-4)) C.hx C.hb dX8_judged_28 (by decide) ?_
        exact rI C hr dX8_judged_30 (by unfold s_X8_judged; (try simp only [tcN]); rw [if_neg c1, if_neg c2, if_pos c3])
    · refine lv_iconst (v := (-1)) C.hx C.hb dX8_judged_17 (by decide) ?_
      exact rI C hr dX8_judged_18 (by unfold s_X8_judged; (try simp only [tcN]); rw [if_neg c1, if_pos c2])
def s_X8_appeal (x : Nat → Nat → Int32) (c : Int32) : Int32 := (if (s_X8_isCase x c) = 0 then (-1) else (if (x 15 (tn c)) = 2 then 1 else (-4)))
def sx_X8_appeal (x : Nat → Nat → Int32) (c : Int32) : Nat → Nat → Int32 := (if (s_X8_isCase x c) = 0 then x else (if (x 15 (tn c)) = 2 then (up2 (up2 (up2 (up2 x 15 (tn c) 3) 19 (tn c) (if 9 ≤ ((x 19 (tn c)) + 2) then 9 else (x 19 (tn c)) + 2 : Int32)) 20 (tn c) 0) 18 (tn c) (x 0 0)) else x))
set_option maxRecDepth 100000 in
set_option maxHeartbeats 400000 in
theorem cM_appeal (l : Launch) (G : GG) (m0 : Nat) (x : Nat → Nat → Int32) (z : Nat → Int64) (hI : MI x) (c : Int32) : MW l G yX8_appeal cX8_appeal 2 (some .int) 1 [.ref m0, .int c] (MWd G m0 x z) (some (.int (s_X8_appeal x c))) (MWd G m0 (sx_X8_appeal x c) z) (MA m0) 0 0 := by
  refine MW.of RX8 rfl (by decide) (Nat.le_of_ble_eq_true rfl) ?_
  intro p_ e_ s_ m_ args_ below_ meth_ c_ ls hargs C hr hnm hW hS hl
  obtain ⟨⟨eP, bP⟩, ⟨eC, bC⟩, ⟨eG, bG⟩, ⟨eV, bV⟩, -, -⟩ := id hI
  have hl : lv_has ls 2 [(0, .ref m0), (1, .int c)] := hl
  refine lv_aload_n C.hx C.hb dX8_appeal_0 rfl (lv_at hl 0 rfl) ?_
  refine lv_iload_n C.hx C.hb dX8_appeal_1 rfl (lv_at hl 1 rfl) ?_
  refine kVR (As := [.int c]) (rest := []) (v := .int (s_X8_isCase x c)) C (cM_isCase l G m0 x z hI c) lk_X8_184 (g_recv C hW.1 rfl) hW rfl rfl hl (Nat.le_of_ble_eq_true rfl) dX8_appeal_2 ⟨⟨by decide, by decide⟩, by decide, by decide⟩ ?_
  refine lv_if_ne (tgt := 10) C.hx C.hb dX8_appeal_5 (by decide) (fun c1 => ?_) (fun c1 => ?_)
  · obtain ⟨cN, hcN, rfl⟩ := isCase_nz hI c1
    have tcN : tn (nI cN) = cN := nI_clamp (by omega)
    refine lv_aload_n C.hx C.hb dX8_appeal_10 rfl (lv_at hl 0 rfl) ?_
    refine g_get (k := 15) (v := .ref (am m0 15)) C hW.1 rfl wu_X8 (by decide) wf_X8_50 rfl rfl dX8_appeal_11 ?_
    refine lv_iload_n C.hx C.hb dX8_appeal_14 rfl (lv_at hl 1 rfl) ?_
    refine g_iald (f := x 15) (k := cN) C (hW.2.1 15 rfl) rfl (show cN < 400 by omega) (by decide) dX8_appeal_15 ?_
    refine lv_iconst (v := 2) C.hx C.hb dX8_appeal_16 (by decide) ?_
    refine lv_icmp_eq (tgt := 23) C.hx C.hb dX8_appeal_17 (by decide) (fun c2 => ?_) (fun c2 => ?_)
    · refine lv_aload_n C.hx C.hb dX8_appeal_23 rfl (lv_at hl 0 rfl) ?_
      refine g_get (k := 15) (v := .ref (am m0 15)) C hW.1 rfl wu_X8 (by decide) wf_X8_50 rfl rfl dX8_appeal_24 ?_
      refine lv_iload_n C.hx C.hb dX8_appeal_27 rfl (lv_at hl 1 rfl) ?_
      refine lv_iconst (v := 3) C.hx C.hb dX8_appeal_28 (by decide) ?_
      refine g_iast (f := x 15) (k := cN) C hS (hW.2.1 15 rfl) (am_A (Or.inl rfl)) rfl (show cN < 400 by omega) (by decide) dX8_appeal_29 (fun H locs e1 o1 z1 hS => ?_)
      have hW : MWd G m0 (up2 x 15 cN 3) z H := MWd.putA 15 hW rfl e1 o1 (mfs_up rfl) (by decide) (by decide)
      refine lv_aload_n C.hx C.hb dX8_appeal_30 rfl (lv_at hl 0 rfl) ?_
      refine g_get (k := 19) (v := .ref (am m0 19)) C hW.1 rfl wu_X8 (by decide) wf_X8_62 rfl rfl dX8_appeal_31 ?_
      refine lv_iload_n C.hx C.hb dX8_appeal_34 rfl (lv_at hl 1 rfl) ?_
      refine lv_aload_n C.hx C.hb dX8_appeal_35 rfl (lv_at hl 0 rfl) ?_
      refine g_get (k := 19) (v := .ref (am m0 19)) C hW.1 rfl wu_X8 (by decide) wf_X8_62 rfl rfl dX8_appeal_36 ?_
      refine lv_iload_n C.hx C.hb dX8_appeal_39 rfl (lv_at hl 1 rfl) ?_
      refine g_iald (f := x 19) (k := cN) C (hW.2.1 19 rfl) rfl (show cN < 400 by omega) (by decide) dX8_appeal_40 ?_
      refine lv_iconst (v := 2) C.hx C.hb dX8_appeal_41 (by decide) ?_
      refine lv_iadd C.hx C.hb dX8_appeal_42 ?_
      refine lv_bipush (v := 9) C.hx C.hb dX8_appeal_43 (by decide) ?_
      refine W.joinI (P := fun jv => jv = (if 9 ≤ ((x 19 cN) + 2) then 9 else (x 19 cN) + 2 : Int32)) 61 ls [.int (nI cN), .ref (am m0 19)] (fun J4 => ?_) (fun v5 hv5 => ?_)
      · refine lv_icmp_ge (tgt := 59) C.hx C.hb dX8_appeal_45 (by decide) (fun c3 => ?_) (fun c3 => ?_)
        · refine lv_bipush (v := 9) C.hx C.hb dX8_appeal_59 (by decide) ?_
          exact J4 _ (by rw [if_pos c3])
        · refine lv_aload_n C.hx C.hb dX8_appeal_48 rfl (lv_at hl 0 rfl) ?_
          refine g_get (k := 19) (v := .ref (am m0 19)) C hW.1 rfl wu_X8 (by decide) wf_X8_62 rfl rfl dX8_appeal_49 ?_
          refine lv_iload_n C.hx C.hb dX8_appeal_52 rfl (lv_at hl 1 rfl) ?_
          refine g_iald (f := x 19) (k := cN) C (hW.2.1 19 rfl) rfl (show cN < 400 by omega) (by decide) dX8_appeal_53 ?_
          refine lv_iconst (v := 2) C.hx C.hb dX8_appeal_54 (by decide) ?_
          refine lv_iadd C.hx C.hb dX8_appeal_55 ?_
          refine lv_goto (tgt := 61) C.hx C.hb dX8_appeal_56 (by decide) ?_
          exact J4 _ (by rw [if_neg c3])
      · refine g_iast (f := x 19) (k := cN) C hS (hW.2.1 19 rfl) (am_A (Or.inl rfl)) rfl (show cN < 400 by omega) (by decide) dX8_appeal_61 (fun H locs e1 o1 z1 hS => ?_)
        have hW : MWd G m0 (up2 (up2 x 15 cN 3) 19 cN v5) z H := MWd.putA 19 hW rfl e1 o1 (mfs_up rfl) (by decide) (by decide)
        refine lv_aload_n C.hx C.hb dX8_appeal_62 rfl (lv_at hl 0 rfl) ?_
        refine g_get (k := 20) (v := .ref (am m0 20)) C hW.1 rfl wu_X8 (by decide) wf_X8_65 rfl rfl dX8_appeal_63 ?_
        refine lv_iload_n C.hx C.hb dX8_appeal_66 rfl (lv_at hl 1 rfl) ?_
        refine lv_iconst (v := 0) C.hx C.hb dX8_appeal_67 (by decide) ?_
        refine g_iast (f := x 20) (k := cN) C hS (hW.2.1 20 rfl) (am_A (Or.inl rfl)) rfl (show cN < 400 by omega) (by decide) dX8_appeal_68 (fun H locs e1 o1 z1 hS => ?_)
        have hW : MWd G m0 (up2 (up2 (up2 x 15 cN 3) 19 cN v5) 20 cN 0) z H := MWd.putA 20 hW rfl e1 o1 (mfs_up rfl) (by decide) (by decide)
        refine lv_aload_n C.hx C.hb dX8_appeal_69 rfl (lv_at hl 0 rfl) ?_
        refine g_get (k := 18) (v := .ref (am m0 18)) C hW.1 rfl wu_X8 (by decide) wf_X8_59 rfl rfl dX8_appeal_70 ?_
        refine lv_iload_n C.hx C.hb dX8_appeal_73 rfl (lv_at hl 1 rfl) ?_
        refine lv_aload_n C.hx C.hb dX8_appeal_74 rfl (lv_at hl 0 rfl) ?_
        refine g_get (k := 0) (v := .int (x 0 0)) C hW.1 rfl wu_X8 (by decide) wf_X8_140 rfl rfl dX8_appeal_75 ?_
        refine g_iast (f := x 18) (k := cN) C hS (hW.2.1 18 rfl) (am_A (Or.inl rfl)) rfl (show cN < 400 by omega) (by decide) dX8_appeal_78 (fun H locs e1 o1 z1 hS => ?_)
        have hW : MWd G m0 (up2 (up2 (up2 (up2 x 15 cN 3) 19 cN v5) 20 cN 0) 18 cN (x 0 0)) z H := MWd.putA 18 hW rfl e1 o1 (mfs_up rfl) (by decide) (by decide)
        refine lv_iconst (v := 1) C.hx C.hb dX8_appeal_79 (by decide) ?_
        exact wI C hr dX8_appeal_80 hS (by unfold s_X8_appeal; (try simp only [tcN]); rw [if_neg c1, if_pos c2]) (by rw [hv5] at hW; unfold sx_X8_appeal; (try simp only [tcN]); rw [if_neg c1, if_pos c2]; exact hW)
    · refine lv_bipush (v := (-4)) C.hx C.hb dX8_appeal_20 (by decide) ?_
      exact wI C hr dX8_appeal_22 hS (by unfold s_X8_appeal; (try simp only [tcN]); rw [if_neg c1, if_neg c2]) (by unfold sx_X8_appeal; (try simp only [tcN]); rw [if_neg c1, if_neg c2]; exact hW)
  · refine lv_iconst (v := (-1)) C.hx C.hb dX8_appeal_8 (by decide) ?_
    exact wI C hr dX8_appeal_9 hS (by unfold s_X8_appeal; rw [if_pos c1]) (by unfold sx_X8_appeal; rw [if_pos c1]; exact hW)
def s_X8_like (x : Nat → Nat → Int32) (c : Int32) (d : Int32) : Int32 := (if (s_X8_isCase x c) = 0 then (-1) else (if (s_X8_within d 0 8) = 0 then (-1) else s_X8_likeOnes x (tn c) d (-1) : Int32))
set_option maxRecDepth 100000 in
set_option maxHeartbeats 400000 in
theorem cM_like (l : Launch) (G : GG) (m0 : Nat) (x : Nat → Nat → Int32) (z : Nat → Int64) (hI : MI x) (c : Int32) (d : Int32) : MR l G yX8_like cX8_like 3 (some .int) 1 [.ref m0, .int c, .int d] (MWd G m0 x z) (some (.int (s_X8_like x c d))) := by
  refine MR.of RX8 rfl (by decide) (Nat.le_of_ble_eq_true rfl) ?_
  intro p_ e_ s_ m_ args_ below_ meth_ c_ ls hargs C hr hnm hW hl
  obtain ⟨⟨eP, bP⟩, ⟨eC, bC⟩, ⟨eG, bG⟩, ⟨eV, bV⟩, -, -⟩ := id hI
  have hl : lv_has ls 3 [(0, .ref m0), (1, .int c), (2, .int d)] := hl
  refine lv_aload_n C.hx C.hb dX8_like_0 rfl (lv_at hl 0 rfl) ?_
  refine lv_iload_n C.hx C.hb dX8_like_1 rfl (lv_at hl 1 rfl) ?_
  refine kVR (As := [.int c]) (rest := []) (v := .int (s_X8_isCase x c)) C (cM_isCase l G m0 x z hI c) lk_X8_184 (g_recv C hW.1 rfl) hW rfl rfl hl (Nat.le_of_ble_eq_true rfl) dX8_like_2 ⟨⟨by decide, by decide⟩, by decide, by decide⟩ ?_
  refine lv_if_eq (tgt := 28) C.hx C.hb dX8_like_5 (by decide) (fun c1 => ?_) (fun c1 => ?_)
  · refine lv_iconst (v := (-1)) C.hx C.hb dX8_like_28 (by decide) ?_
    exact rI C hr dX8_like_29 (by unfold s_X8_like; rw [if_pos c1])
  · obtain ⟨cN, hcN, rfl⟩ := isCase_nz hI c1
    have tcN : tn (nI cN) = cN := nI_clamp (by omega)
    refine lv_iload_n C.hx C.hb dX8_like_8 rfl (lv_at hl 2 rfl) ?_
    refine lv_iconst (v := 0) C.hx C.hb dX8_like_9 (by decide) ?_
    refine lv_bipush (v := 8) C.hx C.hb dX8_like_10 (by decide) ?_
    refine kSR (As := [.int d, .int 0, .int 8]) (rest := []) (v := .int (s_X8_within d 0 8)) C (cM_within l G d 0 8) lk_X8_136 trivial rfl rfl hl (Nat.le_of_ble_eq_true rfl) dX8_like_12 ⟨⟨by decide, by decide⟩, by decide, by decide⟩ ?_
    refine W.joinI (P := fun jv => jv = (if (s_X8_within d 0 8) = 0 then (-1) else s_X8_likeOnes x cN d (-1) : Int32)) 29 ls [] (fun J3 => ?_) (fun v4 hv4 => ?_)
    · refine lv_if_eq (tgt := 28) C.hx C.hb dX8_like_15 (by decide) (fun c2 => ?_) (fun c2 => ?_)
      · refine lv_iconst (v := (-1)) C.hx C.hb dX8_like_28 (by decide) ?_
        exact J3 _ (by rw [if_pos c2])
      · refine lv_aload_n C.hx C.hb dX8_like_18 rfl (lv_at hl 0 rfl) ?_
        refine lv_iload_n C.hx C.hb dX8_like_19 rfl (lv_at hl 1 rfl) ?_
        refine lv_iload_n C.hx C.hb dX8_like_20 rfl (lv_at hl 2 rfl) ?_
        refine lv_iconst (v := (-1)) C.hx C.hb dX8_like_21 (by decide) ?_
        refine kVR (As := [.int (nI cN), .int d, .int ((-1))]) (rest := []) (v := .int (s_X8_likeOnes x cN d (-1))) C (cM_likeOnes l G m0 x z hI cN d (-1) (show cN < nC x by omega)) lk_X8_206 (g_recv C hW.1 rfl) hW rfl rfl hl (Nat.le_of_ble_eq_true rfl) dX8_like_22 ⟨⟨by decide, by decide⟩, by decide, by decide⟩ ?_
        refine lv_goto (tgt := 29) C.hx C.hb dX8_like_25 (by decide) ?_
        exact J3 _ (by rw [if_neg c2])
    · exact rI C hr dX8_like_29 (by rw [hv4]; unfold s_X8_like; (try simp only [tcN]); rw [if_neg c1])
def s_X8_unlike (x : Nat → Nat → Int32) (c : Int32) (d : Int32) : Int32 := (if (s_X8_isCase x c) = 0 then (-1) else (if (s_X8_within d 0 8) = 0 then (-1) else (if (s_X8_likeOnes x (tn c) d 1) = (s_X8_likeOnes x (tn c) d 0) then 0 else (if (s_X8_likeOnes x (tn c) d 0) ≤ (s_X8_likeOnes x (tn c) d 1) then s_X8_likeOnes x (tn c) d 0 else s_X8_likeOnes x (tn c) d 1 : Int32) : Int32)))
set_option maxRecDepth 100000 in
set_option maxHeartbeats 400000 in
theorem cM_unlike (l : Launch) (G : GG) (m0 : Nat) (x : Nat → Nat → Int32) (z : Nat → Int64) (hI : MI x) (c : Int32) (d : Int32) : MR l G yX8_unlike cX8_unlike 5 (some .int) 1 [.ref m0, .int c, .int d] (MWd G m0 x z) (some (.int (s_X8_unlike x c d))) := by
  refine MR.of RX8 rfl (by decide) (Nat.le_of_ble_eq_true rfl) ?_
  intro p_ e_ s_ m_ args_ below_ meth_ c_ ls hargs C hr hnm hW hl
  obtain ⟨⟨eP, bP⟩, ⟨eC, bC⟩, ⟨eG, bG⟩, ⟨eV, bV⟩, -, -⟩ := id hI
  have hl : lv_has ls 5 [(0, .ref m0), (1, .int c), (2, .int d)] := hl
  refine lv_aload_n C.hx C.hb dX8_unlike_0 rfl (lv_at hl 0 rfl) ?_
  refine lv_iload_n C.hx C.hb dX8_unlike_1 rfl (lv_at hl 1 rfl) ?_
  refine kVR (As := [.int c]) (rest := []) (v := .int (s_X8_isCase x c)) C (cM_isCase l G m0 x z hI c) lk_X8_184 (g_recv C hW.1 rfl) hW rfl rfl hl (Nat.le_of_ble_eq_true rfl) dX8_unlike_2 ⟨⟨by decide, by decide⟩, by decide, by decide⟩ ?_
  refine lv_if_eq (tgt := 18) C.hx C.hb dX8_unlike_5 (by decide) (fun c1 => ?_) (fun c1 => ?_)
  · refine lv_iconst (v := (-1)) C.hx C.hb dX8_unlike_18 (by decide) ?_
    exact rI C hr dX8_unlike_19 (by unfold s_X8_unlike; rw [if_pos c1])
  · obtain ⟨cN, hcN, rfl⟩ := isCase_nz hI c1
    have tcN : tn (nI cN) = cN := nI_clamp (by omega)
    refine lv_iload_n C.hx C.hb dX8_unlike_8 rfl (lv_at hl 2 rfl) ?_
    refine lv_iconst (v := 0) C.hx C.hb dX8_unlike_9 (by decide) ?_
    refine lv_bipush (v := 8) C.hx C.hb dX8_unlike_10 (by decide) ?_
    refine kSR (As := [.int d, .int 0, .int 8]) (rest := []) (v := .int (s_X8_within d 0 8)) C (cM_within l G d 0 8) lk_X8_136 trivial rfl rfl hl (Nat.le_of_ble_eq_true rfl) dX8_unlike_12 ⟨⟨by decide, by decide⟩, by decide, by decide⟩ ?_
    refine lv_if_ne (tgt := 20) C.hx C.hb dX8_unlike_15 (by decide) (fun c2 => ?_) (fun c2 => ?_)
    · refine lv_aload_n C.hx C.hb dX8_unlike_20 rfl (lv_at hl 0 rfl) ?_
      refine lv_iload_n C.hx C.hb dX8_unlike_21 rfl (lv_at hl 1 rfl) ?_
      refine lv_iload_n C.hx C.hb dX8_unlike_22 rfl (lv_at hl 2 rfl) ?_
      refine lv_iconst (v := 1) C.hx C.hb dX8_unlike_23 (by decide) ?_
      refine kVR (As := [.int (nI cN), .int d, .int 1]) (rest := []) (v := .int (s_X8_likeOnes x cN d 1)) C (cM_likeOnes l G m0 x z hI cN d 1 (show cN < nC x by omega)) lk_X8_206 (g_recv C hW.1 rfl) hW rfl rfl hl (Nat.le_of_ble_eq_true rfl) dX8_unlike_24 ⟨⟨by decide, by decide⟩, by decide, by decide⟩ ?_
      refine lv_istore_n (lv' := [(3, .int (s_X8_likeOnes x cN d 1)), (0, .ref m0), (1, .int (nI cN)), (2, .int d)]) C.hx C.hb dX8_unlike_27 rfl hl (by decide) rfl (fun ls hl => ?_)
      refine lv_aload_n C.hx C.hb dX8_unlike_28 rfl (lv_at hl 1 rfl) ?_
      refine lv_iload_n C.hx C.hb dX8_unlike_29 rfl (lv_at hl 2 rfl) ?_
      refine lv_iload_n C.hx C.hb dX8_unlike_30 rfl (lv_at hl 3 rfl) ?_
      refine lv_iconst (v := 0) C.hx C.hb dX8_unlike_31 (by decide) ?_
      refine kVR (As := [.int (nI cN), .int d, .int 0]) (rest := []) (v := .int (s_X8_likeOnes x cN d 0)) C (cM_likeOnes l G m0 x z hI cN d 0 (show cN < nC x by omega)) lk_X8_206 (g_recv C hW.1 rfl) hW rfl rfl hl (Nat.le_of_ble_eq_true rfl) dX8_unlike_32 ⟨⟨by decide, by decide⟩, by decide, by decide⟩ ?_
      refine lv_istore (lv' := [(4, .int (s_X8_likeOnes x cN d 0)), (3, .int (s_X8_likeOnes x cN d 1)), (0, .ref m0), (1, .int (nI cN)), (2, .int d)]) C.hx C.hb dX8_unlike_35 hl (by decide) rfl (fun ls hl => ?_)
      refine lv_iload_n C.hx C.hb dX8_unlike_37 rfl (lv_at hl 1 rfl) ?_
      refine lv_iload C.hx C.hb dX8_unlike_38 (lv_at hl 0 rfl) ?_
      refine W.joinI (P := fun jv => jv = (if (s_X8_likeOnes x cN d 1) = (s_X8_likeOnes x cN d 0) then 0 else (if (s_X8_likeOnes x cN d 0) ≤ (s_X8_likeOnes x cN d 1) then s_X8_likeOnes x cN d 0 else s_X8_likeOnes x cN d 1 : Int32) : Int32)) 59 ls [] (fun J5 => ?_) (fun v6 hv6 => ?_)
      · refine lv_icmp_ne (tgt := 47) C.hx C.hb dX8_unlike_40 (by decide) (fun c3 => ?_) (fun c3 => ?_)
        · refine lv_iload_n C.hx C.hb dX8_unlike_47 rfl (lv_at hl 1 rfl) ?_
          refine lv_iload C.hx C.hb dX8_unlike_48 (lv_at hl 0 rfl) ?_
          refine lv_icmp_ge (tgt := 57) C.hx C.hb dX8_unlike_50 (by decide) (fun c4 => ?_) (fun c4 => ?_)
          · refine lv_iload C.hx C.hb dX8_unlike_57 (lv_at hl 0 rfl) ?_
            exact J5 _ (by rw [if_neg c3, if_pos c4])
          · refine lv_iload_n C.hx C.hb dX8_unlike_53 rfl (lv_at hl 1 rfl) ?_
            refine lv_goto (tgt := 59) C.hx C.hb dX8_unlike_54 (by decide) ?_
            exact J5 _ (by rw [if_neg c3, if_neg c4])
        · refine lv_iconst (v := 0) C.hx C.hb dX8_unlike_43 (by decide) ?_
          refine lv_goto (tgt := 59) C.hx C.hb dX8_unlike_44 (by decide) ?_
          exact J5 _ (by rw [if_pos c3])
      · exact rI C hr dX8_unlike_59 (by rw [hv6]; unfold s_X8_unlike; (try simp only [tcN]); rw [if_neg c1, if_neg c2])
    · refine lv_iconst (v := (-1)) C.hx C.hb dX8_unlike_18 (by decide) ?_
      exact rI C hr dX8_unlike_19 (by unfold s_X8_unlike; (try simp only [tcN]); rw [if_neg c1, if_pos c2])
def s_X8_hidden (x : Nat → Nat → Int32) (pp : Int32) : Int32 := (if pp < 0 then (-1) else (if (x 12 0) ≤ pp then (-1) else (if (s_X8_isHidden x pp) = 0 then 0 else 1 : Int32) : Int32) : Int32)
set_option maxRecDepth 100000 in
set_option maxHeartbeats 400000 in
theorem cM_hidden (l : Launch) (G : GG) (m0 : Nat) (x : Nat → Nat → Int32) (z : Nat → Int64) (hI : MI x) (pp : Int32) : MR l G yX8_hidden cX8_hidden 2 (some .int) 2 [.ref m0, .int pp] (MWd G m0 x z) (some (.int (s_X8_hidden x pp))) := by
  refine MR.of RX8 rfl (by decide) (Nat.le_of_ble_eq_true rfl) ?_
  intro p_ e_ s_ m_ args_ below_ meth_ c_ ls hargs C hr hnm hW hl
  obtain ⟨⟨eP, bP⟩, ⟨eC, bC⟩, ⟨eG, bG⟩, ⟨eV, bV⟩, -, -⟩ := id hI
  have hl : lv_has ls 2 [(0, .ref m0), (1, .int pp)] := hl
  refine lv_iload_n C.hx C.hb dX8_hidden_0 rfl (lv_at hl 1 rfl) ?_
  refine W.joinI (P := fun jv => jv = (if pp < 0 then (-1) else (if (x 12 0) ≤ pp then (-1) else (if (s_X8_isHidden x pp) = 0 then 0 else 1 : Int32) : Int32) : Int32)) 29 ls [] (fun J4 => ?_) (fun v5 hv5 => ?_)
  · refine lv_if_lt (tgt := 28) C.hx C.hb dX8_hidden_1 (by decide) (fun c1 => ?_) (fun c1 => ?_)
    · refine lv_iconst (v := (-1)) C.hx C.hb dX8_hidden_28 (by decide) ?_
      exact J4 _ (by rw [if_pos c1])
    · refine lv_iload_n C.hx C.hb dX8_hidden_4 rfl (lv_at hl 1 rfl) ?_
      refine lv_aload_n C.hx C.hb dX8_hidden_5 rfl (lv_at hl 0 rfl) ?_
      refine g_get (k := 12) (v := .int (x 12 0)) C hW.1 rfl wu_X8 (by decide) wf_X8_144 rfl rfl dX8_hidden_6 ?_
      refine lv_icmp_ge (tgt := 28) C.hx C.hb dX8_hidden_9 (by decide) (fun c2 => ?_) (fun c2 => ?_)
      · refine lv_iconst (v := (-1)) C.hx C.hb dX8_hidden_28 (by decide) ?_
        exact J4 _ (by rw [if_neg c1, if_pos c2])
      · refine lv_aload_n C.hx C.hb dX8_hidden_12 rfl (lv_at hl 0 rfl) ?_
        refine lv_iload_n C.hx C.hb dX8_hidden_13 rfl (lv_at hl 1 rfl) ?_
        refine kVR (As := [.int pp]) (rest := []) (v := .int (s_X8_isHidden x pp)) C (cM_isHidden l G m0 x z hI pp) lk_X8_219 (g_recv C hW.1 rfl) hW rfl rfl hl (Nat.le_of_ble_eq_true rfl) dX8_hidden_14 ⟨⟨by decide, by decide⟩, by decide, by decide⟩ ?_
        refine lv_if_eq (tgt := 24) C.hx C.hb dX8_hidden_17 (by decide) (fun c3 => ?_) (fun c3 => ?_)
        · refine lv_iconst (v := 0) C.hx C.hb dX8_hidden_24 (by decide) ?_
          refine lv_goto (tgt := 29) C.hx C.hb dX8_hidden_25 (by decide) ?_
          exact J4 _ (by rw [if_neg c1, if_neg c2, if_pos c3])
        · refine lv_iconst (v := 1) C.hx C.hb dX8_hidden_20 (by decide) ?_
          refine lv_goto (tgt := 29) C.hx C.hb dX8_hidden_21 (by decide) ?_
          exact J4 _ (by rw [if_neg c1, if_neg c2, if_neg c3])
  · exact rI C hr dX8_hidden_29 (by rw [hv5]; unfold s_X8_hidden; with_reducible rfl)
