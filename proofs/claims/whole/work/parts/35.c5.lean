theorem withinT {v : Int32} (h : ¬ s_X7_within v 0 ((nI 3) - 1) = 0) : v = nI (tn v) ∧ tn v < 3 := by
  obtain ⟨k, hk, e⟩ := withinN (n := 3) h (by decide)
  rw [e, show tn (nI k) = k from nI_clamp (by omega)]
  exact ⟨rfl, hk⟩
def s_X7_lateBy (x : XX) (c : Nat) : Int32 := (if (s_X0_isUndecided x c) = 0 then 0 else (if (s_X7_within (x 16 c) 0 ((nI 3) - 1)) = 0 then 0 else (if 0 < (((x 0 0) - (x 17 c)) - (x 45 (tn (x 16 c)))) then ((x 0 0) - (x 17 c)) - (x 45 (tn (x 16 c))) else 0 : Int32)))
set_option maxRecDepth 100000 in
set_option maxHeartbeats 1000000 in
theorem cC_X7_lateBy (l : Launch) (G : GG) (A : Nat → Prop) (ad : YY) (x : XX) (y : YY) (z : Nat → Int64) (hI : CI y) (c : Nat) (hc : c < y 20 1) : MR l G yX7_lateBy cX7_lateBy 2 (some .int) 1 [.ref (ad 0 0), .ref (ad 4 c)] (CWd G A ad x y z) (some (.int (s_X7_lateBy x c))) := by
  refine MR.of RX7 rfl (by decide) (Nat.le_of_ble_eq_true rfl) ?_
  intro p_ e_ s_ m_ args_ below_ meth_ c_ ls hargs C hr hnm hW hl
  obtain ⟨-, -, -, bP, bC, bG, bL⟩ := id hI
  have hl : lv_has ls 2 [(0, .ref (ad 0 0)), (1, .ref (ad 4 c))] := hl
  refine lv_aload_n C.hx C.hb dX7_lateBy_0 rfl (lv_at hl 1 rfl) ?_
  refine kVNR (As := []) (rest := []) (v := .int (s_X0_isUndecided x c)) C (cC_X0_isUndecided l G A ad x y z c (by omega)) lk_X7_227 (g_recv C (hW.1 4 c (show c < y 20 1 by omega)).1 rfl) hW rfl rfl hl (Nat.le_of_ble_eq_true rfl) dX7_lateBy_1 ⟨⟨by decide, by decide⟩, by decide, by decide⟩ ?_
  refine lv_if_eq (tgt := 25) C.hx C.hb dX7_lateBy_4 (by decide) (fun c1 => ?_) (fun c1 => ?_)
  · refine lv_iconst (v := 0) C.hx C.hb dX7_lateBy_25 (by decide) ?_
    exact rI C hr dX7_lateBy_26 (by unfold s_X7_lateBy; first | (rw [if_pos c1]; done) | simp only [if_pos c1] | (simp only [if_pos c1]; rfl))
  · refine lv_aload_n C.hx C.hb dX7_lateBy_7 rfl (lv_at hl 1 rfl) ?_
    refine g_getN (k := 3) (v := .int (x 16 c)) C (hW.1 4 c (show c < y 20 1 by omega)).1 rfl wu_X0 (by decide) wn_X7_357 rfl rfl dX7_lateBy_8 ?_
    refine lv_iconst (v := 0) C.hx C.hb dX7_lateBy_11 (by decide) ?_
    refine lv_aload_n C.hx C.hb dX7_lateBy_12 rfl (lv_at hl 0 rfl) ?_
    refine g_get (k := 5) (v := .ref (ad 10 1)) C (hW.1 0 0 rfl).1 rfl wu_X7 (by decide) wf_X7_34 rfl rfl dX7_lateBy_13 ?_
    refine g_alen (t := 0) C (hW.1 10 1 (show 1 < 2 by decide)).1 0 rfl dX7_lateBy_16 ?_
    show W _ _ _ _ _ _ _ _ _ _ _ _ _ _ _ (F0 m_ 17 ls [.int (nI 3), .int 0, .int (x 16 c)])
    refine lv_iconst (v := 1) C.hx C.hb dX7_lateBy_17 (by decide) ?_
    refine lv_isub C.hx C.hb dX7_lateBy_18 ?_
    refine kSR (As := [.int (x 16 c), .int 0, .int ((nI 3) - 1)]) (rest := []) (v := .int (s_X7_within (x 16 c) 0 ((nI 3) - 1))) C (cJ_X7_within l G (x 16 c) 0 ((nI 3) - 1)) lk_X7_59 trivial rfl rfl hl (Nat.le_of_ble_eq_true rfl) dX7_lateBy_19 ⟨⟨by decide, by decide⟩, by decide, by decide⟩ ?_
    refine lv_if_ne (tgt := 27) C.hx C.hb dX7_lateBy_22 (by decide) (fun c2 => ?_) (fun c2 => ?_)
    · have f3 := withinT c2
      have f3b : tn (x 16 c) < 3 := f3.2
      refine lv_iconst (v := 0) C.hx C.hb dX7_lateBy_27 (by decide) ?_
      refine lv_aload_n C.hx C.hb dX7_lateBy_28 rfl (lv_at hl 0 rfl) ?_
      refine g_get (k := 7) (v := .int (x 0 0)) C (hW.1 0 0 rfl).1 rfl wu_X7 (by decide) wf_X7_45 rfl rfl dX7_lateBy_29 ?_
      refine lv_aload_n C.hx C.hb dX7_lateBy_32 rfl (lv_at hl 1 rfl) ?_
      refine g_getN (k := 6) (v := .int (x 17 c)) C (hW.1 4 c (show c < y 20 1 by omega)).1 rfl wu_X0 (by decide) wn_X7_358 rfl rfl dX7_lateBy_33 ?_
      refine lv_isub C.hx C.hb dX7_lateBy_36 ?_
      refine lv_aload_n C.hx C.hb dX7_lateBy_37 rfl (lv_at hl 0 rfl) ?_
      refine g_get (k := 5) (v := .ref (ad 10 1)) C (hW.1 0 0 rfl).1 rfl wu_X7 (by decide) wf_X7_34 rfl rfl dX7_lateBy_38 ?_
      refine lv_aload_n C.hx C.hb dX7_lateBy_41 rfl (lv_at hl 1 rfl) ?_
      refine g_getN (k := 3) (v := .int (x 16 c)) C (hW.1 4 c (show c < y 20 1 by omega)).1 rfl wu_X0 (by decide) wn_X7_357 rfl rfl dX7_lateBy_42 ?_
      refine g_iald (n := 3) (f := x 45) (k := (tn (x 16 c))) C (hW.1 10 1 (by exact (by decide : 1 < 2))).1 f3.1 (show (tn (x 16 c)) < 3 by omega) (by decide) dX7_lateBy_45 ?_
      refine lv_isub C.hx C.hb dX7_lateBy_46 ?_
      refine g_max C hl mm_X7_361 ⟨by decide, Nat.le_of_ble_eq_true rfl, by decide, by decide⟩ dX7_lateBy_47 ?_
      exact rI C hr dX7_lateBy_50 (by unfold s_X7_lateBy; first | (rw [if_neg c1, if_neg c2]; done) | simp only [if_neg c1, if_neg c2] | (simp only [if_neg c1, if_neg c2]; rfl))
    · refine lv_iconst (v := 0) C.hx C.hb dX7_lateBy_25 (by decide) ?_
      exact rI C hr dX7_lateBy_26 (by unfold s_X7_lateBy; first | (rw [if_neg c1, if_pos c2]; done) | simp only [if_neg c1, if_pos c2] | (simp only [if_neg c1, if_pos c2]; rfl))
def f_X7_late_7 (x : Nat → Nat → Int32) : Nat → Int32 × Int32 → Int32 × Int32 := fun i1 a => ((if (s_X7_lateBy x i1) ≤ (a.2) then a.1 else nI i1 : Int32), (if (s_X7_lateBy x i1) ≤ (a.2) then a.2 else s_X7_lateBy x i1 : Int32))
def s_X7_late (x : XX) (y : YY) : Int32 := (itrG (f_X7_late_7 x) ((-4), 0) (y 20 1)).1
set_option maxRecDepth 100000 in
set_option maxHeartbeats 1000000 in
theorem cC_X7_late (l : Launch) (G : GG) (A : Nat → Prop) (ad : YY) (x : XX) (y : YY) (z : Nat → Int64) (hI : CI y)   : MR l G yX7_late cX7_late 5 (some .int) 4 [.ref (ad 0 0)] (CWd G A ad x y z) (some (.int (s_X7_late x y))) := by
  refine MR.of RX7 rfl (by decide) (Nat.le_of_ble_eq_true rfl) ?_
  intro p_ e_ s_ m_ args_ below_ meth_ c_ ls hargs C hr hnm hW hl
  obtain ⟨-, -, -, bP, bC, bG, bL⟩ := id hI
  have hl : lv_has ls 5 [(0, .ref (ad 0 0))] := hl
  refine lv_bipush (v := (-4)) C.hx C.hb dX7_late_0 (by decide) ?_
  refine lv_istore_n (lv' := [(1, .int ((-4))), (0, .ref (ad 0 0))]) C.hx C.hb dX7_late_2 rfl hl (by decide) rfl (fun ls hl => ?_)
  refine lv_iconst (v := 0) C.hx C.hb dX7_late_3 (by decide) ?_
  refine lv_istore_n (lv' := [(2, .int 0), (1, .int ((-4))), (0, .ref (ad 0 0))]) C.hx C.hb dX7_late_4 rfl hl (by decide) rfl (fun ls hl => ?_)
  refine lv_iconst (v := 0) C.hx C.hb dX7_late_5 (by decide) ?_
  refine lv_istore_n (lv' := [(3, .int 0), (2, .int 0), (1, .int ((-4))), (0, .ref (ad 0 0))]) C.hx C.hb dX7_late_6 rfl hl (by decide) rfl (fun ls hl => ?_)
  refine W.loopR (N := (y 20 1)) (Inv := fun i ls => lv_has ls 5 [(3, .int (nI i)), (2, .int ((itrG (f_X7_late_7 x) ((-4), 0) i).2)), (1, .int ((itrG (f_X7_late_7 x) ((-4), 0) i).1)), (0, .ref (ad 0 0))]) 7 [] (fun i1 ls hi1 hl K1 => ?_) (fun ls hl => ?_) 0 ls (Nat.zero_le _) (lv_sub hl [0, 1, 2, 3] rfl)
  · refine lv_iload_n C.hx C.hb dX7_late_7 rfl (lv_at hl 0 rfl) ?_
    refine lv_aload_n C.hx C.hb dX7_late_8 rfl (lv_at hl 3 rfl) ?_
    refine g_get (k := 3) (v := .ref (ad 7 1)) C (hW.1 0 0 rfl).1 rfl wu_X7 (by decide) wf_X7_28 rfl rfl dX7_late_9 ?_
    refine kVR (As := []) (rest := [.int (nI i1)]) (v := .int (nI (y 20 1))) C (cJ_size l G (ad 7 1) _ (y 20 1) _) lk_X7_83 (g_recv C (hW.1 7 1 (show 1 < 3 by decide)).1 rfl) (hW.1 7 1 (show 1 < 3 by decide)).1 rfl rfl hl (Nat.le_of_ble_eq_true rfl) dX7_late_12 ⟨⟨by decide, by decide⟩, by decide, by decide⟩ ?_
    refine lv_icmp_ge (tgt := 52) C.hx C.hb dX7_late_15 (by decide) (fun c1 => ?_) (fun c1 => ?_)
    · exact absurd c1 (lt_nle rfl hi1 (by omega))
    · refine lv_aload_n C.hx C.hb dX7_late_18 rfl (lv_at hl 3 rfl) ?_
      refine lv_aload_n C.hx C.hb dX7_late_19 rfl (lv_at hl 3 rfl) ?_
      refine g_get (k := 3) (v := .ref (ad 7 1)) C (hW.1 0 0 rfl).1 rfl wu_X7 (by decide) wf_X7_28 rfl rfl dX7_late_20 ?_
      refine lv_iload_n C.hx C.hb dX7_late_23 rfl (lv_at hl 0 rfl) ?_
      refine kVR (As := [.int (nI i1)]) (rest := [.ref (ad 0 0)]) (v := .ref (ad 4 i1)) C (cC_get l G ad x y hI 1 i1 (by decide) (by omega)) lk_X7_169 (g_recv C (hW.1 7 1 (show 1 < 3 by decide)).1 rfl) (CWd.ls hW hI 1 (by decide) (by omega)) rfl rfl hl (Nat.le_of_ble_eq_true rfl) dX7_late_24 ⟨⟨by decide, by decide⟩, by decide, by decide⟩ ?_
      refine va_castS C.hx C.hb C.hown (C.hT _ wl_X7_105) (C.hK.1.1 1 _ rfl).2 (g_recv C (hW.1 4 i1 (show i1 < y 20 1 by omega)).1 rfl) dX7_late_27 ?_
      refine kVR (As := [.ref (ad 4 i1)]) (rest := []) (v := .int (s_X7_lateBy x i1)) C (cC_X7_lateBy l G A ad x y z hI i1 (by omega)) lk_X7_237 (g_recv C (hW.1 0 0 rfl).1 rfl) hW rfl rfl hl (Nat.le_of_ble_eq_true rfl) dX7_late_30 ⟨⟨by decide, by decide⟩, by decide, by decide⟩ ?_
      refine lv_istore (lv' := [(4, .int (s_X7_lateBy x i1)), (3, .int (nI i1)), (2, .int ((itrG (f_X7_late_7 x) ((-4), 0) i1).2)), (1, .int ((itrG (f_X7_late_7 x) ((-4), 0) i1).1)), (0, .ref (ad 0 0))]) C.hx C.hb dX7_late_33 hl (by decide) rfl (fun ls hl => ?_)
      refine lv_iload C.hx C.hb dX7_late_35 (lv_at hl 0 rfl) ?_
      refine lv_iload_n C.hx C.hb dX7_late_37 rfl (lv_at hl 2 rfl) ?_
      refine W.joinL (P := fun ls => lv_has ls 5 [(4, .int (s_X7_lateBy x i1)), (3, .int (nI i1)), (2, .int ((if (s_X7_lateBy x i1) ≤ ((itrG (f_X7_late_7 x) ((-4), 0) i1).2) then (itrG (f_X7_late_7 x) ((-4), 0) i1).2 else s_X7_lateBy x i1 : Int32))), (1, .int ((if (s_X7_lateBy x i1) ≤ ((itrG (f_X7_late_7 x) ((-4), 0) i1).2) then (itrG (f_X7_late_7 x) ((-4), 0) i1).1 else nI i1 : Int32))), (0, .ref (ad 0 0))]) 46 [] (fun J3 => ?_) (fun ls hl => ?_)
      · refine lv_icmp_le (tgt := 46) C.hx C.hb dX7_late_38 (by decide) (fun c2 => ?_) (fun c2 => ?_)
        · exact J3 _ (by rw [show (if (s_X7_lateBy x i1) ≤ ((itrG (f_X7_late_7 x) ((-4), 0) i1).2) then (itrG (f_X7_late_7 x) ((-4), 0) i1).1 else nI i1 : Int32) = (itrG (f_X7_late_7 x) ((-4), 0) i1).1 from by rw [if_pos c2]]; rw [show (if (s_X7_lateBy x i1) ≤ ((itrG (f_X7_late_7 x) ((-4), 0) i1).2) then (itrG (f_X7_late_7 x) ((-4), 0) i1).2 else s_X7_lateBy x i1 : Int32) = (itrG (f_X7_late_7 x) ((-4), 0) i1).2 from by rw [if_pos c2]]; exact lv_sub hl [0, 1, 2, 3, 4] rfl)
        · refine lv_iload C.hx C.hb dX7_late_41 (lv_at hl 0 rfl) ?_
          refine lv_istore_n (lv' := [(2, .int (s_X7_lateBy x i1)), (4, .int (s_X7_lateBy x i1)), (3, .int (nI i1)), (1, .int ((itrG (f_X7_late_7 x) ((-4), 0) i1).1)), (0, .ref (ad 0 0))]) C.hx C.hb dX7_late_43 rfl hl (by decide) rfl (fun ls hl => ?_)
          refine lv_iload_n C.hx C.hb dX7_late_44 rfl (lv_at hl 2 rfl) ?_
          refine lv_istore_n (lv' := [(1, .int (nI i1)), (2, .int (s_X7_lateBy x i1)), (4, .int (s_X7_lateBy x i1)), (3, .int (nI i1)), (0, .ref (ad 0 0))]) C.hx C.hb dX7_late_45 rfl hl (by decide) rfl (fun ls hl => ?_)
          exact J3 _ (by rw [show (if (s_X7_lateBy x i1) ≤ ((itrG (f_X7_late_7 x) ((-4), 0) i1).2) then (itrG (f_X7_late_7 x) ((-4), 0) i1).1 else nI i1 : Int32) = nI i1 from by rw [if_neg c2]]; rw [show (if (s_X7_lateBy x i1) ≤ ((itrG (f_X7_late_7 x) ((-4), 0) i1).2) then (itrG (f_X7_late_7 x) ((-4), 0) i1).2 else s_X7_lateBy x i1 : Int32) = s_X7_lateBy x i1 from by rw [if_neg c2]]; exact lv_sub hl [2, 3, 1, 0, 4] rfl)
      · refine lv_iinc (v := (nI i1) + 1) (lv' := [(3, .int ((nI i1) + 1)), (4, .int (s_X7_lateBy x i1)), (2, .int ((if (s_X7_lateBy x i1) ≤ ((itrG (f_X7_late_7 x) ((-4), 0) i1).2) then (itrG (f_X7_late_7 x) ((-4), 0) i1).2 else s_X7_lateBy x i1 : Int32))), (1, .int ((if (s_X7_lateBy x i1) ≤ ((itrG (f_X7_late_7 x) ((-4), 0) i1).2) then (itrG (f_X7_late_7 x) ((-4), 0) i1).1 else nI i1 : Int32))), (0, .ref (ad 0 0))]) C.hx C.hb dX7_late_46 hl (k := 1) rfl rfl (by decide) rfl (fun ls hl => ?_)
        refine lv_goto (tgt := 7) C.hx C.hb dX7_late_49 (by decide) ?_
        rw [nI_1 i1] at hl
        have q8 : ∀ a : Int32 × Int32, (f_X7_late_7 x) i1 a = ((if (s_X7_lateBy x i1) ≤ (a.2) then a.1 else nI i1 : Int32), (if (s_X7_lateBy x i1) ≤ (a.2) then a.2 else s_X7_lateBy x i1 : Int32)) := fun a => rfl
        have q9 : itrG (f_X7_late_7 x) ((-4), 0) (i1 + 1) = ((if (s_X7_lateBy x i1) ≤ ((itrG (f_X7_late_7 x) ((-4), 0) i1).2) then (itrG (f_X7_late_7 x) ((-4), 0) i1).1 else nI i1 : Int32), (if (s_X7_lateBy x i1) ≤ ((itrG (f_X7_late_7 x) ((-4), 0) i1).2) then (itrG (f_X7_late_7 x) ((-4), 0) i1).2 else s_X7_lateBy x i1 : Int32)) := by show (f_X7_late_7 x) i1 (itrG (f_X7_late_7 x) ((-4), 0) i1) = _; first | (rw [q8]; done) | (rw [q8]; simp only [if_neg c1])
        exact K1 _ (by rw [q9]; exact lv_sub hl [0, 2, 3, 4] rfl)
  · refine lv_iload_n C.hx C.hb dX7_late_7 rfl (lv_at hl 0 rfl) ?_
    refine lv_aload_n C.hx C.hb dX7_late_8 rfl (lv_at hl 3 rfl) ?_
    refine g_get (k := 3) (v := .ref (ad 7 1)) C (hW.1 0 0 rfl).1 rfl wu_X7 (by decide) wf_X7_28 rfl rfl dX7_late_9 ?_
    refine kVR (As := []) (rest := [.int (nI (y 20 1))]) (v := .int (nI (y 20 1))) C (cJ_size l G (ad 7 1) _ (y 20 1) _) lk_X7_83 (g_recv C (hW.1 7 1 (show 1 < 3 by decide)).1 rfl) (hW.1 7 1 (show 1 < 3 by decide)).1 rfl rfl hl (Nat.le_of_ble_eq_true rfl) dX7_late_12 ⟨⟨by decide, by decide⟩, by decide, by decide⟩ ?_
    refine lv_icmp_ge (tgt := 52) C.hx C.hb dX7_late_15 (by decide) (fun c4 => ?_) (fun c4 => ?_)
    · refine lv_iload_n C.hx C.hb dX7_late_52 rfl (lv_at hl 2 rfl) ?_
      exact rI C hr dX7_late_53 (by unfold s_X7_late; with_reducible rfl)
    · exact absurd (le_eqn rfl) c4
def f_X7_nextFor_7 (x : Nat → Nat → Int32) (z : Nat → Int64) (j : Nat) (y : YY) : Nat → Nat × Int32 → Nat × Int32 := fun i1 a => (if ((x 4 (y 3 i1)) * (x 13 (y 2 i1))) ≤ (a.2) then (a.1, a.2) else (if (s_X7_mayHave x y z j i1) = 0 then (a.1, a.2) else (i1 + 1, (x 4 (y 3 i1)) * (x 13 (y 2 i1)))))
def i_X7_nextFor (x : XX) (y : YY) (z : Nat → Int64) (j : Nat) : Nat := (if (itrG (f_X7_nextFor_7 x z j y) (0, 0) (y 20 1)).1 = 0 then 0 else ((itrG (f_X7_nextFor_7 x z j y) (0, 0) (y 20 1)).1 - 1) + 1)
set_option maxRecDepth 100000 in
set_option maxHeartbeats 1000000 in
theorem cC_X7_nextFor (l : Launch) (G : GG) (A : Nat → Prop) (ad : YY) (x : XX) (y : YY) (z : Nat → Int64) (hI : CI y) (j : Nat) (hj : j < 20) : MR l G yX7_nextFor cX7_nextFor 7 (some (.object "ModeratorsBench$Case")) 4 [.ref (ad 0 0), .ref (ad 2 j)] (CWd G A ad x y z) (some (opt (ad 4) (i_X7_nextFor x y z j))) := by
  refine MR.of RX7 rfl (by decide) (Nat.le_of_ble_eq_true rfl) ?_
  intro p_ e_ s_ m_ args_ below_ meth_ c_ ls hargs C hr hnm hW hl
  obtain ⟨-, -, -, bP, bC, bG, bL⟩ := id hI
  have hl : lv_has ls 7 [(0, .ref (ad 0 0)), (1, .ref (ad 2 j))] := hl
  refine lv_null C.hx C.hb dX7_nextFor_0 ?_
  refine lv_astore_nN (lv' := [(2, .null), (0, .ref (ad 0 0)), (1, .ref (ad 2 j))]) C.hx C.hb dX7_nextFor_1 rfl hl (by decide) rfl (fun ls hl => ?_)
  refine lv_iconst (v := 0) C.hx C.hb dX7_nextFor_2 (by decide) ?_
  refine lv_istore_n (lv' := [(3, .int 0), (2, .null), (0, .ref (ad 0 0)), (1, .ref (ad 2 j))]) C.hx C.hb dX7_nextFor_3 rfl hl (by decide) rfl (fun ls hl => ?_)
  refine lv_iconst (v := 0) C.hx C.hb dX7_nextFor_4 (by decide) ?_
  refine lv_istore (lv' := [(4, .int 0), (3, .int 0), (2, .null), (0, .ref (ad 0 0)), (1, .ref (ad 2 j))]) C.hx C.hb dX7_nextFor_5 hl (by decide) rfl (fun ls hl => ?_)
  refine W.loopR (N := (y 20 1)) (Inv := fun i ls => lv_has ls 7 [(4, .int (nI i)), (3, .int ((itrG (f_X7_nextFor_7 x z j y) (0, 0) i).2)), (2, opt (ad 4) (itrG (f_X7_nextFor_7 x z j y) (0, 0) i).1), (0, .ref (ad 0 0)), (1, .ref (ad 2 j))]) 7 [] (fun i1 ls hi1 hl K1 => ?_) (fun ls hl => ?_) 0 ls (Nat.zero_le _) (lv_sub hl [0, 1, 2, 3, 4] rfl)
  · refine lv_iload C.hx C.hb dX7_nextFor_7 (lv_at hl 0 rfl) ?_
    refine lv_aload_n C.hx C.hb dX7_nextFor_9 rfl (lv_at hl 3 rfl) ?_
    refine g_get (k := 3) (v := .ref (ad 7 1)) C (hW.1 0 0 rfl).1 rfl wu_X7 (by decide) wf_X7_28 rfl rfl dX7_nextFor_10 ?_
    refine kVR (As := []) (rest := [.int (nI i1)]) (v := .int (nI (y 20 1))) C (cJ_size l G (ad 7 1) _ (y 20 1) _) lk_X7_83 (g_recv C (hW.1 7 1 (show 1 < 3 by decide)).1 rfl) (hW.1 7 1 (show 1 < 3 by decide)).1 rfl rfl hl (Nat.le_of_ble_eq_true rfl) dX7_nextFor_13 ⟨⟨by decide, by decide⟩, by decide, by decide⟩ ?_
    refine lv_icmp_ge (tgt := 79) C.hx C.hb dX7_nextFor_16 (by decide) (fun c1 => ?_) (fun c1 => ?_)
    · exact absurd c1 (lt_nle rfl hi1 (by omega))
    · refine lv_aload_n C.hx C.hb dX7_nextFor_19 rfl (lv_at hl 3 rfl) ?_
      refine g_get (k := 3) (v := .ref (ad 7 1)) C (hW.1 0 0 rfl).1 rfl wu_X7 (by decide) wf_X7_28 rfl rfl dX7_nextFor_20 ?_
      refine lv_iload C.hx C.hb dX7_nextFor_23 (lv_at hl 0 rfl) ?_
      refine kVR (As := [.int (nI i1)]) (rest := []) (v := .ref (ad 4 i1)) C (cC_get l G ad x y hI 1 i1 (by decide) (by omega)) lk_X7_169 (g_recv C (hW.1 7 1 (show 1 < 3 by decide)).1 rfl) (CWd.ls hW hI 1 (by decide) (by omega)) rfl rfl hl (Nat.le_of_ble_eq_true rfl) dX7_nextFor_25 ⟨⟨by decide, by decide⟩, by decide, by decide⟩ ?_
      refine va_castS C.hx C.hb C.hown (C.hT _ wl_X7_105) (C.hK.1.1 1 _ rfl).2 (g_recv C (hW.1 4 i1 (show i1 < y 20 1 by omega)).1 rfl) dX7_nextFor_28 ?_
      refine lv_astore (lv' := [(5, .ref (ad 4 i1)), (4, .int (nI i1)), (3, .int ((itrG (f_X7_nextFor_7 x z j y) (0, 0) i1).2)), (2, opt (ad 4) (itrG (f_X7_nextFor_7 x z j y) (0, 0) i1).1), (0, .ref (ad 0 0)), (1, .ref (ad 2 j))]) C.hx C.hb dX7_nextFor_31 hl (by decide) rfl (fun ls hl => ?_)
      refine lv_aload C.hx C.hb dX7_nextFor_33 (lv_at hl 0 rfl) ?_
      refine g_getN (k := 2) (v := .ref (ad 1 (y 3 i1))) C (hW.1 4 i1 (show i1 < y 20 1 by omega)).1 rfl wu_X0 (by decide) wn_X7_222 rfl rfl dX7_nextFor_35 ?_
      have g2 := (hI.1 i1 (by omega)).2.1
      refine g_getN (k := 2) (v := .int (x 4 (y 3 i1))) C (hW.1 1 (y 3 i1) (show (y 3 i1) < 8 by omega)).1 rfl wu_X6 (by decide) wn_X7_71 rfl rfl dX7_nextFor_38 ?_
      refine lv_aload C.hx C.hb dX7_nextFor_41 (lv_at hl 0 rfl) ?_
      refine g_getN (k := 1) (v := .ref (ad 3 (y 2 i1))) C (hW.1 4 i1 (show i1 < y 20 1 by omega)).1 rfl wu_X0 (by decide) wn_X7_217 rfl rfl dX7_nextFor_43 ?_
      have g3 := (hI.1 i1 (by omega)).1
      refine g_getN (k := 2) (v := .int (x 13 (y 2 i1))) C (hW.1 3 (y 2 i1) (show (y 2 i1) < y 20 0 by omega)).1 rfl wu_X5 (by decide) wn_X7_332 rfl rfl dX7_nextFor_46 ?_
      refine lv_imul C.hx C.hb dX7_nextFor_49 ?_
      refine lv_istore (lv' := [(6, .int ((x 4 (y 3 i1)) * (x 13 (y 2 i1)))), (5, .ref (ad 4 i1)), (4, .int (nI i1)), (3, .int ((itrG (f_X7_nextFor_7 x z j y) (0, 0) i1).2)), (2, opt (ad 4) (itrG (f_X7_nextFor_7 x z j y) (0, 0) i1).1), (0, .ref (ad 0 0)), (1, .ref (ad 2 j))]) C.hx C.hb dX7_nextFor_50 hl (by decide) rfl (fun ls hl => ?_)
      refine lv_iload C.hx C.hb dX7_nextFor_52 (lv_at hl 0 rfl) ?_
      refine lv_iload_n C.hx C.hb dX7_nextFor_54 rfl (lv_at hl 3 rfl) ?_
      refine lv_icmp_le (tgt := 73) C.hx C.hb dX7_nextFor_55 (by decide) (fun c4 => ?_) (fun c4 => ?_)
      · refine lv_iinc (v := (nI i1) + 1) (lv' := [(4, .int ((nI i1) + 1)), (6, .int ((x 4 (y 3 i1)) * (x 13 (y 2 i1)))), (5, .ref (ad 4 i1)), (3, .int ((itrG (f_X7_nextFor_7 x z j y) (0, 0) i1).2)), (2, opt (ad 4) (itrG (f_X7_nextFor_7 x z j y) (0, 0) i1).1), (0, .ref (ad 0 0)), (1, .ref (ad 2 j))]) C.hx C.hb dX7_nextFor_73 hl (k := 2) rfl rfl (by decide) rfl (fun ls hl => ?_)
        refine lv_goto (tgt := 7) C.hx C.hb dX7_nextFor_76 (by decide) ?_
        rw [nI_1 i1] at hl
        have q8 : ∀ a : Nat × Int32, (f_X7_nextFor_7 x z j y) i1 a = (if ((x 4 (y 3 i1)) * (x 13 (y 2 i1))) ≤ (a.2) then (a.1, a.2) else (if (s_X7_mayHave x y z j i1) = 0 then (a.1, a.2) else (i1 + 1, (x 4 (y 3 i1)) * (x 13 (y 2 i1))))) := fun a => rfl
        have q9 : itrG (f_X7_nextFor_7 x z j y) (0, 0) (i1 + 1) = ((itrG (f_X7_nextFor_7 x z j y) (0, 0) i1).1, (itrG (f_X7_nextFor_7 x z j y) (0, 0) i1).2) := by show (f_X7_nextFor_7 x z j y) i1 (itrG (f_X7_nextFor_7 x z j y) (0, 0) i1) = _; first | (rw [q8]; done) | (rw [q8]; simp only [if_neg c1, if_pos c4])
        exact K1 _ (by rw [q9]; exact lv_sub hl [0, 3, 4, 5, 6] rfl)
      · refine lv_aload_n C.hx C.hb dX7_nextFor_58 rfl (lv_at hl 6 rfl) ?_
        refine lv_aload C.hx C.hb dX7_nextFor_59 (lv_at hl 1 rfl) ?_
        refine kSR (As := [.ref (ad 2 j), .ref (ad 4 i1)]) (rest := []) (v := .int (s_X7_mayHave x y z j i1)) C (cC_X7_mayHave l G A ad x y z hI j i1 (by omega) (by omega)) lk_X7_206 hW rfl rfl hl (Nat.le_of_ble_eq_true rfl) dX7_nextFor_61 ⟨⟨by decide, by decide⟩, by decide, by decide⟩ ?_
        refine lv_if_eq (tgt := 73) C.hx C.hb dX7_nextFor_64 (by decide) (fun c5 => ?_) (fun c5 => ?_)
        · refine lv_iinc (v := (nI i1) + 1) (lv' := [(4, .int ((nI i1) + 1)), (6, .int ((x 4 (y 3 i1)) * (x 13 (y 2 i1)))), (5, .ref (ad 4 i1)), (3, .int ((itrG (f_X7_nextFor_7 x z j y) (0, 0) i1).2)), (2, opt (ad 4) (itrG (f_X7_nextFor_7 x z j y) (0, 0) i1).1), (0, .ref (ad 0 0)), (1, .ref (ad 2 j))]) C.hx C.hb dX7_nextFor_73 hl (k := 2) rfl rfl (by decide) rfl (fun ls hl => ?_)
          refine lv_goto (tgt := 7) C.hx C.hb dX7_nextFor_76 (by decide) ?_
          rw [nI_1 i1] at hl
          have q8 : ∀ a : Nat × Int32, (f_X7_nextFor_7 x z j y) i1 a = (if ((x 4 (y 3 i1)) * (x 13 (y 2 i1))) ≤ (a.2) then (a.1, a.2) else (if (s_X7_mayHave x y z j i1) = 0 then (a.1, a.2) else (i1 + 1, (x 4 (y 3 i1)) * (x 13 (y 2 i1))))) := fun a => rfl
          have q9 : itrG (f_X7_nextFor_7 x z j y) (0, 0) (i1 + 1) = ((itrG (f_X7_nextFor_7 x z j y) (0, 0) i1).1, (itrG (f_X7_nextFor_7 x z j y) (0, 0) i1).2) := by show (f_X7_nextFor_7 x z j y) i1 (itrG (f_X7_nextFor_7 x z j y) (0, 0) i1) = _; first | (rw [q8]; done) | (rw [q8]; simp only [if_neg c1, if_neg c4, if_pos c5])
          exact K1 _ (by rw [q9]; exact lv_sub hl [0, 3, 4, 5, 6] rfl)
        · refine lv_aload C.hx C.hb dX7_nextFor_67 (lv_at hl 1 rfl) ?_
          refine lv_astore_n (lv' := [(2, .ref (ad 4 i1)), (6, .int ((x 4 (y 3 i1)) * (x 13 (y 2 i1)))), (5, .ref (ad 4 i1)), (4, .int (nI i1)), (3, .int ((itrG (f_X7_nextFor_7 x z j y) (0, 0) i1).2)), (0, .ref (ad 0 0)), (1, .ref (ad 2 j))]) C.hx C.hb dX7_nextFor_69 rfl hl (by decide) rfl (fun ls hl => ?_)
          refine lv_iload C.hx C.hb dX7_nextFor_70 (lv_at hl 1 rfl) ?_
          refine lv_istore_n (lv' := [(3, .int ((x 4 (y 3 i1)) * (x 13 (y 2 i1)))), (2, .ref (ad 4 i1)), (6, .int ((x 4 (y 3 i1)) * (x 13 (y 2 i1)))), (5, .ref (ad 4 i1)), (4, .int (nI i1)), (0, .ref (ad 0 0)), (1, .ref (ad 2 j))]) C.hx C.hb dX7_nextFor_72 rfl hl (by decide) rfl (fun ls hl => ?_)
          refine lv_iinc (v := (nI i1) + 1) (lv' := [(4, .int ((nI i1) + 1)), (3, .int ((x 4 (y 3 i1)) * (x 13 (y 2 i1)))), (2, .ref (ad 4 i1)), (6, .int ((x 4 (y 3 i1)) * (x 13 (y 2 i1)))), (5, .ref (ad 4 i1)), (0, .ref (ad 0 0)), (1, .ref (ad 2 j))]) C.hx C.hb dX7_nextFor_73 hl (k := 4) rfl rfl (by decide) rfl (fun ls hl => ?_)
          refine lv_goto (tgt := 7) C.hx C.hb dX7_nextFor_76 (by decide) ?_
          rw [nI_1 i1] at hl
          have q8 : ∀ a : Nat × Int32, (f_X7_nextFor_7 x z j y) i1 a = (if ((x 4 (y 3 i1)) * (x 13 (y 2 i1))) ≤ (a.2) then (a.1, a.2) else (if (s_X7_mayHave x y z j i1) = 0 then (a.1, a.2) else (i1 + 1, (x 4 (y 3 i1)) * (x 13 (y 2 i1))))) := fun a => rfl
          have q9 : itrG (f_X7_nextFor_7 x z j y) (0, 0) (i1 + 1) = (i1 + 1, (x 4 (y 3 i1)) * (x 13 (y 2 i1))) := by show (f_X7_nextFor_7 x z j y) i1 (itrG (f_X7_nextFor_7 x z j y) (0, 0) i1) = _; first | (rw [q8]; done) | (rw [q8]; simp only [if_neg c1, if_neg c4, if_neg c5])
          exact K1 _ (by rw [q9]; exact lv_sub hl [0, 1, 2, 5, 6] rfl)
  · refine lv_iload C.hx C.hb dX7_nextFor_7 (lv_at hl 0 rfl) ?_
    refine lv_aload_n C.hx C.hb dX7_nextFor_9 rfl (lv_at hl 3 rfl) ?_
    refine g_get (k := 3) (v := .ref (ad 7 1)) C (hW.1 0 0 rfl).1 rfl wu_X7 (by decide) wf_X7_28 rfl rfl dX7_nextFor_10 ?_
    refine kVR (As := []) (rest := [.int (nI (y 20 1))]) (v := .int (nI (y 20 1))) C (cJ_size l G (ad 7 1) _ (y 20 1) _) lk_X7_83 (g_recv C (hW.1 7 1 (show 1 < 3 by decide)).1 rfl) (hW.1 7 1 (show 1 < 3 by decide)).1 rfl rfl hl (Nat.le_of_ble_eq_true rfl) dX7_nextFor_13 ⟨⟨by decide, by decide⟩, by decide, by decide⟩ ?_
    refine lv_icmp_ge (tgt := 79) C.hx C.hb dX7_nextFor_16 (by decide) (fun c6 => ?_) (fun c6 => ?_)
    · by_cases c7 : (itrG (f_X7_nextFor_7 x z j y) (0, 0) (y 20 1)).1 = 0
      · rw [opt_null c7] at hl
        refine lv_aload_nN C.hx C.hb dX7_nextFor_79 rfl (lv_at hl 2 rfl) ?_
        exact rA C hr (Or.inl ⟨_, rfl⟩) (Or.inl rfl) dX7_nextFor_80 (by unfold i_X7_nextFor; rw [if_pos c7]; rfl)
      · rw [opt_some c7] at hl
        refine lv_aload_n C.hx C.hb dX7_nextFor_79 rfl (lv_at hl 2 rfl) ?_
        exact rA C hr (Or.inl ⟨_, rfl⟩) (Or.inr ⟨_, rfl⟩) dX7_nextFor_80 (by unfold i_X7_nextFor; rw [if_neg c7]; rfl)
    · exact absurd (le_eqn rfl) c6
theorem nextFor_le (x : XX) (y : YY) (z : Nat → Int64) (j : Nat) : i_X7_nextFor x y z j ≤ y 20 1 := by
  have h : ∀ k, (itrG (f_X7_nextFor_7 x z j y) (0, 0) k).1 ≤ k := by
    intro k
    induction k with
    | zero => exact Nat.le_refl 0
    | succ k ih =>
      have key : ∀ w : Nat × Int32, w.1 ≤ k → (f_X7_nextFor_7 x z j y k w).1 ≤ k + 1 := by
        intro w hw
        unfold f_X7_nextFor_7
        repeat' split
        all_goals first | exact Nat.le_refl _ | (show w.1 ≤ k + 1; omega)
      exact key _ ih
  have h2 := h (y 20 1)
  unfold i_X7_nextFor
  split
  · omega
  · omega
def s_X7_like (x : XX) (y : YY) (c : Int32) (d : Int32) : Int32 := (if s_X7_within c 0 ((nI (y 20 1)) - 1) = 0 then (-1) else (if (s_X7_within d 0 8) = 0 then (-1) else (s_X7_alike x y (tn c) d 0) + (s_X7_alike x y (tn c) d 1)))
set_option maxRecDepth 100000 in
set_option maxHeartbeats 1000000 in
theorem cC_X7_like (l : Launch) (G : GG) (A : Nat → Prop) (ad : YY) (x : XX) (y : YY) (z : Nat → Int64) (hI : CI y) (c : Int32) (d : Int32)  : MR l G yX7_like cX7_like 4 (some .int) 5 [.ref (ad 0 0), .int c, .int d] (CWd G A ad x y z) (some (.int (s_X7_like x y c d))) := by
  refine MR.of RX7 rfl (by decide) (Nat.le_of_ble_eq_true rfl) ?_
  intro p_ e_ s_ m_ args_ below_ meth_ c_ ls hargs C hr hnm hW hl
  obtain ⟨-, -, -, bP, bC, bG, bL⟩ := id hI
  have hl : lv_has ls 4 [(0, .ref (ad 0 0)), (1, .int c), (2, .int d)] := hl
  refine lv_aload_n C.hx C.hb dX7_like_0 rfl (lv_at hl 0 rfl) ?_
  refine lv_iload_n C.hx C.hb dX7_like_1 rfl (lv_at hl 1 rfl) ?_
  by_cases c1 : s_X7_within c 0 ((nI (y 20 1)) - 1) = 0
  · refine kVR (As := [.int c]) (rest := []) (v := .null) C (cC_X7_caseAt_no l G A ad x y z hI c c1) lk_X7_180 (g_recv C (hW.1 0 0 rfl).1 rfl) hW rfl rfl hl (Nat.le_of_ble_eq_true rfl) dX7_like_2 ⟨⟨by decide, by decide⟩, by decide, by decide⟩ ?_
    refine lv_astore_nN (lv' := [(3, .null), (0, .ref (ad 0 0)), (1, .int c), (2, .int d)]) C.hx C.hb dX7_like_5 rfl hl (by decide) rfl (fun ls hl => ?_)
    refine lv_aload_nN C.hx C.hb dX7_like_6 rfl (lv_at hl 0 rfl) ?_
    refine lv_ifnullN (tgt := 20) C.hx C.hb dX7_like_7 (by decide) ?_
    refine lv_iconst (v := (-1)) C.hx C.hb dX7_like_20 (by decide) ?_
    exact rI C hr dX7_like_21 (by unfold s_X7_like; first | (rw [if_pos c1]; done) | simp only [if_pos c1] | (simp only [if_pos c1]; rfl))
  · obtain ⟨cN, hcN, rfl⟩ := withinN (n := y 20 1) c1 (by omega)
    have tcN : tn (nI cN) = cN := nI_clamp (by omega)
    refine kVR (As := [.int (nI cN)]) (rest := []) (v := .ref (ad 4 cN)) C (cC_X7_caseAt_yes l G A ad x y z hI cN (by omega)) lk_X7_180 (g_recv C (hW.1 0 0 rfl).1 rfl) hW rfl rfl hl (Nat.le_of_ble_eq_true rfl) dX7_like_2 ⟨⟨by decide, by decide⟩, by decide, by decide⟩ ?_
    refine lv_astore_n (lv' := [(3, .ref (ad 4 cN)), (0, .ref (ad 0 0)), (1, .int (nI cN)), (2, .int d)]) C.hx C.hb dX7_like_5 rfl hl (by decide) rfl (fun ls hl => ?_)
    refine lv_aload_n C.hx C.hb dX7_like_6 rfl (lv_at hl 0 rfl) ?_
    refine lv_ifnull C.hx C.hb dX7_like_7 ?_
    refine lv_iload_n C.hx C.hb dX7_like_10 rfl (lv_at hl 3 rfl) ?_
    refine lv_iconst (v := 0) C.hx C.hb dX7_like_11 (by decide) ?_
    refine lv_bipush (v := 8) C.hx C.hb dX7_like_12 (by decide) ?_
    refine kSR (As := [.int d, .int 0, .int 8]) (rest := []) (v := .int (s_X7_within d 0 8)) C (cJ_X7_within l G d 0 8) lk_X7_59 trivial rfl rfl hl (Nat.le_of_ble_eq_true rfl) dX7_like_14 ⟨⟨by decide, by decide⟩, by decide, by decide⟩ ?_
    refine lv_if_ne (tgt := 22) C.hx C.hb dX7_like_17 (by decide) (fun c2 => ?_) (fun c2 => ?_)
    · refine lv_aload_n C.hx C.hb dX7_like_22 rfl (lv_at hl 1 rfl) ?_
      refine lv_aload_n C.hx C.hb dX7_like_23 rfl (lv_at hl 0 rfl) ?_
      refine lv_iload_n C.hx C.hb dX7_like_24 rfl (lv_at hl 3 rfl) ?_
      refine lv_iconst (v := 0) C.hx C.hb dX7_like_25 (by decide) ?_
      refine kVR (As := [.ref (ad 4 cN), .int d, .int 0]) (rest := []) (v := .int (s_X7_alike x y cN d 0)) C (cC_X7_alike l G A ad x y z hI cN d 0 (by omega)) lk_X7_264 (g_recv C (hW.1 0 0 rfl).1 rfl) hW rfl rfl hl (Nat.le_of_ble_eq_true rfl) dX7_like_26 ⟨⟨by decide, by decide⟩, by decide, by decide⟩ ?_
      refine lv_aload_n C.hx C.hb dX7_like_29 rfl (lv_at hl 1 rfl) ?_
      refine lv_aload_n C.hx C.hb dX7_like_30 rfl (lv_at hl 0 rfl) ?_
      refine lv_iload_n C.hx C.hb dX7_like_31 rfl (lv_at hl 3 rfl) ?_
      refine lv_iconst (v := 1) C.hx C.hb dX7_like_32 (by decide) ?_
      refine kVR (As := [.ref (ad 4 cN), .int d, .int 1]) (rest := [.int (s_X7_alike x y cN d 0)]) (v := .int (s_X7_alike x y cN d 1)) C (cC_X7_alike l G A ad x y z hI cN d 1 (by omega)) lk_X7_264 (g_recv C (hW.1 0 0 rfl).1 rfl) hW rfl rfl hl (Nat.le_of_ble_eq_true rfl) dX7_like_33 ⟨⟨by decide, by decide⟩, by decide, by decide⟩ ?_
      refine lv_iadd C.hx C.hb dX7_like_36 ?_
      exact rI C hr dX7_like_37 (by unfold s_X7_like; (try simp only [tcN]); first | (rw [if_neg c1, if_neg c2]; done) | simp only [if_neg c1, if_neg c2] | (simp only [if_neg c1, if_neg c2]; rfl))
    · refine lv_iconst (v := (-1)) C.hx C.hb dX7_like_20 (by decide) ?_
      exact rI C hr dX7_like_21 (by unfold s_X7_like; (try simp only [tcN]); first | (rw [if_neg c1, if_pos c2]; done) | simp only [if_neg c1, if_pos c2] | (simp only [if_neg c1, if_pos c2]; rfl))
def s_X7_unlike (x : XX) (y : YY) (c : Int32) (d : Int32) : Int32 := (if s_X7_within c 0 ((nI (y 20 1)) - 1) = 0 then (-1) else (if (s_X7_within d 0 8) = 0 then (-1) else (if (s_X7_alike x y (tn c) d 0) = (s_X7_alike x y (tn c) d 1) then 0 else (if (s_X7_alike x y (tn c) d 1) < (s_X7_alike x y (tn c) d 0) then s_X7_alike x y (tn c) d 1 else s_X7_alike x y (tn c) d 0 : Int32) : Int32)))
set_option maxRecDepth 100000 in
set_option maxHeartbeats 1000000 in
theorem cC_X7_unlike (l : Launch) (G : GG) (A : Nat → Prop) (ad : YY) (x : XX) (y : YY) (z : Nat → Int64) (hI : CI y) (c : Int32) (d : Int32)  : MR l G yX7_unlike cX7_unlike 6 (some .int) 5 [.ref (ad 0 0), .int c, .int d] (CWd G A ad x y z) (some (.int (s_X7_unlike x y c d))) := by
  refine MR.of RX7 rfl (by decide) (Nat.le_of_ble_eq_true rfl) ?_
  intro p_ e_ s_ m_ args_ below_ meth_ c_ ls hargs C hr hnm hW hl
  obtain ⟨-, -, -, bP, bC, bG, bL⟩ := id hI
  have hl : lv_has ls 6 [(0, .ref (ad 0 0)), (1, .int c), (2, .int d)] := hl
  refine lv_aload_n C.hx C.hb dX7_unlike_0 rfl (lv_at hl 0 rfl) ?_
  refine lv_iload_n C.hx C.hb dX7_unlike_1 rfl (lv_at hl 1 rfl) ?_
  by_cases c1 : s_X7_within c 0 ((nI (y 20 1)) - 1) = 0
  · refine kVR (As := [.int c]) (rest := []) (v := .null) C (cC_X7_caseAt_no l G A ad x y z hI c c1) lk_X7_180 (g_recv C (hW.1 0 0 rfl).1 rfl) hW rfl rfl hl (Nat.le_of_ble_eq_true rfl) dX7_unlike_2 ⟨⟨by decide, by decide⟩, by decide, by decide⟩ ?_
    refine lv_astore_nN (lv' := [(3, .null), (0, .ref (ad 0 0)), (1, .int c), (2, .int d)]) C.hx C.hb dX7_unlike_5 rfl hl (by decide) rfl (fun ls hl => ?_)
    refine lv_aload_nN C.hx C.hb dX7_unlike_6 rfl (lv_at hl 0 rfl) ?_
    refine lv_ifnullN (tgt := 20) C.hx C.hb dX7_unlike_7 (by decide) ?_
    refine lv_iconst (v := (-1)) C.hx C.hb dX7_unlike_20 (by decide) ?_
    exact rI C hr dX7_unlike_21 (by unfold s_X7_unlike; first | (rw [if_pos c1]; done) | simp only [if_pos c1] | (simp only [if_pos c1]; rfl))
  · obtain ⟨cN, hcN, rfl⟩ := withinN (n := y 20 1) c1 (by omega)
    have tcN : tn (nI cN) = cN := nI_clamp (by omega)
    refine kVR (As := [.int (nI cN)]) (rest := []) (v := .ref (ad 4 cN)) C (cC_X7_caseAt_yes l G A ad x y z hI cN (by omega)) lk_X7_180 (g_recv C (hW.1 0 0 rfl).1 rfl) hW rfl rfl hl (Nat.le_of_ble_eq_true rfl) dX7_unlike_2 ⟨⟨by decide, by decide⟩, by decide, by decide⟩ ?_
    refine lv_astore_n (lv' := [(3, .ref (ad 4 cN)), (0, .ref (ad 0 0)), (1, .int (nI cN)), (2, .int d)]) C.hx C.hb dX7_unlike_5 rfl hl (by decide) rfl (fun ls hl => ?_)
    refine lv_aload_n C.hx C.hb dX7_unlike_6 rfl (lv_at hl 0 rfl) ?_
    refine lv_ifnull C.hx C.hb dX7_unlike_7 ?_
    refine lv_iload_n C.hx C.hb dX7_unlike_10 rfl (lv_at hl 3 rfl) ?_
    refine lv_iconst (v := 0) C.hx C.hb dX7_unlike_11 (by decide) ?_
    refine lv_bipush (v := 8) C.hx C.hb dX7_unlike_12 (by decide) ?_
    refine kSR (As := [.int d, .int 0, .int 8]) (rest := []) (v := .int (s_X7_within d 0 8)) C (cJ_X7_within l G d 0 8) lk_X7_59 trivial rfl rfl hl (Nat.le_of_ble_eq_true rfl) dX7_unlike_14 ⟨⟨by decide, by decide⟩, by decide, by decide⟩ ?_
    refine lv_if_ne (tgt := 22) C.hx C.hb dX7_unlike_17 (by decide) (fun c2 => ?_) (fun c2 => ?_)
    · refine lv_aload_n C.hx C.hb dX7_unlike_22 rfl (lv_at hl 1 rfl) ?_
      refine lv_aload_n C.hx C.hb dX7_unlike_23 rfl (lv_at hl 0 rfl) ?_
      refine lv_iload_n C.hx C.hb dX7_unlike_24 rfl (lv_at hl 3 rfl) ?_
      refine lv_iconst (v := 0) C.hx C.hb dX7_unlike_25 (by decide) ?_
      refine kVR (As := [.ref (ad 4 cN), .int d, .int 0]) (rest := []) (v := .int (s_X7_alike x y cN d 0)) C (cC_X7_alike l G A ad x y z hI cN d 0 (by omega)) lk_X7_264 (g_recv C (hW.1 0 0 rfl).1 rfl) hW rfl rfl hl (Nat.le_of_ble_eq_true rfl) dX7_unlike_26 ⟨⟨by decide, by decide⟩, by decide, by decide⟩ ?_
      refine lv_istore (lv' := [(4, .int (s_X7_alike x y cN d 0)), (3, .ref (ad 4 cN)), (0, .ref (ad 0 0)), (1, .int (nI cN)), (2, .int d)]) C.hx C.hb dX7_unlike_29 hl (by decide) rfl (fun ls hl => ?_)
      refine lv_aload_n C.hx C.hb dX7_unlike_31 rfl (lv_at hl 2 rfl) ?_
      refine lv_aload_n C.hx C.hb dX7_unlike_32 rfl (lv_at hl 1 rfl) ?_
      refine lv_iload_n C.hx C.hb dX7_unlike_33 rfl (lv_at hl 4 rfl) ?_
      refine lv_iconst (v := 1) C.hx C.hb dX7_unlike_34 (by decide) ?_
      refine kVR (As := [.ref (ad 4 cN), .int d, .int 1]) (rest := []) (v := .int (s_X7_alike x y cN d 1)) C (cC_X7_alike l G A ad x y z hI cN d 1 (by omega)) lk_X7_264 (g_recv C (hW.1 0 0 rfl).1 rfl) hW rfl rfl hl (Nat.le_of_ble_eq_true rfl) dX7_unlike_35 ⟨⟨by decide, by decide⟩, by decide, by decide⟩ ?_
      refine lv_istore (lv' := [(5, .int (s_X7_alike x y cN d 1)), (4, .int (s_X7_alike x y cN d 0)), (3, .ref (ad 4 cN)), (0, .ref (ad 0 0)), (1, .int (nI cN)), (2, .int d)]) C.hx C.hb dX7_unlike_38 hl (by decide) rfl (fun ls hl => ?_)
      refine lv_iload C.hx C.hb dX7_unlike_40 (lv_at hl 1 rfl) ?_
      refine lv_iload C.hx C.hb dX7_unlike_42 (lv_at hl 0 rfl) ?_
      refine W.joinI (P := fun jv => jv = (if (s_X7_alike x y cN d 0) = (s_X7_alike x y cN d 1) then 0 else (if (s_X7_alike x y cN d 1) < (s_X7_alike x y cN d 0) then s_X7_alike x y cN d 1 else s_X7_alike x y cN d 0 : Int32) : Int32)) 58 ls [] (fun J4 => ?_) (fun v5 hv5 => ?_)
      · refine lv_icmp_ne (tgt := 51) C.hx C.hb dX7_unlike_44 (by decide) (fun c3 => ?_) (fun c3 => ?_)
        · refine lv_iload C.hx C.hb dX7_unlike_51 (lv_at hl 1 rfl) ?_
          refine lv_iload C.hx C.hb dX7_unlike_53 (lv_at hl 0 rfl) ?_
          refine g_min C hl mm_X7_268 ⟨by decide, Nat.le_of_ble_eq_true rfl, by decide, by decide⟩ dX7_unlike_55 ?_
          exact J4 _ (by rw [if_neg c3])
        · refine lv_iconst (v := 0) C.hx C.hb dX7_unlike_47 (by decide) ?_
          refine lv_goto (tgt := 58) C.hx C.hb dX7_unlike_48 (by decide) ?_
          exact J4 _ (by rw [if_pos c3])
      · exact rI C hr dX7_unlike_58 (by rw [hv5]; unfold s_X7_unlike; (try simp only [tcN]); first | (rw [if_neg c1, if_neg c2]; done) | simp only [if_neg c1, if_neg c2] | (simp only [if_neg c1, if_neg c2]; rfl))
    · refine lv_iconst (v := (-1)) C.hx C.hb dX7_unlike_20 (by decide) ?_
      exact rI C hr dX7_unlike_21 (by unfold s_X7_unlike; (try simp only [tcN]); first | (rw [if_neg c1, if_pos c2]; done) | simp only [if_neg c1, if_pos c2] | (simp only [if_neg c1, if_pos c2]; rfl))
def s_X7_told (x : XX) (y : YY) (j : Int32) (what : Int32) : Int32 := (if s_X7_within j 0 19 = 0 then (-1) else (if what = 0 then x 6 (tn j) else (if what = 1 then x 7 (tn j) else (if what = 2 then x 8 (tn j) else (if what = 3 then x 10 (tn j) else (if what = 4 then s_X7_asNumber (x 9 (tn j)) else (if what = 5 then x 11 (tn j) else (if what = 6 then s_X7_askedOf x y (tn j) else (if what = 7 then s_X7_stoodAlone x y (tn j) else (-1))))))))))
set_option maxRecDepth 100000 in
set_option maxHeartbeats 1000000 in
theorem cC_X7_told (l : Launch) (G : GG) (A : Nat → Prop) (ad : YY) (x : XX) (y : YY) (z : Nat → Int64) (hI : CI y) (j : Int32) (what : Int32)  : MR l G yX7_told cX7_told 4 (some .int) 5 [.ref (ad 0 0), .int j, .int what] (CWd G A ad x y z) (some (.int (s_X7_told x y j what))) := by
  refine MR.of RX7 rfl (by decide) (Nat.le_of_ble_eq_true rfl) ?_
  intro p_ e_ s_ m_ args_ below_ meth_ c_ ls hargs C hr hnm hW hl
  obtain ⟨-, -, -, bP, bC, bG, bL⟩ := id hI
  have hl : lv_has ls 4 [(0, .ref (ad 0 0)), (1, .int j), (2, .int what)] := hl
  refine lv_aload_n C.hx C.hb dX7_told_0 rfl (lv_at hl 0 rfl) ?_
  refine lv_iload_n C.hx C.hb dX7_told_1 rfl (lv_at hl 1 rfl) ?_
  by_cases c1 : s_X7_within j 0 19 = 0
  · refine kVR (As := [.int j]) (rest := []) (v := .null) C (cC_X7_judgeAt_no l G A ad x y z j c1) lk_X7_119 (g_recv C (hW.1 0 0 rfl).1 rfl) hW rfl rfl hl (Nat.le_of_ble_eq_true rfl) dX7_told_2 ⟨⟨by decide, by decide⟩, by decide, by decide⟩ ?_
    refine lv_astore_nN (lv' := [(3, .null), (0, .ref (ad 0 0)), (1, .int j), (2, .int what)]) C.hx C.hb dX7_told_5 rfl hl (by decide) rfl (fun ls hl => ?_)
    refine lv_aload_nN C.hx C.hb dX7_told_6 rfl (lv_at hl 0 rfl) ?_
    refine lv_ifnonnullN C.hx C.hb dX7_told_7 ?_
    refine lv_iconst (v := (-1)) C.hx C.hb dX7_told_10 (by decide) ?_
    exact rI C hr dX7_told_11 (by unfold s_X7_told; first | (rw [if_pos c1]; done) | simp only [if_pos c1] | (simp only [if_pos c1]; rfl))
  · obtain ⟨jN, hjN, rfl⟩ := withinK (n := 20) c1 (by decide)
    have tjN : tn (nI jN) = jN := nI_clamp (by omega)
    refine kVR (As := [.int (nI jN)]) (rest := []) (v := .ref (ad 2 jN)) C (cC_X7_judgeAt_yes l G A ad x y z jN (by omega)) lk_X7_119 (g_recv C (hW.1 0 0 rfl).1 rfl) hW rfl rfl hl (Nat.le_of_ble_eq_true rfl) dX7_told_2 ⟨⟨by decide, by decide⟩, by decide, by decide⟩ ?_
    refine lv_astore_n (lv' := [(3, .ref (ad 2 jN)), (0, .ref (ad 0 0)), (1, .int (nI jN)), (2, .int what)]) C.hx C.hb dX7_told_5 rfl hl (by decide) rfl (fun ls hl => ?_)
    refine lv_aload_n C.hx C.hb dX7_told_6 rfl (lv_at hl 0 rfl) ?_
    refine lv_ifnonnull (tgt := 12) C.hx C.hb dX7_told_7 (by decide) ?_
    refine lv_iload_n C.hx C.hb dX7_told_12 rfl (lv_at hl 3 rfl) ?_
    by_cases c2 : what = 0
    · refine sw_in (off := 47) (tgt := 60) C.hx C.hb dX7_told_13 c2 (by decide) (by decide) (by decide) (by decide) ?_
      refine lv_aload_n C.hx C.hb dX7_told_60 rfl (lv_at hl 0 rfl) ?_
      refine g_getN (k := 1) (v := .int (x 6 jN)) C (hW.1 2 jN (show jN < 20 by omega)).1 rfl wu_X3 (by decide) wn_X7_123 rfl rfl dX7_told_61 ?_
      exact rI C hr dX7_told_64 (by unfold s_X7_told; (try simp only [tjN]); first | (rw [if_neg c1, if_pos c2]; done) | simp only [if_neg c1, if_pos c2] | (simp only [if_neg c1, if_pos c2]; rfl))
    by_cases c3 : what = 1
    · refine sw_in (off := 52) (tgt := 65) C.hx C.hb dX7_told_13 c3 (by decide) (by decide) (by decide) (by decide) ?_
      refine lv_aload_n C.hx C.hb dX7_told_65 rfl (lv_at hl 0 rfl) ?_
      refine g_getN (k := 3) (v := .int (x 7 jN)) C (hW.1 2 jN (show jN < 20 by omega)).1 rfl wu_X3 (by decide) wn_X7_126 rfl rfl dX7_told_66 ?_
      exact rI C hr dX7_told_69 (by unfold s_X7_told; (try simp only [tjN]); first | (rw [if_neg c1, if_neg c2, if_pos c3]; done) | simp only [if_neg c1, if_neg c2, if_pos c3] | (simp only [if_neg c1, if_neg c2, if_pos c3]; rfl))
    by_cases c4 : what = 2
    · refine sw_in (off := 57) (tgt := 70) C.hx C.hb dX7_told_13 c4 (by decide) (by decide) (by decide) (by decide) ?_
      refine lv_aload_n C.hx C.hb dX7_told_70 rfl (lv_at hl 0 rfl) ?_
      refine g_getN (k := 4) (v := .int (x 8 jN)) C (hW.1 2 jN (show jN < 20 by omega)).1 rfl wu_X3 (by decide) wn_X7_129 rfl rfl dX7_told_71 ?_
      exact rI C hr dX7_told_74 (by unfold s_X7_told; (try simp only [tjN]); first | (rw [if_neg c1, if_neg c2, if_neg c3, if_pos c4]; done) | simp only [if_neg c1, if_neg c2, if_neg c3, if_pos c4] | (simp only [if_neg c1, if_neg c2, if_neg c3, if_pos c4]; rfl))
    by_cases c5 : what = 3
    · refine sw_in (off := 62) (tgt := 75) C.hx C.hb dX7_told_13 c5 (by decide) (by decide) (by decide) (by decide) ?_
      refine lv_aload_n C.hx C.hb dX7_told_75 rfl (lv_at hl 0 rfl) ?_
      refine g_getN (k := 6) (v := .int (x 10 jN)) C (hW.1 2 jN (show jN < 20 by omega)).1 rfl wu_X3 (by decide) wn_X7_161 rfl rfl dX7_told_76 ?_
      exact rI C hr dX7_told_79 (by unfold s_X7_told; (try simp only [tjN]); first | (rw [if_neg c1, if_neg c2, if_neg c3, if_neg c4, if_pos c5]; done) | simp only [if_neg c1, if_neg c2, if_neg c3, if_neg c4, if_pos c5] | (simp only [if_neg c1, if_neg c2, if_neg c3, if_neg c4, if_pos c5]; rfl))
    by_cases c6 : what = 4
    · refine sw_in (off := 67) (tgt := 80) C.hx C.hb dX7_told_13 c6 (by decide) (by decide) (by decide) (by decide) ?_
      refine lv_aload_n C.hx C.hb dX7_told_80 rfl (lv_at hl 0 rfl) ?_
      refine g_getN (k := 5) (v := .int (x 9 jN)) C (hW.1 2 jN (show jN < 20 by omega)).1 rfl wu_X3 (by decide) wn_X7_144 rfl rfl dX7_told_81 ?_
      refine kSR (As := [.int (x 9 jN)]) (rest := []) (v := .int (s_X7_asNumber (x 9 jN))) C (cJ_X7_asNumber l G (x 9 jN)) lk_X7_136 trivial rfl rfl hl (Nat.le_of_ble_eq_true rfl) dX7_told_84 ⟨⟨by decide, by decide⟩, by decide, by decide⟩ ?_
      exact rI C hr dX7_told_87 (by unfold s_X7_told; (try simp only [tjN]); first | (rw [if_neg c1, if_neg c2, if_neg c3, if_neg c4, if_neg c5, if_pos c6]; done) | simp only [if_neg c1, if_neg c2, if_neg c3, if_neg c4, if_neg c5, if_pos c6] | (simp only [if_neg c1, if_neg c2, if_neg c3, if_neg c4, if_neg c5, if_pos c6]; rfl))
    by_cases c7 : what = 5
    · refine sw_in (off := 75) (tgt := 88) C.hx C.hb dX7_told_13 c7 (by decide) (by decide) (by decide) (by decide) ?_
      refine lv_aload_n C.hx C.hb dX7_told_88 rfl (lv_at hl 0 rfl) ?_
      refine g_getN (k := 7) (v := .int (x 11 jN)) C (hW.1 2 jN (show jN < 20 by omega)).1 rfl wu_X3 (by decide) wn_X7_187 rfl rfl dX7_told_89 ?_
      exact rI C hr dX7_told_92 (by unfold s_X7_told; (try simp only [tjN]); first | (rw [if_neg c1, if_neg c2, if_neg c3, if_neg c4, if_neg c5, if_neg c6, if_pos c7]; done) | simp only [if_neg c1, if_neg c2, if_neg c3, if_neg c4, if_neg c5, if_neg c6, if_pos c7] | (simp only [if_neg c1, if_neg c2, if_neg c3, if_neg c4, if_neg c5, if_neg c6, if_pos c7]; rfl))
    by_cases c8 : what = 6
    · refine sw_in (off := 80) (tgt := 93) C.hx C.hb dX7_told_13 c8 (by decide) (by decide) (by decide) (by decide) ?_
      refine lv_aload_n C.hx C.hb dX7_told_93 rfl (lv_at hl 1 rfl) ?_
      refine lv_aload_n C.hx C.hb dX7_told_94 rfl (lv_at hl 0 rfl) ?_
      refine kVR (As := [.ref (ad 2 jN)]) (rest := []) (v := .int (s_X7_askedOf x y jN)) C (cC_X7_askedOf l G A ad x y z hI jN (by omega)) lk_X7_210 (g_recv C (hW.1 0 0 rfl).1 rfl) hW rfl rfl hl (Nat.le_of_ble_eq_true rfl) dX7_told_95 ⟨⟨by decide, by decide⟩, by decide, by decide⟩ ?_
      exact rI C hr dX7_told_98 (by unfold s_X7_told; (try simp only [tjN]); first | (rw [if_neg c1, if_neg c2, if_neg c3, if_neg c4, if_neg c5, if_neg c6, if_neg c7, if_pos c8]; done) | simp only [if_neg c1, if_neg c2, if_neg c3, if_neg c4, if_neg c5, if_neg c6, if_neg c7, if_pos c8] | (simp only [if_neg c1, if_neg c2, if_neg c3, if_neg c4, if_neg c5, if_neg c6, if_neg c7, if_pos c8]; rfl))
    by_cases c9 : what = 7
    · refine sw_in (off := 86) (tgt := 99) C.hx C.hb dX7_told_13 c9 (by decide) (by decide) (by decide) (by decide) ?_
      refine lv_aload_n C.hx C.hb dX7_told_99 rfl (lv_at hl 1 rfl) ?_
      refine lv_aload_n C.hx C.hb dX7_told_100 rfl (lv_at hl 0 rfl) ?_
      refine kVR (As := [.ref (ad 2 jN)]) (rest := []) (v := .int (s_X7_stoodAlone x y jN)) C (cC_X7_stoodAlone l G A ad x y z hI jN (by omega)) lk_X7_214 (g_recv C (hW.1 0 0 rfl).1 rfl) hW rfl rfl hl (Nat.le_of_ble_eq_true rfl) dX7_told_101 ⟨⟨by decide, by decide⟩, by decide, by decide⟩ ?_
      exact rI C hr dX7_told_104 (by unfold s_X7_told; (try simp only [tjN]); first | (rw [if_neg c1, if_neg c2, if_neg c3, if_neg c4, if_neg c5, if_neg c6, if_neg c7, if_neg c8, if_pos c9]; done) | simp only [if_neg c1, if_neg c2, if_neg c3, if_neg c4, if_neg c5, if_neg c6, if_neg c7, if_neg c8, if_pos c9] | (simp only [if_neg c1, if_neg c2, if_neg c3, if_neg c4, if_neg c5, if_neg c6, if_neg c7, if_neg c8, if_pos c9]; rfl))
    refine lv_tableOut (tgt := 105) C.hx C.hb dX7_told_13 (by have nc2 := lv_neT c2 (a := 0) (by decide); have nc3 := lv_neT c3 (a := 1) (by decide); have nc4 := lv_neT c4 (a := 2) (by decide); have nc5 := lv_neT c5 (a := 3) (by decide); have nc6 := lv_neT c6 (a := 4) (by decide); have nc7 := lv_neT c7 (a := 5) (by decide); have nc8 := lv_neT c8 (a := 6) (by decide); have nc9 := lv_neT c9 (a := 7) (by decide); omega) (by decide) ?_
    refine lv_iconst (v := (-1)) C.hx C.hb dX7_told_105 (by decide) ?_
    exact rI C hr dX7_told_106 (by unfold s_X7_told; (try simp only [tjN]); first | (rw [if_neg c1, if_neg c2, if_neg c3, if_neg c4, if_neg c5, if_neg c6, if_neg c7, if_neg c8, if_neg c9]; done) | simp only [if_neg c1, if_neg c2, if_neg c3, if_neg c4, if_neg c5, if_neg c6, if_neg c7, if_neg c8, if_neg c9] | (simp only [if_neg c1, if_neg c2, if_neg c3, if_neg c4, if_neg c5, if_neg c6, if_neg c7, if_neg c8, if_neg c9]; rfl))
def s_X7_about (x : XX) (y : YY) (c : Int32) (what : Int32) : Int32 := (if s_X7_within c 0 ((nI (y 20 1)) - 1) = 0 then (-1) else (if what = 0 then nI (y 2 (tn c)) else (if what = 1 then nI (y 3 (tn c)) else (if what = 2 then x 19 (tn c) else (if what = 3 then x 18 (tn c) else (if what = 4 then (if (s_X0_isUndecided x (tn c)) = 0 then 0 else x 22 (i_X0_hearing y (tn c)) : Int32) else (if what = 5 then s_X0_giftsOut x (tn c) else (if what = 6 then s_X7_lateBy x (tn c) else (if what = 7 then s_X0_timesJudged x y (tn c) else (-1))))))))))
set_option maxRecDepth 100000 in
set_option maxHeartbeats 1000000 in
theorem cC_X7_about (l : Launch) (G : GG) (A : Nat → Prop) (ad : YY) (x : XX) (y : YY) (z : Nat → Int64) (hI : CI y) (c : Int32) (what : Int32)  : MR l G yX7_about cX7_about 4 (some .int) 5 [.ref (ad 0 0), .int c, .int what] (CWd G A ad x y z) (some (.int (s_X7_about x y c what))) := by
  refine MR.of RX7 rfl (by decide) (Nat.le_of_ble_eq_true rfl) ?_
  intro p_ e_ s_ m_ args_ below_ meth_ c_ ls hargs C hr hnm hW hl
  obtain ⟨-, -, -, bP, bC, bG, bL⟩ := id hI
  have hl : lv_has ls 4 [(0, .ref (ad 0 0)), (1, .int c), (2, .int what)] := hl
  refine lv_aload_n C.hx C.hb dX7_about_0 rfl (lv_at hl 0 rfl) ?_
  refine lv_iload_n C.hx C.hb dX7_about_1 rfl (lv_at hl 1 rfl) ?_
  by_cases c1 : s_X7_within c 0 ((nI (y 20 1)) - 1) = 0
  · refine kVR (As := [.int c]) (rest := []) (v := .null) C (cC_X7_caseAt_no l G A ad x y z hI c c1) lk_X7_180 (g_recv C (hW.1 0 0 rfl).1 rfl) hW rfl rfl hl (Nat.le_of_ble_eq_true rfl) dX7_about_2 ⟨⟨by decide, by decide⟩, by decide, by decide⟩ ?_
    refine lv_astore_nN (lv' := [(3, .null), (0, .ref (ad 0 0)), (1, .int c), (2, .int what)]) C.hx C.hb dX7_about_5 rfl hl (by decide) rfl (fun ls hl => ?_)
    refine lv_aload_nN C.hx C.hb dX7_about_6 rfl (lv_at hl 0 rfl) ?_
    refine lv_ifnonnullN C.hx C.hb dX7_about_7 ?_
    refine lv_iconst (v := (-1)) C.hx C.hb dX7_about_10 (by decide) ?_
    exact rI C hr dX7_about_11 (by unfold s_X7_about; first | (rw [if_pos c1]; done) | simp only [if_pos c1] | (simp only [if_pos c1]; rfl))
  · obtain ⟨cN, hcN, rfl⟩ := withinN (n := y 20 1) c1 (by omega)
    have tcN : tn (nI cN) = cN := nI_clamp (by omega)
    refine kVR (As := [.int (nI cN)]) (rest := []) (v := .ref (ad 4 cN)) C (cC_X7_caseAt_yes l G A ad x y z hI cN (by omega)) lk_X7_180 (g_recv C (hW.1 0 0 rfl).1 rfl) hW rfl rfl hl (Nat.le_of_ble_eq_true rfl) dX7_about_2 ⟨⟨by decide, by decide⟩, by decide, by decide⟩ ?_
    refine lv_astore_n (lv' := [(3, .ref (ad 4 cN)), (0, .ref (ad 0 0)), (1, .int (nI cN)), (2, .int what)]) C.hx C.hb dX7_about_5 rfl hl (by decide) rfl (fun ls hl => ?_)
    refine lv_aload_n C.hx C.hb dX7_about_6 rfl (lv_at hl 0 rfl) ?_
    refine lv_ifnonnull (tgt := 12) C.hx C.hb dX7_about_7 (by decide) ?_
    refine lv_iload_n C.hx C.hb dX7_about_12 rfl (lv_at hl 3 rfl) ?_
    by_cases c2 : what = 0
    · refine sw_in (off := 47) (tgt := 60) C.hx C.hb dX7_about_13 c2 (by decide) (by decide) (by decide) (by decide) ?_
      refine lv_aload_n C.hx C.hb dX7_about_60 rfl (lv_at hl 0 rfl) ?_
      refine g_getN (k := 1) (v := .ref (ad 3 (y 2 cN))) C (hW.1 4 cN (show cN < y 20 1 by omega)).1 rfl wu_X0 (by decide) wn_X7_217 rfl rfl dX7_about_61 ?_
      have g3 := (hI.1 cN (by omega)).1
      refine g_getN (k := 0) (v := .int (nI (y 2 cN))) C (hW.1 3 (y 2 cN) (show (y 2 cN) < y 20 0 by omega)).1 rfl wu_X5 (by decide) wn_X7_221 rfl rfl dX7_about_64 ?_
      exact rI C hr dX7_about_67 (by unfold s_X7_about; (try simp only [tcN]); first | (rw [if_neg c1, if_pos c2]; done) | simp only [if_neg c1, if_pos c2] | (simp only [if_neg c1, if_pos c2]; rfl))
    by_cases c4 : what = 1
    · refine sw_in (off := 55) (tgt := 68) C.hx C.hb dX7_about_13 c4 (by decide) (by decide) (by decide) (by decide) ?_
      refine lv_aload_n C.hx C.hb dX7_about_68 rfl (lv_at hl 0 rfl) ?_
      refine g_getN (k := 2) (v := .ref (ad 1 (y 3 cN))) C (hW.1 4 cN (show cN < y 20 1 by omega)).1 rfl wu_X0 (by decide) wn_X7_222 rfl rfl dX7_about_69 ?_
      have g5 := (hI.1 cN (by omega)).2.1
      refine g_getN (k := 0) (v := .int (nI (y 3 cN))) C (hW.1 1 (y 3 cN) (show (y 3 cN) < 8 by omega)).1 rfl wu_X6 (by decide) wn_X7_226 rfl rfl dX7_about_72 ?_
      exact rI C hr dX7_about_75 (by unfold s_X7_about; (try simp only [tcN]); first | (rw [if_neg c1, if_neg c2, if_pos c4]; done) | simp only [if_neg c1, if_neg c2, if_pos c4] | (simp only [if_neg c1, if_neg c2, if_pos c4]; rfl))
    by_cases c6 : what = 2
    · refine sw_in (off := 63) (tgt := 76) C.hx C.hb dX7_about_13 c6 (by decide) (by decide) (by decide) (by decide) ?_
      refine lv_aload_n C.hx C.hb dX7_about_76 rfl (lv_at hl 0 rfl) ?_
      refine g_getN (k := 8) (v := .int (x 19 cN)) C (hW.1 4 cN (show cN < y 20 1 by omega)).1 rfl wu_X0 (by decide) wn_X7_203 rfl rfl dX7_about_77 ?_
      exact rI C hr dX7_about_80 (by unfold s_X7_about; (try simp only [tcN]); first | (rw [if_neg c1, if_neg c2, if_neg c4, if_pos c6]; done) | simp only [if_neg c1, if_neg c2, if_neg c4, if_pos c6] | (simp only [if_neg c1, if_neg c2, if_neg c4, if_pos c6]; rfl))
    by_cases c7 : what = 3
    · refine sw_in (off := 68) (tgt := 81) C.hx C.hb dX7_about_13 c7 (by decide) (by decide) (by decide) (by decide) ?_
      refine lv_aload_n C.hx C.hb dX7_about_81 rfl (lv_at hl 0 rfl) ?_
      refine g_getN (k := 7) (v := .int (x 18 cN)) C (hW.1 4 cN (show cN < y 20 1 by omega)).1 rfl wu_X0 (by decide) wn_X7_104 rfl rfl dX7_about_82 ?_
      exact rI C hr dX7_about_85 (by unfold s_X7_about; (try simp only [tcN]); first | (rw [if_neg c1, if_neg c2, if_neg c4, if_neg c6, if_pos c7]; done) | simp only [if_neg c1, if_neg c2, if_neg c4, if_neg c6, if_pos c7] | (simp only [if_neg c1, if_neg c2, if_neg c4, if_neg c6, if_pos c7]; rfl))
    by_cases c8 : what = 4
    · refine sw_in (off := 73) (tgt := 86) C.hx C.hb dX7_about_13 c8 (by decide) (by decide) (by decide) (by decide) ?_
      refine lv_aload_n C.hx C.hb dX7_about_86 rfl (lv_at hl 0 rfl) ?_
      refine kVNR (As := []) (rest := []) (v := .int (s_X0_isUndecided x cN)) C (cC_X0_isUndecided l G A ad x y z cN (by omega)) lk_X7_227 (g_recv C (hW.1 4 cN (show cN < y 20 1 by omega)).1 rfl) hW rfl rfl hl (Nat.le_of_ble_eq_true rfl) dX7_about_87 ⟨⟨by decide, by decide⟩, by decide, by decide⟩ ?_
      refine W.joinI (P := fun jv => jv = (if (s_X0_isUndecided x cN) = 0 then 0 else x 22 (i_X0_hearing y cN) : Int32)) 104 ls [] (fun J10 => ?_) (fun v11 hv11 => ?_)
      · refine lv_if_eq (tgt := 103) C.hx C.hb dX7_about_90 (by decide) (fun c9 => ?_) (fun c9 => ?_)
        · refine lv_iconst (v := 0) C.hx C.hb dX7_about_103 (by decide) ?_
          exact J10 _ (by rw [if_pos c9])
        · refine lv_aload_n C.hx C.hb dX7_about_93 rfl (lv_at hl 0 rfl) ?_
          refine kVNR (As := []) (rest := []) (v := .ref (ad 5 (i_X0_hearing y cN))) C (cC_X0_hearing l G A ad x y z cN (by omega)) lk_X7_190 (g_recv C (hW.1 4 cN (show cN < y 20 1 by omega)).1 rfl) hW rfl rfl hl (Nat.le_of_ble_eq_true rfl) dX7_about_94 ⟨⟨by decide, by decide⟩, by decide, by decide⟩ ?_
          refine g_getN (k := 0) (v := .int (x 22 (i_X0_hearing y cN))) C (hW.1 5 (i_X0_hearing y cN) (lvHe cN (by omega))).1 rfl wu_X2 (by decide) wn_X7_231 rfl rfl dX7_about_97 ?_
          refine lv_goto (tgt := 104) C.hx C.hb dX7_about_100 (by decide) ?_
          exact J10 _ (by rw [if_neg c9])
      · exact rI C hr dX7_about_104 (by rw [hv11]; unfold s_X7_about; (try simp only [tcN]); first | (rw [if_neg c1, if_neg c2, if_neg c4, if_neg c6, if_neg c7, if_pos c8]; done) | simp only [if_neg c1, if_neg c2, if_neg c4, if_neg c6, if_neg c7, if_pos c8] | (simp only [if_neg c1, if_neg c2, if_neg c4, if_neg c6, if_neg c7, if_pos c8]; rfl))
    by_cases c12 : what = 5
    · refine sw_in (off := 92) (tgt := 105) C.hx C.hb dX7_about_13 c12 (by decide) (by decide) (by decide) (by decide) ?_
      refine lv_aload_n C.hx C.hb dX7_about_105 rfl (lv_at hl 0 rfl) ?_
      refine kVNR (As := []) (rest := []) (v := .int (s_X0_giftsOut x cN)) C (cC_X0_giftsOut l G A ad x y z cN (by omega)) lk_X7_234 (g_recv C (hW.1 4 cN (show cN < y 20 1 by omega)).1 rfl) hW rfl rfl hl (Nat.le_of_ble_eq_true rfl) dX7_about_106 ⟨⟨by decide, by decide⟩, by decide, by decide⟩ ?_
      exact rI C hr dX7_about_109 (by unfold s_X7_about; (try simp only [tcN]); first | (rw [if_neg c1, if_neg c2, if_neg c4, if_neg c6, if_neg c7, if_neg c8, if_pos c12]; done) | simp only [if_neg c1, if_neg c2, if_neg c4, if_neg c6, if_neg c7, if_neg c8, if_pos c12] | (simp only [if_neg c1, if_neg c2, if_neg c4, if_neg c6, if_neg c7, if_neg c8, if_pos c12]; rfl))
    by_cases c13 : what = 6
    · refine sw_in (off := 97) (tgt := 110) C.hx C.hb dX7_about_13 c13 (by decide) (by decide) (by decide) (by decide) ?_
      refine lv_aload_n C.hx C.hb dX7_about_110 rfl (lv_at hl 1 rfl) ?_
      refine lv_aload_n C.hx C.hb dX7_about_111 rfl (lv_at hl 0 rfl) ?_
      refine kVR (As := [.ref (ad 4 cN)]) (rest := []) (v := .int (s_X7_lateBy x cN)) C (cC_X7_lateBy l G A ad x y z hI cN (by omega)) lk_X7_237 (g_recv C (hW.1 0 0 rfl).1 rfl) hW rfl rfl hl (Nat.le_of_ble_eq_true rfl) dX7_about_112 ⟨⟨by decide, by decide⟩, by decide, by decide⟩ ?_
      exact rI C hr dX7_about_115 (by unfold s_X7_about; (try simp only [tcN]); first | (rw [if_neg c1, if_neg c2, if_neg c4, if_neg c6, if_neg c7, if_neg c8, if_neg c12, if_pos c13]; done) | simp only [if_neg c1, if_neg c2, if_neg c4, if_neg c6, if_neg c7, if_neg c8, if_neg c12, if_pos c13] | (simp only [if_neg c1, if_neg c2, if_neg c4, if_neg c6, if_neg c7, if_neg c8, if_neg c12, if_pos c13]; rfl))
    by_cases c14 : what = 7
    · refine sw_in (off := 103) (tgt := 116) C.hx C.hb dX7_about_13 c14 (by decide) (by decide) (by decide) (by decide) ?_
      refine lv_aload_n C.hx C.hb dX7_about_116 rfl (lv_at hl 0 rfl) ?_
      refine kVNR (As := []) (rest := []) (v := .int (s_X0_timesJudged x y cN)) C (cC_X0_timesJudged l G A ad x y z cN (by omega)) lk_X7_241 (g_recv C (hW.1 4 cN (show cN < y 20 1 by omega)).1 rfl) hW rfl rfl hl (Nat.le_of_ble_eq_true rfl) dX7_about_117 ⟨⟨by decide, by decide⟩, by decide, by decide⟩ ?_
      exact rI C hr dX7_about_120 (by unfold s_X7_about; (try simp only [tcN]); first | (rw [if_neg c1, if_neg c2, if_neg c4, if_neg c6, if_neg c7, if_neg c8, if_neg c12, if_neg c13, if_pos c14]; done) | simp only [if_neg c1, if_neg c2, if_neg c4, if_neg c6, if_neg c7, if_neg c8, if_neg c12, if_neg c13, if_pos c14] | (simp only [if_neg c1, if_neg c2, if_neg c4, if_neg c6, if_neg c7, if_neg c8, if_neg c12, if_neg c13, if_pos c14]; rfl))
    refine lv_tableOut (tgt := 121) C.hx C.hb dX7_about_13 (by have nc2 := lv_neT c2 (a := 0) (by decide); have nc4 := lv_neT c4 (a := 1) (by decide); have nc6 := lv_neT c6 (a := 2) (by decide); have nc7 := lv_neT c7 (a := 3) (by decide); have nc8 := lv_neT c8 (a := 4) (by decide); have nc12 := lv_neT c12 (a := 5) (by decide); have nc13 := lv_neT c13 (a := 6) (by decide); have nc14 := lv_neT c14 (a := 7) (by decide); omega) (by decide) ?_
    refine lv_iconst (v := (-1)) C.hx C.hb dX7_about_121 (by decide) ?_
    exact rI C hr dX7_about_122 (by unfold s_X7_about; (try simp only [tcN]); first | (rw [if_neg c1, if_neg c2, if_neg c4, if_neg c6, if_neg c7, if_neg c8, if_neg c12, if_neg c13, if_neg c14]; done) | simp only [if_neg c1, if_neg c2, if_neg c4, if_neg c6, if_neg c7, if_neg c8, if_neg c12, if_neg c13, if_neg c14] | (simp only [if_neg c1, if_neg c2, if_neg c4, if_neg c6, if_neg c7, if_neg c8, if_neg c12, if_neg c13, if_neg c14]; rfl))
def s_X7_judged (x : XX) (y : YY) (c : Int32) (what : Int32) : Int32 := (if s_X7_within c 0 ((nI (y 20 1)) - 1) = 0 then (-1) else (if (s_X7_within what 0 2) = 0 then (-1) else (if (i_X0_latestJudgement x y (tn c)) = 0 then (-4) else (if what = 0 then s_X2_votes x ((i_X0_latestJudgement x y (tn c)) - 1) else (if what = 1 then x 26 ((i_X0_latestJudgement x y (tn c)) - 1) else x 27 ((i_X0_latestJudgement x y (tn c)) - 1))))))
set_option maxRecDepth 100000 in
set_option maxHeartbeats 1000000 in
theorem cC_X7_judged (l : Launch) (G : GG) (A : Nat → Prop) (ad : YY) (x : XX) (y : YY) (z : Nat → Int64) (hI : CI y) (c : Int32) (what : Int32)  : MR l G yX7_judged cX7_judged 5 (some .int) 5 [.ref (ad 0 0), .int c, .int what] (CWd G A ad x y z) (some (.int (s_X7_judged x y c what))) := by
  refine MR.of RX7 rfl (by decide) (Nat.le_of_ble_eq_true rfl) ?_
  intro p_ e_ s_ m_ args_ below_ meth_ c_ ls hargs C hr hnm hW hl
  obtain ⟨-, -, -, bP, bC, bG, bL⟩ := id hI
  have hl : lv_has ls 5 [(0, .ref (ad 0 0)), (1, .int c), (2, .int what)] := hl
  refine lv_aload_n C.hx C.hb dX7_judged_0 rfl (lv_at hl 0 rfl) ?_
  refine lv_iload_n C.hx C.hb dX7_judged_1 rfl (lv_at hl 1 rfl) ?_
  by_cases c1 : s_X7_within c 0 ((nI (y 20 1)) - 1) = 0
  · refine kVR (As := [.int c]) (rest := []) (v := .null) C (cC_X7_caseAt_no l G A ad x y z hI c c1) lk_X7_180 (g_recv C (hW.1 0 0 rfl).1 rfl) hW rfl rfl hl (Nat.le_of_ble_eq_true rfl) dX7_judged_2 ⟨⟨by decide, by decide⟩, by decide, by decide⟩ ?_
    refine lv_astore_nN (lv' := [(3, .null), (0, .ref (ad 0 0)), (1, .int c), (2, .int what)]) C.hx C.hb dX7_judged_5 rfl hl (by decide) rfl (fun ls hl => ?_)
    refine lv_aload_nN C.hx C.hb dX7_judged_6 rfl (lv_at hl 0 rfl) ?_
    refine lv_ifnullN (tgt := 19) C.hx C.hb dX7_judged_7 (by decide) ?_
    refine lv_iconst (v := (-1)) C.hx C.hb dX7_judged_19 (by decide) ?_
    exact rI C hr dX7_judged_20 (by unfold s_X7_judged; first | (rw [if_pos c1]; done) | simp only [if_pos c1] | (simp only [if_pos c1]; rfl))
  · obtain ⟨cN, hcN, rfl⟩ := withinN (n := y 20 1) c1 (by omega)
    have tcN : tn (nI cN) = cN := nI_clamp (by omega)
    refine kVR (As := [.int (nI cN)]) (rest := []) (v := .ref (ad 4 cN)) C (cC_X7_caseAt_yes l G A ad x y z hI cN (by omega)) lk_X7_180 (g_recv C (hW.1 0 0 rfl).1 rfl) hW rfl rfl hl (Nat.le_of_ble_eq_true rfl) dX7_judged_2 ⟨⟨by decide, by decide⟩, by decide, by decide⟩ ?_
    refine lv_astore_n (lv' := [(3, .ref (ad 4 cN)), (0, .ref (ad 0 0)), (1, .int (nI cN)), (2, .int what)]) C.hx C.hb dX7_judged_5 rfl hl (by decide) rfl (fun ls hl => ?_)
    refine lv_aload_n C.hx C.hb dX7_judged_6 rfl (lv_at hl 0 rfl) ?_
    refine lv_ifnull C.hx C.hb dX7_judged_7 ?_
    refine lv_iload_n C.hx C.hb dX7_judged_10 rfl (lv_at hl 3 rfl) ?_
    refine lv_iconst (v := 0) C.hx C.hb dX7_judged_11 (by decide) ?_
    refine lv_iconst (v := 2) C.hx C.hb dX7_judged_12 (by decide) ?_
    refine kSR (As := [.int what, .int 0, .int 2]) (rest := []) (v := .int (s_X7_within what 0 2)) C (cJ_X7_within l G what 0 2) lk_X7_59 trivial rfl rfl hl (Nat.le_of_ble_eq_true rfl) dX7_judged_13 ⟨⟨by decide, by decide⟩, by decide, by decide⟩ ?_
    refine lv_if_ne (tgt := 21) C.hx C.hb dX7_judged_16 (by decide) (fun c2 => ?_) (fun c2 => ?_)
    · refine lv_aload_n C.hx C.hb dX7_judged_21 rfl (lv_at hl 0 rfl) ?_
      refine kVNR (As := []) (rest := []) (v := opt (ad 5) (i_X0_latestJudgement x y cN)) C (cC_X0_latestJudgement l G A ad x y z cN (by omega)) lk_X7_244 (g_recv C (hW.1 4 cN (show cN < y 20 1 by omega)).1 rfl) hW rfl rfl hl (Nat.le_of_ble_eq_true rfl) dX7_judged_22 ⟨⟨by decide, by decide⟩, by decide, by decide⟩ ?_
      by_cases c3 : (i_X0_latestJudgement x y cN) = 0
      · rw [opt_null c3]
        refine lv_astoreN (lv' := [(4, .null), (3, .ref (ad 4 cN)), (0, .ref (ad 0 0)), (1, .int (nI cN)), (2, .int what)]) C.hx C.hb dX7_judged_25 hl (by decide) rfl (fun ls hl => ?_)
        refine lv_aloadN C.hx C.hb dX7_judged_27 (lv_at hl 0 rfl) ?_
        refine lv_ifnonnullN C.hx C.hb dX7_judged_29 ?_
        refine lv_bipush (v := (-4)) C.hx C.hb dX7_judged_32 (by decide) ?_
        exact rI C hr dX7_judged_34 (by unfold s_X7_judged; (try simp only [tcN]); first | (rw [if_neg c1, if_neg c2, if_pos c3]; done) | simp only [if_neg c1, if_neg c2, if_pos c3] | (simp only [if_neg c1, if_neg c2, if_pos c3]; rfl))
      · rw [opt_some c3]
        refine lv_astore (lv' := [(4, .ref (ad 5 ((i_X0_latestJudgement x y cN) - 1))), (3, .ref (ad 4 cN)), (0, .ref (ad 0 0)), (1, .int (nI cN)), (2, .int what)]) C.hx C.hb dX7_judged_25 hl (by decide) rfl (fun ls hl => ?_)
        refine lv_aload C.hx C.hb dX7_judged_27 (lv_at hl 0 rfl) ?_
        refine lv_ifnonnull (tgt := 35) C.hx C.hb dX7_judged_29 (by decide) ?_
        refine lv_iload_n C.hx C.hb dX7_judged_35 rfl (lv_at hl 4 rfl) ?_
        by_cases c4 : what = 0
        · refine sw_lk (off := 28) (tgt := 64) C.hx C.hb dX7_judged_36 c4 (by decide) (by decide) (by decide) ?_
          refine lv_aload C.hx C.hb dX7_judged_64 (lv_at hl 0 rfl) ?_
          refine kVNR (As := []) (rest := []) (v := .int (s_X2_votes x ((i_X0_latestJudgement x y cN) - 1))) C (cC_X2_votes l G A ad x y z ((i_X0_latestJudgement x y cN) - 1) (lvLa (by omega) c3)) lk_X7_247 (g_recv C (hW.1 5 ((i_X0_latestJudgement x y cN) - 1) (lvLa (by omega) c3)).1 rfl) hW rfl rfl hl (Nat.le_of_ble_eq_true rfl) dX7_judged_66 ⟨⟨by decide, by decide⟩, by decide, by decide⟩ ?_
          exact rI C hr dX7_judged_69 (by unfold s_X7_judged; (try simp only [tcN]); first | (rw [if_neg c1, if_neg c2, if_neg c3, if_pos c4]; done) | simp only [if_neg c1, if_neg c2, if_neg c3, if_pos c4] | (simp only [if_neg c1, if_neg c2, if_neg c3, if_pos c4]; rfl))
        by_cases c5 : what = 1
        · refine sw_lk (off := 34) (tgt := 70) C.hx C.hb dX7_judged_36 c5 (by decide) (by decide) (by decide) ?_
          refine lv_aload C.hx C.hb dX7_judged_70 (lv_at hl 0 rfl) ?_
          refine g_getN (k := 4) (v := .int (x 26 ((i_X0_latestJudgement x y cN) - 1))) C (hW.1 5 ((i_X0_latestJudgement x y cN) - 1) (lvLa (by omega) c3)).1 rfl wu_X2 (by decide) wn_X7_249 rfl rfl dX7_judged_72 ?_
          exact rI C hr dX7_judged_75 (by unfold s_X7_judged; (try simp only [tcN]); first | (rw [if_neg c1, if_neg c2, if_neg c3, if_neg c4, if_pos c5]; done) | simp only [if_neg c1, if_neg c2, if_neg c3, if_neg c4, if_pos c5] | (simp only [if_neg c1, if_neg c2, if_neg c3, if_neg c4, if_pos c5]; rfl))
        refine lv_lookup (off := 40) (tgt := 76) C.hx C.hb dX7_judged_36 (by decide) (by show Op.lookupswitch.offset _ _ _ = _; rw [lv_osw c4 (k := 0) (by decide), lv_osw c5 (k := 1) (by decide)]; rfl) (by decide) ?_
        refine lv_aload C.hx C.hb dX7_judged_76 (lv_at hl 0 rfl) ?_
        refine g_getN (k := 5) (v := .int (x 27 ((i_X0_latestJudgement x y cN) - 1))) C (hW.1 5 ((i_X0_latestJudgement x y cN) - 1) (lvLa (by omega) c3)).1 rfl wu_X2 (by decide) wn_X7_252 rfl rfl dX7_judged_78 ?_
        exact rI C hr dX7_judged_81 (by unfold s_X7_judged; (try simp only [tcN]); first | (rw [if_neg c1, if_neg c2, if_neg c3, if_neg c4, if_neg c5]; done) | simp only [if_neg c1, if_neg c2, if_neg c3, if_neg c4, if_neg c5] | (simp only [if_neg c1, if_neg c2, if_neg c3, if_neg c4, if_neg c5]; rfl))
    · refine lv_iconst (v := (-1)) C.hx C.hb dX7_judged_19 (by decide) ?_
      exact rI C hr dX7_judged_20 (by unfold s_X7_judged; (try simp only [tcN]); first | (rw [if_neg c1, if_pos c2]; done) | simp only [if_neg c1, if_pos c2] | (simp only [if_neg c1, if_pos c2]; rfl))
def s_X7_may (x : XX) (y : YY) (z : Nat → Int64) (j : Int32) (c : Int32) : Int32 := (if s_X7_within j 0 19 = 0 then (-1) else (if s_X7_within c 0 ((nI (y 20 1)) - 1) = 0 then (-1) else s_X7_asNumber (s_X7_mayHave x y z (tn j) (tn c))))
set_option maxRecDepth 100000 in
set_option maxHeartbeats 1000000 in
theorem cC_X7_may (l : Launch) (G : GG) (A : Nat → Prop) (ad : YY) (x : XX) (y : YY) (z : Nat → Int64) (hI : CI y) (j : Int32) (c : Int32)  : MR l G yX7_may cX7_may 5 (some .int) 5 [.ref (ad 0 0), .int j, .int c] (CWd G A ad x y z) (some (.int (s_X7_may x y z j c))) := by
  refine MR.of RX7 rfl (by decide) (Nat.le_of_ble_eq_true rfl) ?_
  intro p_ e_ s_ m_ args_ below_ meth_ c_ ls hargs C hr hnm hW hl
  obtain ⟨-, -, -, bP, bC, bG, bL⟩ := id hI
  have hl : lv_has ls 5 [(0, .ref (ad 0 0)), (1, .int j), (2, .int c)] := hl
  refine lv_aload_n C.hx C.hb dX7_may_0 rfl (lv_at hl 0 rfl) ?_
  refine lv_iload_n C.hx C.hb dX7_may_1 rfl (lv_at hl 1 rfl) ?_
  by_cases c1 : s_X7_within j 0 19 = 0
  · refine kVR (As := [.int j]) (rest := []) (v := .null) C (cC_X7_judgeAt_no l G A ad x y z j c1) lk_X7_119 (g_recv C (hW.1 0 0 rfl).1 rfl) hW rfl rfl hl (Nat.le_of_ble_eq_true rfl) dX7_may_2 ⟨⟨by decide, by decide⟩, by decide, by decide⟩ ?_
    refine lv_astore_nN (lv' := [(3, .null), (0, .ref (ad 0 0)), (1, .int j), (2, .int c)]) C.hx C.hb dX7_may_5 rfl hl (by decide) rfl (fun ls hl => ?_)
    refine lv_aload_n C.hx C.hb dX7_may_6 rfl (lv_at hl 1 rfl) ?_
    refine lv_iload_n C.hx C.hb dX7_may_7 rfl (lv_at hl 3 rfl) ?_
    by_cases c2 : s_X7_within c 0 ((nI (y 20 1)) - 1) = 0
    · refine kVR (As := [.int c]) (rest := []) (v := .null) C (cC_X7_caseAt_no l G A ad x y z hI c c2) lk_X7_180 (g_recv C (hW.1 0 0 rfl).1 rfl) hW rfl rfl hl (Nat.le_of_ble_eq_true rfl) dX7_may_8 ⟨⟨by decide, by decide⟩, by decide, by decide⟩ ?_
      refine lv_astoreN (lv' := [(4, .null), (3, .null), (0, .ref (ad 0 0)), (1, .int j), (2, .int c)]) C.hx C.hb dX7_may_11 hl (by decide) rfl (fun ls hl => ?_)
      refine lv_aload_nN C.hx C.hb dX7_may_13 rfl (lv_at hl 1 rfl) ?_
      refine lv_ifnullN (tgt := 22) C.hx C.hb dX7_may_14 (by decide) ?_
      refine lv_iconst (v := (-1)) C.hx C.hb dX7_may_22 (by decide) ?_
      exact rI C hr dX7_may_23 (by unfold s_X7_may; first | (rw [if_pos c1]; done) | simp only [if_pos c1] | (simp only [if_pos c1]; rfl))
    · obtain ⟨cN, hcN, rfl⟩ := withinN (n := y 20 1) c2 (by omega)
      have tcN : tn (nI cN) = cN := nI_clamp (by omega)
      refine kVR (As := [.int (nI cN)]) (rest := []) (v := .ref (ad 4 cN)) C (cC_X7_caseAt_yes l G A ad x y z hI cN (by omega)) lk_X7_180 (g_recv C (hW.1 0 0 rfl).1 rfl) hW rfl rfl hl (Nat.le_of_ble_eq_true rfl) dX7_may_8 ⟨⟨by decide, by decide⟩, by decide, by decide⟩ ?_
      refine lv_astore (lv' := [(4, .ref (ad 4 cN)), (3, .null), (0, .ref (ad 0 0)), (1, .int j), (2, .int (nI cN))]) C.hx C.hb dX7_may_11 hl (by decide) rfl (fun ls hl => ?_)
      refine lv_aload_nN C.hx C.hb dX7_may_13 rfl (lv_at hl 1 rfl) ?_
      refine lv_ifnullN (tgt := 22) C.hx C.hb dX7_may_14 (by decide) ?_
      refine lv_iconst (v := (-1)) C.hx C.hb dX7_may_22 (by decide) ?_
      exact rI C hr dX7_may_23 (by unfold s_X7_may; (try simp only [tcN]); first | (rw [if_pos c1]; done) | simp only [if_pos c1] | (simp only [if_pos c1]; rfl))
  · obtain ⟨jN, hjN, rfl⟩ := withinK (n := 20) c1 (by decide)
    have tjN : tn (nI jN) = jN := nI_clamp (by omega)
    refine kVR (As := [.int (nI jN)]) (rest := []) (v := .ref (ad 2 jN)) C (cC_X7_judgeAt_yes l G A ad x y z jN (by omega)) lk_X7_119 (g_recv C (hW.1 0 0 rfl).1 rfl) hW rfl rfl hl (Nat.le_of_ble_eq_true rfl) dX7_may_2 ⟨⟨by decide, by decide⟩, by decide, by decide⟩ ?_
    refine lv_astore_n (lv' := [(3, .ref (ad 2 jN)), (0, .ref (ad 0 0)), (1, .int (nI jN)), (2, .int c)]) C.hx C.hb dX7_may_5 rfl hl (by decide) rfl (fun ls hl => ?_)
    refine lv_aload_n C.hx C.hb dX7_may_6 rfl (lv_at hl 1 rfl) ?_
    refine lv_iload_n C.hx C.hb dX7_may_7 rfl (lv_at hl 3 rfl) ?_
    by_cases c3 : s_X7_within c 0 ((nI (y 20 1)) - 1) = 0
    · refine kVR (As := [.int c]) (rest := []) (v := .null) C (cC_X7_caseAt_no l G A ad x y z hI c c3) lk_X7_180 (g_recv C (hW.1 0 0 rfl).1 rfl) hW rfl rfl hl (Nat.le_of_ble_eq_true rfl) dX7_may_8 ⟨⟨by decide, by decide⟩, by decide, by decide⟩ ?_
      refine lv_astoreN (lv' := [(4, .null), (3, .ref (ad 2 jN)), (0, .ref (ad 0 0)), (1, .int (nI jN)), (2, .int c)]) C.hx C.hb dX7_may_11 hl (by decide) rfl (fun ls hl => ?_)
      refine lv_aload_n C.hx C.hb dX7_may_13 rfl (lv_at hl 1 rfl) ?_
      refine lv_ifnull C.hx C.hb dX7_may_14 ?_
      refine lv_aloadN C.hx C.hb dX7_may_17 (lv_at hl 0 rfl) ?_
      refine lv_ifnonnullN C.hx C.hb dX7_may_19 ?_
      refine lv_iconst (v := (-1)) C.hx C.hb dX7_may_22 (by decide) ?_
      exact rI C hr dX7_may_23 (by unfold s_X7_may; (try simp only [tjN]); first | (rw [if_neg c1, if_pos c3]; done) | simp only [if_neg c1, if_pos c3] | (simp only [if_neg c1, if_pos c3]; rfl))
    · obtain ⟨cN, hcN, rfl⟩ := withinN (n := y 20 1) c3 (by omega)
      have tcN : tn (nI cN) = cN := nI_clamp (by omega)
      refine kVR (As := [.int (nI cN)]) (rest := []) (v := .ref (ad 4 cN)) C (cC_X7_caseAt_yes l G A ad x y z hI cN (by omega)) lk_X7_180 (g_recv C (hW.1 0 0 rfl).1 rfl) hW rfl rfl hl (Nat.le_of_ble_eq_true rfl) dX7_may_8 ⟨⟨by decide, by decide⟩, by decide, by decide⟩ ?_
      refine lv_astore (lv' := [(4, .ref (ad 4 cN)), (3, .ref (ad 2 jN)), (0, .ref (ad 0 0)), (1, .int (nI jN)), (2, .int (nI cN))]) C.hx C.hb dX7_may_11 hl (by decide) rfl (fun ls hl => ?_)
      refine lv_aload_n C.hx C.hb dX7_may_13 rfl (lv_at hl 1 rfl) ?_
      refine lv_ifnull C.hx C.hb dX7_may_14 ?_
      refine lv_aload C.hx C.hb dX7_may_17 (lv_at hl 0 rfl) ?_
      refine lv_ifnonnull (tgt := 24) C.hx C.hb dX7_may_19 (by decide) ?_
      refine lv_aload_n C.hx C.hb dX7_may_24 rfl (lv_at hl 1 rfl) ?_
      refine lv_aload C.hx C.hb dX7_may_25 (lv_at hl 0 rfl) ?_
      refine kSR (As := [.ref (ad 2 jN), .ref (ad 4 cN)]) (rest := []) (v := .int (s_X7_mayHave x y z jN cN)) C (cC_X7_mayHave l G A ad x y z hI jN cN (by omega) (by omega)) lk_X7_206 hW rfl rfl hl (Nat.le_of_ble_eq_true rfl) dX7_may_27 ⟨⟨by decide, by decide⟩, by decide, by decide⟩ ?_
      refine kSR (As := [.int (s_X7_mayHave x y z jN cN)]) (rest := []) (v := .int (s_X7_asNumber (s_X7_mayHave x y z jN cN))) C (cJ_X7_asNumber l G (s_X7_mayHave x y z jN cN)) lk_X7_136 trivial rfl rfl hl (Nat.le_of_ble_eq_true rfl) dX7_may_30 ⟨⟨by decide, by decide⟩, by decide, by decide⟩ ?_
      exact rI C hr dX7_may_33 (by unfold s_X7_may; (try simp only [tcN, tjN]); first | (rw [if_neg c1, if_neg c3]; done) | simp only [if_neg c1, if_neg c3] | (simp only [if_neg c1, if_neg c3]; rfl))
def s_X7_next (x : XX) (y : YY) (z : Nat → Int64) (j : Int32) : Int32 := (if s_X7_within j 0 19 = 0 then (-1) else (if (i_X7_nextFor x y z (tn j)) = 0 then (-4) else nI ((i_X7_nextFor x y z (tn j)) - 1)))
set_option maxRecDepth 100000 in
set_option maxHeartbeats 1000000 in
theorem cC_X7_next (l : Launch) (G : GG) (A : Nat → Prop) (ad : YY) (x : XX) (y : YY) (z : Nat → Int64) (hI : CI y) (j : Int32)  : MR l G yX7_next cX7_next 4 (some .int) 5 [.ref (ad 0 0), .int j] (CWd G A ad x y z) (some (.int (s_X7_next x y z j))) := by
  refine MR.of RX7 rfl (by decide) (Nat.le_of_ble_eq_true rfl) ?_
  intro p_ e_ s_ m_ args_ below_ meth_ c_ ls hargs C hr hnm hW hl
  obtain ⟨-, -, -, bP, bC, bG, bL⟩ := id hI
  have hl : lv_has ls 4 [(0, .ref (ad 0 0)), (1, .int j)] := hl
  refine lv_aload_n C.hx C.hb dX7_next_0 rfl (lv_at hl 0 rfl) ?_
  refine lv_iload_n C.hx C.hb dX7_next_1 rfl (lv_at hl 1 rfl) ?_
  by_cases c1 : s_X7_within j 0 19 = 0
  · refine kVR (As := [.int j]) (rest := []) (v := .null) C (cC_X7_judgeAt_no l G A ad x y z j c1) lk_X7_119 (g_recv C (hW.1 0 0 rfl).1 rfl) hW rfl rfl hl (Nat.le_of_ble_eq_true rfl) dX7_next_2 ⟨⟨by decide, by decide⟩, by decide, by decide⟩ ?_
    refine lv_astore_nN (lv' := [(2, .null), (0, .ref (ad 0 0)), (1, .int j)]) C.hx C.hb dX7_next_5 rfl hl (by decide) rfl (fun ls hl => ?_)
    refine lv_aload_nN C.hx C.hb dX7_next_6 rfl (lv_at hl 0 rfl) ?_
    refine lv_ifnonnullN C.hx C.hb dX7_next_7 ?_
    refine lv_iconst (v := (-1)) C.hx C.hb dX7_next_10 (by decide) ?_
    exact rI C hr dX7_next_11 (by unfold s_X7_next; first | (rw [if_pos c1]; done) | simp only [if_pos c1] | (simp only [if_pos c1]; rfl))
  · obtain ⟨jN, hjN, rfl⟩ := withinK (n := 20) c1 (by decide)
    have tjN : tn (nI jN) = jN := nI_clamp (by omega)
    refine kVR (As := [.int (nI jN)]) (rest := []) (v := .ref (ad 2 jN)) C (cC_X7_judgeAt_yes l G A ad x y z jN (by omega)) lk_X7_119 (g_recv C (hW.1 0 0 rfl).1 rfl) hW rfl rfl hl (Nat.le_of_ble_eq_true rfl) dX7_next_2 ⟨⟨by decide, by decide⟩, by decide, by decide⟩ ?_
    refine lv_astore_n (lv' := [(2, .ref (ad 2 jN)), (0, .ref (ad 0 0)), (1, .int (nI jN))]) C.hx C.hb dX7_next_5 rfl hl (by decide) rfl (fun ls hl => ?_)
    refine lv_aload_n C.hx C.hb dX7_next_6 rfl (lv_at hl 0 rfl) ?_
    refine lv_ifnonnull (tgt := 12) C.hx C.hb dX7_next_7 (by decide) ?_
    refine lv_aload_n C.hx C.hb dX7_next_12 rfl (lv_at hl 1 rfl) ?_
    refine lv_aload_n C.hx C.hb dX7_next_13 rfl (lv_at hl 0 rfl) ?_
    refine kVR (As := [.ref (ad 2 jN)]) (rest := []) (v := opt (ad 4) (i_X7_nextFor x y z jN)) C (cC_X7_nextFor l G A ad x y z hI jN (by omega)) lk_X7_152 (g_recv C (hW.1 0 0 rfl).1 rfl) hW rfl rfl hl (Nat.le_of_ble_eq_true rfl) dX7_next_14 ⟨⟨by decide, by decide⟩, by decide, by decide⟩ ?_
    by_cases c2 : (i_X7_nextFor x y z jN) = 0
    · rw [opt_null c2]
      refine lv_astore_nN (lv' := [(3, .null), (2, .ref (ad 2 jN)), (0, .ref (ad 0 0)), (1, .int (nI jN))]) C.hx C.hb dX7_next_17 rfl hl (by decide) rfl (fun ls hl => ?_)
      refine lv_aload_nN C.hx C.hb dX7_next_18 rfl (lv_at hl 0 rfl) ?_
      refine lv_ifnonnullN C.hx C.hb dX7_next_19 ?_
      refine lv_bipush (v := (-4)) C.hx C.hb dX7_next_22 (by decide) ?_
      refine lv_goto (tgt := 31) C.hx C.hb dX7_next_24 (by decide) ?_
      exact rI C hr dX7_next_31 (by unfold s_X7_next; (try simp only [tjN]); first | (rw [if_neg c1, if_pos c2]; done) | simp only [if_neg c1, if_pos c2] | (simp only [if_neg c1, if_pos c2]; rfl))
    · rw [opt_some c2]
      have nc2 := nextFor_le x y z jN
      refine lv_astore_n (lv' := [(3, .ref (ad 4 ((i_X7_nextFor x y z jN) - 1))), (2, .ref (ad 2 jN)), (0, .ref (ad 0 0)), (1, .int (nI jN))]) C.hx C.hb dX7_next_17 rfl hl (by decide) rfl (fun ls hl => ?_)
      refine lv_aload_n C.hx C.hb dX7_next_18 rfl (lv_at hl 0 rfl) ?_
      refine lv_ifnonnull (tgt := 27) C.hx C.hb dX7_next_19 (by decide) ?_
      refine lv_aload_n C.hx C.hb dX7_next_27 rfl (lv_at hl 0 rfl) ?_
      refine g_getN (k := 0) (v := .int (nI ((i_X7_nextFor x y z jN) - 1))) C (hW.1 4 ((i_X7_nextFor x y z jN) - 1) (show ((i_X7_nextFor x y z jN) - 1) < y 20 1 by omega)).1 rfl wu_X0 (by decide) wn_X7_109 rfl rfl dX7_next_28 ?_
      exact rI C hr dX7_next_31 (by unfold s_X7_next; (try simp only [tjN]); first | (rw [if_neg c1, if_neg c2]; done) | simp only [if_neg c1, if_neg c2] | (simp only [if_neg c1, if_neg c2]; rfl))
def s_X7_hidden (x : XX) (y : YY) (pp : Int32) : Int32 := (if s_X7_within pp 0 ((nI (y 20 0)) - 1) = 0 then (-1) else s_X7_asNumber (s_X5_isHidden x y (tn pp)))
set_option maxRecDepth 100000 in
set_option maxHeartbeats 1000000 in
theorem cC_X7_hidden (l : Launch) (G : GG) (A : Nat → Prop) (ad : YY) (x : XX) (y : YY) (z : Nat → Int64) (hI : CI y) (hL : CL y) (pp : Int32)  : MR l G yX7_hidden cX7_hidden 3 (some .int) 5 [.ref (ad 0 0), .int pp] (CWd G A ad x y z) (some (.int (s_X7_hidden x y pp))) := by
  refine MR.of RX7 rfl (by decide) (Nat.le_of_ble_eq_true rfl) ?_
  intro p_ e_ s_ m_ args_ below_ meth_ c_ ls hargs C hr hnm hW hl
  obtain ⟨-, -, -, bP, bC, bG, bL⟩ := id hI
  have hl : lv_has ls 3 [(0, .ref (ad 0 0)), (1, .int pp)] := hl
  refine lv_aload_n C.hx C.hb dX7_hidden_0 rfl (lv_at hl 0 rfl) ?_
  refine lv_iload_n C.hx C.hb dX7_hidden_1 rfl (lv_at hl 1 rfl) ?_
  by_cases c1 : s_X7_within pp 0 ((nI (y 20 0)) - 1) = 0
  · refine kVR (As := [.int pp]) (rest := []) (v := .null) C (cC_X7_postAt_no l G A ad x y z hI pp c1) lk_X7_96 (g_recv C (hW.1 0 0 rfl).1 rfl) hW rfl rfl hl (Nat.le_of_ble_eq_true rfl) dX7_hidden_2 ⟨⟨by decide, by decide⟩, by decide, by decide⟩ ?_
    refine lv_astore_nN (lv' := [(2, .null), (0, .ref (ad 0 0)), (1, .int pp)]) C.hx C.hb dX7_hidden_5 rfl hl (by decide) rfl (fun ls hl => ?_)
    refine lv_aload_nN C.hx C.hb dX7_hidden_6 rfl (lv_at hl 0 rfl) ?_
    refine lv_ifnonnullN C.hx C.hb dX7_hidden_7 ?_
    refine lv_iconst (v := (-1)) C.hx C.hb dX7_hidden_10 (by decide) ?_
    exact rI C hr dX7_hidden_11 (by unfold s_X7_hidden; first | (rw [if_pos c1]; done) | simp only [if_pos c1] | (simp only [if_pos c1]; rfl))
  · obtain ⟨ppN, hppN, rfl⟩ := withinN (n := y 20 0) c1 (by omega)
    have tppN : tn (nI ppN) = ppN := nI_clamp (by omega)
    refine kVR (As := [.int (nI ppN)]) (rest := []) (v := .ref (ad 3 ppN)) C (cC_X7_postAt_yes l G A ad x y z hI ppN (by omega)) lk_X7_96 (g_recv C (hW.1 0 0 rfl).1 rfl) hW rfl rfl hl (Nat.le_of_ble_eq_true rfl) dX7_hidden_2 ⟨⟨by decide, by decide⟩, by decide, by decide⟩ ?_
    refine lv_astore_n (lv' := [(2, .ref (ad 3 ppN)), (0, .ref (ad 0 0)), (1, .int (nI ppN))]) C.hx C.hb dX7_hidden_5 rfl hl (by decide) rfl (fun ls hl => ?_)
    refine lv_aload_n C.hx C.hb dX7_hidden_6 rfl (lv_at hl 0 rfl) ?_
    refine lv_ifnonnull (tgt := 12) C.hx C.hb dX7_hidden_7 (by decide) ?_
    refine lv_aload_n C.hx C.hb dX7_hidden_12 rfl (lv_at hl 0 rfl) ?_
    refine kVNR (As := []) (rest := []) (v := .int (s_X5_isHidden x y ppN)) C (cC_X5_isHidden l G A ad x y z hI hL ppN (by omega)) lk_X7_304 (g_recv C (hW.1 3 ppN (show ppN < y 20 0 by omega)).1 rfl) hW rfl rfl hl (Nat.le_of_ble_eq_true rfl) dX7_hidden_13 ⟨⟨by decide, by decide⟩, by decide, by decide⟩ ?_
    refine kSR (As := [.int (s_X5_isHidden x y ppN)]) (rest := []) (v := .int (s_X7_asNumber (s_X5_isHidden x y ppN))) C (cJ_X7_asNumber l G (s_X5_isHidden x y ppN)) lk_X7_136 trivial rfl rfl hl (Nat.le_of_ble_eq_true rfl) dX7_hidden_16 ⟨⟨by decide, by decide⟩, by decide, by decide⟩ ?_
    exact rI C hr dX7_hidden_19 (by unfold s_X7_hidden; (try simp only [tppN]); first | (rw [if_neg c1]; done) | simp only [if_neg c1] | (simp only [if_neg c1]; rfl))
def s_X7_count (x : XX) (y : YY) (what : Int32) : Int32 := (if what = 0 then nI (y 20 0) else (if what = 1 then nI (y 20 1) else (if what = 2 then s_X7_undecidedCases x y else (if what = 3 then nI (y 20 2) else (if what = 4 then x 2 0 else (if what = 5 then x 0 0 else (-1)))))))
set_option maxRecDepth 100000 in
set_option maxHeartbeats 1000000 in
theorem cC_X7_count (l : Launch) (G : GG) (A : Nat → Prop) (ad : YY) (x : XX) (y : YY) (z : Nat → Int64) (hI : CI y) (what : Int32)  : MR l G yX7_count cX7_count 2 (some .int) 5 [.ref (ad 0 0), .int what] (CWd G A ad x y z) (some (.int (s_X7_count x y what))) := by
  refine MR.of RX7 rfl (by decide) (Nat.le_of_ble_eq_true rfl) ?_
  intro p_ e_ s_ m_ args_ below_ meth_ c_ ls hargs C hr hnm hW hl
  obtain ⟨-, -, -, bP, bC, bG, bL⟩ := id hI
  have hl : lv_has ls 2 [(0, .ref (ad 0 0)), (1, .int what)] := hl
  refine lv_iload_n C.hx C.hb dX7_count_0 rfl (lv_at hl 1 rfl) ?_
  by_cases c1 : what = 0
  · refine sw_in (off := 39) (tgt := 40) C.hx C.hb dX7_count_1 c1 (by decide) (by decide) (by decide) (by decide) ?_
    refine lv_aload_n C.hx C.hb dX7_count_40 rfl (lv_at hl 0 rfl) ?_
    refine g_get (k := 2) (v := .ref (ad 7 0)) C (hW.1 0 0 rfl).1 rfl wu_X7 (by decide) wf_X7_24 rfl rfl dX7_count_41 ?_
    refine kVR (As := []) (rest := []) (v := .int (nI (y 20 0))) C (cJ_size l G (ad 7 0) _ (y 20 0) _) lk_X7_83 (g_recv C (hW.1 7 0 (show 0 < 3 by decide)).1 rfl) (hW.1 7 0 (show 0 < 3 by decide)).1 rfl rfl hl (Nat.le_of_ble_eq_true rfl) dX7_count_44 ⟨⟨by decide, by decide⟩, by decide, by decide⟩ ?_
    exact rI C hr dX7_count_47 (by unfold s_X7_count; first | (rw [if_pos c1]; done) | simp only [if_pos c1] | (simp only [if_pos c1]; rfl))
  by_cases c2 : what = 1
  · refine sw_in (off := 47) (tgt := 48) C.hx C.hb dX7_count_1 c2 (by decide) (by decide) (by decide) (by decide) ?_
    refine lv_aload_n C.hx C.hb dX7_count_48 rfl (lv_at hl 0 rfl) ?_
    refine g_get (k := 3) (v := .ref (ad 7 1)) C (hW.1 0 0 rfl).1 rfl wu_X7 (by decide) wf_X7_28 rfl rfl dX7_count_49 ?_
    refine kVR (As := []) (rest := []) (v := .int (nI (y 20 1))) C (cJ_size l G (ad 7 1) _ (y 20 1) _) lk_X7_83 (g_recv C (hW.1 7 1 (show 1 < 3 by decide)).1 rfl) (hW.1 7 1 (show 1 < 3 by decide)).1 rfl rfl hl (Nat.le_of_ble_eq_true rfl) dX7_count_52 ⟨⟨by decide, by decide⟩, by decide, by decide⟩ ?_
    exact rI C hr dX7_count_55 (by unfold s_X7_count; first | (rw [if_neg c1, if_pos c2]; done) | simp only [if_neg c1, if_pos c2] | (simp only [if_neg c1, if_pos c2]; rfl))
  by_cases c3 : what = 2
  · refine sw_in (off := 55) (tgt := 56) C.hx C.hb dX7_count_1 c3 (by decide) (by decide) (by decide) (by decide) ?_
    refine lv_aload_n C.hx C.hb dX7_count_56 rfl (lv_at hl 0 rfl) ?_
    refine kVR (As := []) (rest := []) (v := .int (s_X7_undecidedCases x y)) C (cC_X7_undecidedCases l G A ad x y z hI) lk_X7_307 (g_recv C (hW.1 0 0 rfl).1 rfl) hW rfl rfl hl (Nat.le_of_ble_eq_true rfl) dX7_count_57 ⟨⟨by decide, by decide⟩, by decide, by decide⟩ ?_
    exact rI C hr dX7_count_60 (by unfold s_X7_count; first | (rw [if_neg c1, if_neg c2, if_pos c3]; done) | simp only [if_neg c1, if_neg c2, if_pos c3] | (simp only [if_neg c1, if_neg c2, if_pos c3]; rfl))
  by_cases c4 : what = 3
  · refine sw_in (off := 60) (tgt := 61) C.hx C.hb dX7_count_1 c4 (by decide) (by decide) (by decide) (by decide) ?_
    refine lv_aload_n C.hx C.hb dX7_count_61 rfl (lv_at hl 0 rfl) ?_
    refine g_get (k := 4) (v := .ref (ad 7 2)) C (hW.1 0 0 rfl).1 rfl wu_X7 (by decide) wf_X7_31 rfl rfl dX7_count_62 ?_
    refine kVR (As := []) (rest := []) (v := .int (nI (y 20 2))) C (cJ_size l G (ad 7 2) _ (y 20 2) _) lk_X7_83 (g_recv C (hW.1 7 2 (show 2 < 3 by decide)).1 rfl) (hW.1 7 2 (show 2 < 3 by decide)).1 rfl rfl hl (Nat.le_of_ble_eq_true rfl) dX7_count_65 ⟨⟨by decide, by decide⟩, by decide, by decide⟩ ?_
    exact rI C hr dX7_count_68 (by unfold s_X7_count; first | (rw [if_neg c1, if_neg c2, if_neg c3, if_pos c4]; done) | simp only [if_neg c1, if_neg c2, if_neg c3, if_pos c4] | (simp only [if_neg c1, if_neg c2, if_neg c3, if_pos c4]; rfl))
  by_cases c5 : what = 4
  · refine sw_in (off := 68) (tgt := 69) C.hx C.hb dX7_count_1 c5 (by decide) (by decide) (by decide) (by decide) ?_
    refine lv_aload_n C.hx C.hb dX7_count_69 rfl (lv_at hl 0 rfl) ?_
    refine g_get (k := 9) (v := .int (x 2 0)) C (hW.1 0 0 rfl).1 rfl wu_X7 (by decide) wf_X7_52 rfl rfl dX7_count_70 ?_
    exact rI C hr dX7_count_73 (by unfold s_X7_count; first | (rw [if_neg c1, if_neg c2, if_neg c3, if_neg c4, if_pos c5]; done) | simp only [if_neg c1, if_neg c2, if_neg c3, if_neg c4, if_pos c5] | (simp only [if_neg c1, if_neg c2, if_neg c3, if_neg c4, if_pos c5]; rfl))
  by_cases c6 : what = 5
  · refine sw_in (off := 73) (tgt := 74) C.hx C.hb dX7_count_1 c6 (by decide) (by decide) (by decide) (by decide) ?_
    refine lv_aload_n C.hx C.hb dX7_count_74 rfl (lv_at hl 0 rfl) ?_
    refine g_get (k := 7) (v := .int (x 0 0)) C (hW.1 0 0 rfl).1 rfl wu_X7 (by decide) wf_X7_45 rfl rfl dX7_count_75 ?_
    exact rI C hr dX7_count_78 (by unfold s_X7_count; first | (rw [if_neg c1, if_neg c2, if_neg c3, if_neg c4, if_neg c5, if_pos c6]; done) | simp only [if_neg c1, if_neg c2, if_neg c3, if_neg c4, if_neg c5, if_pos c6] | (simp only [if_neg c1, if_neg c2, if_neg c3, if_neg c4, if_neg c5, if_pos c6]; rfl))
  refine lv_tableOut (tgt := 79) C.hx C.hb dX7_count_1 (by have nc1 := lv_neT c1 (a := 0) (by decide); have nc2 := lv_neT c2 (a := 1) (by decide); have nc3 := lv_neT c3 (a := 2) (by decide); have nc4 := lv_neT c4 (a := 3) (by decide); have nc5 := lv_neT c5 (a := 4) (by decide); have nc6 := lv_neT c6 (a := 5) (by decide); omega) (by decide) ?_
  refine lv_iconst (v := (-1)) C.hx C.hb dX7_count_79 (by decide) ?_
  exact rI C hr dX7_count_80 (by unfold s_X7_count; first | (rw [if_neg c1, if_neg c2, if_neg c3, if_neg c4, if_neg c5, if_neg c6]; done) | simp only [if_neg c1, if_neg c2, if_neg c3, if_neg c4, if_neg c5, if_neg c6] | (simp only [if_neg c1, if_neg c2, if_neg c3, if_neg c4, if_neg c5, if_neg c6]; rfl))
def f_X7_check_6_2 (x : Nat → Nat → Int32) (y : YY) : Nat → Int32 → Int32 := fun i1 a => (if (a) = 0 then 0 else (if (s_X0_everyJudgeOnce x y i1) = 0 then 0 else 1 : Int32) : Int32)
def f_X7_check_6_1 (x : Nat → Nat → Int32) (y : YY) : Nat → Int32 → Int32 := fun i1 a => (if (a) = 0 then 0 else (if (s_X0_staysWithinAsked x y i1) = 0 then 0 else 1 : Int32) : Int32)
def f_X7_check_88_3 (x : Nat → Nat → Int32) : Nat → Int32 → Int32 := fun i2 a => (if (a) = 0 then 0 else (if 20 < (x 10 i2) then 0 else 1 : Int32) : Int32)
def s_X7_check (x : XX) (y : YY) : Int32 := ((s_X7_asNumber (if (itr (f_X7_check_6_1 x y) 1 (y 20 1)) = 0 then 1 else 0 : Int32)) + (s_X7_asNumber (if (itr (f_X7_check_88_3 x) 1 20) = 0 then 1 else 0 : Int32))) + (s_X7_asNumber (if (itr (f_X7_check_6_2 x y) 1 (y 20 1)) = 0 then 1 else 0 : Int32))
set_option maxRecDepth 100000 in
set_option maxHeartbeats 1000000 in
theorem cC_X7_check (l : Launch) (G : GG) (A : Nat → Prop) (ad : YY) (x : XX) (y : YY) (z : Nat → Int64) (hI : CI y)   : MR l G yX7_check cX7_check 8 (some .int) 4 [.ref (ad 0 0)] (CWd G A ad x y z) (some (.int (s_X7_check x y))) := by
  refine MR.of RX7 rfl (by decide) (Nat.le_of_ble_eq_true rfl) ?_
  intro p_ e_ s_ m_ args_ below_ meth_ c_ ls hargs C hr hnm hW hl
  obtain ⟨-, -, -, bP, bC, bG, bL⟩ := id hI
  have hl : lv_has ls 8 [(0, .ref (ad 0 0))] := hl
  refine lv_iconst (v := 1) C.hx C.hb dX7_check_0 (by decide) ?_
  refine lv_istore_n (lv' := [(1, .int 1), (0, .ref (ad 0 0))]) C.hx C.hb dX7_check_1 rfl hl (by decide) rfl (fun ls hl => ?_)
  refine lv_iconst (v := 1) C.hx C.hb dX7_check_2 (by decide) ?_
  refine lv_istore_n (lv' := [(2, .int 1), (1, .int 1), (0, .ref (ad 0 0))]) C.hx C.hb dX7_check_3 rfl hl (by decide) rfl (fun ls hl => ?_)
  refine lv_iconst (v := 0) C.hx C.hb dX7_check_4 (by decide) ?_
  refine lv_istore_n (lv' := [(3, .int 0), (2, .int 1), (1, .int 1), (0, .ref (ad 0 0))]) C.hx C.hb dX7_check_5 rfl hl (by decide) rfl (fun ls hl => ?_)
  refine W.loopR (N := (y 20 1)) (Inv := fun i ls => lv_has ls 8 [(3, .int (nI i)), (2, .int (itr (f_X7_check_6_2 x y) 1 i)), (1, .int (itr (f_X7_check_6_1 x y) 1 i)), (0, .ref (ad 0 0))]) 6 [] (fun i1 ls hi1 hl K1 => ?_) (fun ls hl => ?_) 0 ls (Nat.zero_le _) (lv_sub hl [0, 1, 2, 3] rfl)
  · refine lv_iload_n C.hx C.hb dX7_check_6 rfl (lv_at hl 0 rfl) ?_
    refine lv_aload_n C.hx C.hb dX7_check_7 rfl (lv_at hl 3 rfl) ?_
    refine g_get (k := 3) (v := .ref (ad 7 1)) C (hW.1 0 0 rfl).1 rfl wu_X7 (by decide) wf_X7_28 rfl rfl dX7_check_8 ?_
    refine kVR (As := []) (rest := [.int (nI i1)]) (v := .int (nI (y 20 1))) C (cJ_size l G (ad 7 1) _ (y 20 1) _) lk_X7_83 (g_recv C (hW.1 7 1 (show 1 < 3 by decide)).1 rfl) (hW.1 7 1 (show 1 < 3 by decide)).1 rfl rfl hl (Nat.le_of_ble_eq_true rfl) dX7_check_11 ⟨⟨by decide, by decide⟩, by decide, by decide⟩ ?_
    refine lv_icmp_ge (tgt := 72) C.hx C.hb dX7_check_14 (by decide) (fun c1 => ?_) (fun c1 => ?_)
    · exact absurd c1 (lt_nle rfl hi1 (by omega))
    · refine lv_aload_n C.hx C.hb dX7_check_17 rfl (lv_at hl 3 rfl) ?_
      refine g_get (k := 3) (v := .ref (ad 7 1)) C (hW.1 0 0 rfl).1 rfl wu_X7 (by decide) wf_X7_28 rfl rfl dX7_check_18 ?_
      refine lv_iload_n C.hx C.hb dX7_check_21 rfl (lv_at hl 0 rfl) ?_
      refine kVR (As := [.int (nI i1)]) (rest := []) (v := .ref (ad 4 i1)) C (cC_get l G ad x y hI 1 i1 (by decide) (by omega)) lk_X7_169 (g_recv C (hW.1 7 1 (show 1 < 3 by decide)).1 rfl) (CWd.ls hW hI 1 (by decide) (by omega)) rfl rfl hl (Nat.le_of_ble_eq_true rfl) dX7_check_22 ⟨⟨by decide, by decide⟩, by decide, by decide⟩ ?_
      refine va_castS C.hx C.hb C.hown (C.hT _ wl_X7_105) (C.hK.1.1 1 _ rfl).2 (g_recv C (hW.1 4 i1 (show i1 < y 20 1 by omega)).1 rfl) dX7_check_25 ?_
      refine lv_astore (lv' := [(4, .ref (ad 4 i1)), (3, .int (nI i1)), (2, .int (itr (f_X7_check_6_2 x y) 1 i1)), (1, .int (itr (f_X7_check_6_1 x y) 1 i1)), (0, .ref (ad 0 0))]) C.hx C.hb dX7_check_28 hl (by decide) rfl (fun ls hl => ?_)
      refine lv_iload_n C.hx C.hb dX7_check_30 rfl (lv_at hl 3 rfl) ?_
      refine W.joinI (P := fun jv => jv = (if (itr (f_X7_check_6_1 x y) 1 i1) = 0 then 0 else (if (s_X0_staysWithinAsked x y i1) = 0 then 0 else 1 : Int32) : Int32)) 47 ls [] (fun J4 => ?_) (fun v5 hv5 => ?_)
      · refine lv_if_eq (tgt := 46) C.hx C.hb dX7_check_31 (by decide) (fun c2 => ?_) (fun c2 => ?_)
        · refine lv_iconst (v := 0) C.hx C.hb dX7_check_46 (by decide) ?_
          exact J4 _ (by rw [if_pos c2])
        · refine lv_aload C.hx C.hb dX7_check_34 (lv_at hl 0 rfl) ?_
          refine kVNR (As := []) (rest := []) (v := .int (s_X0_staysWithinAsked x y i1)) C (cC_X0_staysWithinAsked l G A ad x y z i1 (by omega)) lk_X7_310 (g_recv C (hW.1 4 i1 (show i1 < y 20 1 by omega)).1 rfl) hW rfl rfl hl (Nat.le_of_ble_eq_true rfl) dX7_check_36 ⟨⟨by decide, by decide⟩, by decide, by decide⟩ ?_
          refine lv_if_eq (tgt := 46) C.hx C.hb dX7_check_39 (by decide) (fun c3 => ?_) (fun c3 => ?_)
          · refine lv_iconst (v := 0) C.hx C.hb dX7_check_46 (by decide) ?_
            exact J4 _ (by rw [if_neg c2, if_pos c3])
          · refine lv_iconst (v := 1) C.hx C.hb dX7_check_42 (by decide) ?_
            refine lv_goto (tgt := 47) C.hx C.hb dX7_check_43 (by decide) ?_
            exact J4 _ (by rw [if_neg c2, if_neg c3])
      · refine lv_istore_n (lv' := [(1, .int v5), (4, .ref (ad 4 i1)), (3, .int (nI i1)), (2, .int (itr (f_X7_check_6_2 x y) 1 i1)), (0, .ref (ad 0 0))]) C.hx C.hb dX7_check_47 rfl hl (by decide) rfl (fun ls hl => ?_)
        refine lv_iload_n C.hx C.hb dX7_check_48 rfl (lv_at hl 3 rfl) ?_
        refine W.joinI (P := fun jv => jv = (if (itr (f_X7_check_6_2 x y) 1 i1) = 0 then 0 else (if (s_X0_everyJudgeOnce x y i1) = 0 then 0 else 1 : Int32) : Int32)) 65 ls [] (fun J8 => ?_) (fun v9 hv9 => ?_)
        · refine lv_if_eq (tgt := 64) C.hx C.hb dX7_check_49 (by decide) (fun c6 => ?_) (fun c6 => ?_)
          · refine lv_iconst (v := 0) C.hx C.hb dX7_check_64 (by decide) ?_
            exact J8 _ (by rw [if_pos c6])
          · refine lv_aload C.hx C.hb dX7_check_52 (lv_at hl 1 rfl) ?_
            refine kVNR (As := []) (rest := []) (v := .int (s_X0_everyJudgeOnce x y i1)) C (cC_X0_everyJudgeOnce l G A ad x y z i1 (by omega)) lk_X7_313 (g_recv C (hW.1 4 i1 (show i1 < y 20 1 by omega)).1 rfl) hW rfl rfl hl (Nat.le_of_ble_eq_true rfl) dX7_check_54 ⟨⟨by decide, by decide⟩, by decide, by decide⟩ ?_
            refine lv_if_eq (tgt := 64) C.hx C.hb dX7_check_57 (by decide) (fun c7 => ?_) (fun c7 => ?_)
            · refine lv_iconst (v := 0) C.hx C.hb dX7_check_64 (by decide) ?_
              exact J8 _ (by rw [if_neg c6, if_pos c7])
            · refine lv_iconst (v := 1) C.hx C.hb dX7_check_60 (by decide) ?_
              refine lv_goto (tgt := 65) C.hx C.hb dX7_check_61 (by decide) ?_
              exact J8 _ (by rw [if_neg c6, if_neg c7])
        · refine lv_istore_n (lv' := [(2, .int v9), (1, .int v5), (4, .ref (ad 4 i1)), (3, .int (nI i1)), (0, .ref (ad 0 0))]) C.hx C.hb dX7_check_65 rfl hl (by decide) rfl (fun ls hl => ?_)
          refine lv_iinc (v := (nI i1) + 1) (lv' := [(3, .int ((nI i1) + 1)), (2, .int v9), (1, .int v5), (4, .ref (ad 4 i1)), (0, .ref (ad 0 0))]) C.hx C.hb dX7_check_66 hl (k := 3) rfl rfl (by decide) rfl (fun ls hl => ?_)
          refine lv_goto (tgt := 6) C.hx C.hb dX7_check_69 (by decide) ?_
          rw [hv9] at hl
          rw [hv5] at hl
          rw [nI_1 i1] at hl
          exact K1 _ (lv_sub hl [0, 1, 2, 4] rfl)
  · refine lv_iload_n C.hx C.hb dX7_check_6 rfl (lv_at hl 0 rfl) ?_
    refine lv_aload_n C.hx C.hb dX7_check_7 rfl (lv_at hl 3 rfl) ?_
    refine g_get (k := 3) (v := .ref (ad 7 1)) C (hW.1 0 0 rfl).1 rfl wu_X7 (by decide) wf_X7_28 rfl rfl dX7_check_8 ?_
    refine kVR (As := []) (rest := [.int (nI (y 20 1))]) (v := .int (nI (y 20 1))) C (cJ_size l G (ad 7 1) _ (y 20 1) _) lk_X7_83 (g_recv C (hW.1 7 1 (show 1 < 3 by decide)).1 rfl) (hW.1 7 1 (show 1 < 3 by decide)).1 rfl rfl hl (Nat.le_of_ble_eq_true rfl) dX7_check_11 ⟨⟨by decide, by decide⟩, by decide, by decide⟩ ?_
    refine lv_icmp_ge (tgt := 72) C.hx C.hb dX7_check_14 (by decide) (fun c10 => ?_) (fun c10 => ?_)
    · refine lv_iconst (v := 1) C.hx C.hb dX7_check_72 (by decide) ?_
      refine lv_istore_n (lv' := [(3, .int 1), (2, .int (itr (f_X7_check_6_2 x y) 1 (y 20 1))), (1, .int (itr (f_X7_check_6_1 x y) 1 (y 20 1))), (0, .ref (ad 0 0))]) C.hx C.hb dX7_check_73 rfl hl (by decide) rfl (fun ls hl => ?_)
      refine lv_aload_n C.hx C.hb dX7_check_74 rfl (lv_at hl 3 rfl) ?_
      refine g_get (k := 1) (v := .ref (ad 12 0)) C (hW.1 0 0 rfl).1 rfl wu_X7 (by decide) wf_X7_17 rfl rfl dX7_check_75 ?_
      refine lv_astore (lv' := [(4, .ref (ad 12 0)), (3, .int 1), (2, .int (itr (f_X7_check_6_2 x y) 1 (y 20 1))), (1, .int (itr (f_X7_check_6_1 x y) 1 (y 20 1))), (0, .ref (ad 0 0))]) C.hx C.hb dX7_check_78 hl (by decide) rfl (fun ls hl => ?_)
      refine lv_aload C.hx C.hb dX7_check_80 (lv_at hl 0 rfl) ?_
      refine g_alen (t := 0) C (hW.1 12 0 (rfl)).1 4 rfl dX7_check_82 ?_
      show W _ _ _ _ _ _ _ _ _ _ _ _ _ _ _ (F0 m_ 83 ls [.int (nI 20)])
      refine lv_istore (lv' := [(5, .int (nI 20)), (4, .ref (ad 12 0)), (3, .int 1), (2, .int (itr (f_X7_check_6_2 x y) 1 (y 20 1))), (1, .int (itr (f_X7_check_6_1 x y) 1 (y 20 1))), (0, .ref (ad 0 0))]) C.hx C.hb dX7_check_83 hl (by decide) rfl (fun ls hl => ?_)
      refine lv_iconst (v := 0) C.hx C.hb dX7_check_85 (by decide) ?_
      refine lv_istore (lv' := [(6, .int 0), (5, .int (nI 20)), (4, .ref (ad 12 0)), (3, .int 1), (2, .int (itr (f_X7_check_6_2 x y) 1 (y 20 1))), (1, .int (itr (f_X7_check_6_1 x y) 1 (y 20 1))), (0, .ref (ad 0 0))]) C.hx C.hb dX7_check_86 hl (by decide) rfl (fun ls hl => ?_)
      refine W.loopR (N := 20) (Inv := fun i ls => lv_has ls 8 [(6, .int (nI i)), (5, .int (nI 20)), (4, .ref (ad 12 0)), (3, .int (itr (f_X7_check_88_3 x) 1 i)), (2, .int (itr (f_X7_check_6_2 x y) 1 (y 20 1))), (1, .int (itr (f_X7_check_6_1 x y) 1 (y 20 1))), (0, .ref (ad 0 0))]) 88 [] (fun i2 ls hi2 hl K2 => ?_) (fun ls hl => ?_) 0 ls (Nat.zero_le _) (lv_sub hl [0, 1, 2, 3, 4, 5, 6] rfl)
      · refine lv_iload C.hx C.hb dX7_check_88 (lv_at hl 0 rfl) ?_
        refine lv_iload C.hx C.hb dX7_check_90 (lv_at hl 1 rfl) ?_
        refine lv_icmp_ge (tgt := 128) C.hx C.hb dX7_check_92 (by decide) (fun c11 => ?_) (fun c11 => ?_)
        · exact absurd c11 (lt_nle rfl hi2 (by omega))
        · refine lv_aload C.hx C.hb dX7_check_95 (lv_at hl 2 rfl) ?_
          refine lv_iload C.hx C.hb dX7_check_97 (lv_at hl 0 rfl) ?_
          refine g_aald (t0 := 4) (k := i2) (v := ad 2 i2) C (hW.1 12 0 rfl).1 rfl rfl (show i2 < 20 by omega) (by decide) rfl dX7_check_99 ?_
          refine lv_astore (lv' := [(7, .ref (ad 2 i2)), (6, .int (nI i2)), (5, .int (nI 20)), (4, .ref (ad 12 0)), (3, .int (itr (f_X7_check_88_3 x) 1 i2)), (2, .int (itr (f_X7_check_6_2 x y) 1 (y 20 1))), (1, .int (itr (f_X7_check_6_1 x y) 1 (y 20 1))), (0, .ref (ad 0 0))]) C.hx C.hb dX7_check_100 hl (by decide) rfl (fun ls hl => ?_)
          refine lv_iload_n C.hx C.hb dX7_check_102 rfl (lv_at hl 4 rfl) ?_
          refine W.joinI (P := fun jv => jv = (if (itr (f_X7_check_88_3 x) 1 i2) = 0 then 0 else (if 20 < (x 10 i2) then 0 else 1 : Int32) : Int32)) 121 ls [] (fun J14 => ?_) (fun v15 hv15 => ?_)
          · refine lv_if_eq (tgt := 120) C.hx C.hb dX7_check_103 (by decide) (fun c12 => ?_) (fun c12 => ?_)
            · refine lv_iconst (v := 0) C.hx C.hb dX7_check_120 (by decide) ?_
              exact J14 _ (by rw [if_pos c12])
            · refine lv_aload C.hx C.hb dX7_check_106 (lv_at hl 0 rfl) ?_
              refine g_getN (k := 6) (v := .int (x 10 i2)) C (hW.1 2 i2 (show i2 < 20 by omega)).1 rfl wu_X3 (by decide) wn_X7_161 rfl rfl dX7_check_108 ?_
              refine lv_bipush (v := 20) C.hx C.hb dX7_check_111 (by decide) ?_
              refine lv_icmp_gt (tgt := 120) C.hx C.hb dX7_check_113 (by decide) (fun c13 => ?_) (fun c13 => ?_)
              · refine lv_iconst (v := 0) C.hx C.hb dX7_check_120 (by decide) ?_
                exact J14 _ (by rw [if_neg c12, if_pos c13])
              · refine lv_iconst (v := 1) C.hx C.hb dX7_check_116 (by decide) ?_
                refine lv_goto (tgt := 121) C.hx C.hb dX7_check_117 (by decide) ?_
                exact J14 _ (by rw [if_neg c12, if_neg c13])
          · refine lv_istore_n (lv' := [(3, .int v15), (7, .ref (ad 2 i2)), (6, .int (nI i2)), (5, .int (nI 20)), (4, .ref (ad 12 0)), (2, .int (itr (f_X7_check_6_2 x y) 1 (y 20 1))), (1, .int (itr (f_X7_check_6_1 x y) 1 (y 20 1))), (0, .ref (ad 0 0))]) C.hx C.hb dX7_check_121 rfl hl (by decide) rfl (fun ls hl => ?_)
            refine lv_iinc (v := (nI i2) + 1) (lv' := [(6, .int ((nI i2) + 1)), (3, .int v15), (7, .ref (ad 2 i2)), (5, .int (nI 20)), (4, .ref (ad 12 0)), (2, .int (itr (f_X7_check_6_2 x y) 1 (y 20 1))), (1, .int (itr (f_X7_check_6_1 x y) 1 (y 20 1))), (0, .ref (ad 0 0))]) C.hx C.hb dX7_check_122 hl (k := 2) rfl rfl (by decide) rfl (fun ls hl => ?_)
            refine lv_goto (tgt := 88) C.hx C.hb dX7_check_125 (by decide) ?_
            rw [hv15] at hl
            rw [nI_1 i2] at hl
            exact K2 _ (lv_sub hl [0, 3, 4, 1, 5, 6, 7] rfl)
      · refine lv_iload C.hx C.hb dX7_check_88 (lv_at hl 0 rfl) ?_
        refine lv_iload C.hx C.hb dX7_check_90 (lv_at hl 1 rfl) ?_
        refine lv_icmp_ge (tgt := 128) C.hx C.hb dX7_check_92 (by decide) (fun c16 => ?_) (fun c16 => ?_)
        · refine lv_iload_n C.hx C.hb dX7_check_128 rfl (lv_at hl 5 rfl) ?_
          refine W.joinI (P := fun jv => jv = (if (itr (f_X7_check_6_1 x y) 1 (y 20 1)) = 0 then 1 else 0 : Int32)) 137 ls [] (fun J18 => ?_) (fun v19 hv19 => ?_)
          · refine lv_if_ne (tgt := 136) C.hx C.hb dX7_check_129 (by decide) (fun c17 => ?_) (fun c17 => ?_)
            · refine lv_iconst (v := 0) C.hx C.hb dX7_check_136 (by decide) ?_
              exact J18 _ (by rw [if_neg c17])
            · refine lv_iconst (v := 1) C.hx C.hb dX7_check_132 (by decide) ?_
              refine lv_goto (tgt := 137) C.hx C.hb dX7_check_133 (by decide) ?_
              exact J18 _ (by rw [if_pos c17])
          · refine kSR (As := [.int v19]) (rest := []) (v := .int (s_X7_asNumber v19)) C (cJ_X7_asNumber l G v19) lk_X7_136 trivial rfl rfl hl (Nat.le_of_ble_eq_true rfl) dX7_check_137 ⟨⟨by decide, by decide⟩, by decide, by decide⟩ ?_
            refine lv_iload_n C.hx C.hb dX7_check_140 rfl (lv_at hl 3 rfl) ?_
            refine W.joinI (P := fun jv => jv = (if (itr (f_X7_check_88_3 x) 1 20) = 0 then 1 else 0 : Int32)) 149 ls [.int (s_X7_asNumber v19)] (fun J21 => ?_) (fun v22 hv22 => ?_)
            · refine lv_if_ne (tgt := 148) C.hx C.hb dX7_check_141 (by decide) (fun c20 => ?_) (fun c20 => ?_)
              · refine lv_iconst (v := 0) C.hx C.hb dX7_check_148 (by decide) ?_
                exact J21 _ (by rw [if_neg c20])
              · refine lv_iconst (v := 1) C.hx C.hb dX7_check_144 (by decide) ?_
                refine lv_goto (tgt := 149) C.hx C.hb dX7_check_145 (by decide) ?_
                exact J21 _ (by rw [if_pos c20])
            · refine kSR (As := [.int v22]) (rest := [.int (s_X7_asNumber v19)]) (v := .int (s_X7_asNumber v22)) C (cJ_X7_asNumber l G v22) lk_X7_136 trivial rfl rfl hl (Nat.le_of_ble_eq_true rfl) dX7_check_149 ⟨⟨by decide, by decide⟩, by decide, by decide⟩ ?_
              refine lv_iadd C.hx C.hb dX7_check_152 ?_
              refine lv_iload_n C.hx C.hb dX7_check_153 rfl (lv_at hl 4 rfl) ?_
              refine W.joinI (P := fun jv => jv = (if (itr (f_X7_check_6_2 x y) 1 (y 20 1)) = 0 then 1 else 0 : Int32)) 162 ls [.int ((s_X7_asNumber v19) + (s_X7_asNumber v22))] (fun J24 => ?_) (fun v25 hv25 => ?_)
              · refine lv_if_ne (tgt := 161) C.hx C.hb dX7_check_154 (by decide) (fun c23 => ?_) (fun c23 => ?_)
                · refine lv_iconst (v := 0) C.hx C.hb dX7_check_161 (by decide) ?_
                  exact J24 _ (by rw [if_neg c23])
                · refine lv_iconst (v := 1) C.hx C.hb dX7_check_157 (by decide) ?_
                  refine lv_goto (tgt := 162) C.hx C.hb dX7_check_158 (by decide) ?_
                  exact J24 _ (by rw [if_pos c23])
              · refine kSR (As := [.int v25]) (rest := [.int ((s_X7_asNumber v19) + (s_X7_asNumber v22))]) (v := .int (s_X7_asNumber v25)) C (cJ_X7_asNumber l G v25) lk_X7_136 trivial rfl rfl hl (Nat.le_of_ble_eq_true rfl) dX7_check_162 ⟨⟨by decide, by decide⟩, by decide, by decide⟩ ?_
                refine lv_iadd C.hx C.hb dX7_check_165 ?_
                exact rI C hr dX7_check_166 (by rw [hv25]; rw [hv22]; rw [hv19]; unfold s_X7_check; with_reducible rfl)
        · exact absurd (le_eqn rfl) c16
    · exact absurd (le_eqn rfl) c10
