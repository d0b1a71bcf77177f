def q_X5_isHidden_5 (x : Nat → Nat → Int32) (pp : Nat) (y : YY) : Nat → Bool := fun c1c => (if y 2 c1c = pp then (if (s_X0_guiltStands x c1c) = 0 then false else true) else false)
def s_X5_isHidden (x : XX) (y : YY) (pp : Nat) : Int32 := (if hasv (q_X5_isHidden_5 x pp y) (y 20 1) = true then 1 else 0)
set_option maxRecDepth 100000 in
set_option maxHeartbeats 1000000 in
theorem cC_X5_isHidden (l : Launch) (G : GG) (A : Nat → Prop) (ad : YY) (x : XX) (y : YY) (z : Nat → Int64) (hI : CI y) (hL : CL y) (pp : Nat) (hpp : pp < y 20 0) : MR l G yX5_isHidden cX5_isHidden 2 (some .boolean) 1 [.ref (ad 3 pp)] (CWd G A ad x y z) (some (.int (s_X5_isHidden x y pp))) := by
  refine MR.of RX5 rfl (by decide) (Nat.le_of_ble_eq_true rfl) ?_
  intro p_ e_ s_ m_ args_ below_ meth_ c_ ls hargs C hr hnm hW hl
  obtain ⟨-, -, -, bP, bC, bG, bL⟩ := id hI
  have hl : lv_has ls 2 [(0, .ref (ad 3 pp))] := hl
  refine lv_aload_n C.hx C.hb dX5_isHidden_0 rfl (lv_at hl 0 rfl) ?_
  refine g_get (k := 5) (v := opt (ad 4) (y 0 pp)) C (hW.1 3 pp (show pp < y 20 0 by omega)).1 rfl wu_X5 (by decide) wf_X5_7 rfl rfl dX5_isHidden_1 ?_
  refine g_astoreO_n (g := ad 4) (q := (y 0 pp)) (lv' := [(1, opt (ad 4) (y 0 pp)), (0, .ref (ad 3 pp))]) C.hx C.hb dX5_isHidden_4 rfl hl (by decide) rfl (fun ls hl => ?_)
  rw [hL.1 pp (by omega)] at hl
  refine W.loopF (N := y 20 1) (Inv := fun i ls => lv_has ls 2 [(1, opt (ad 4) (nxt y pp i)), (0, .ref (ad 3 pp))] ∧ hasv (q_X5_isHidden_5 x pp y) i = false) 5 [] (fun i1 ls hi1 hq K1 => ?_) 0 ls (Nat.zero_le _) ⟨lv_sub hl [0, 1] rfl, rfl⟩
  obtain ⟨hl, hno⟩ := hq
  by_cases c1 : nxt y pp i1 = 0
  · rw [opt_null c1] at hl
    have hk1 : ¬ hasv (q_X5_isHidden_5 x pp y) (y 20 1) = true := by rw [hasv_skip hno hi1 (fun b g1 g2 => by unfold q_X5_isHidden_5; rw [if_neg (nxt_none c1 b g1 g2)])]; decide
    refine lv_aload_nN C.hx C.hb dX5_isHidden_5 rfl (lv_at hl 0 rfl) ?_
    refine lv_ifnullN (tgt := 26) C.hx C.hb dX5_isHidden_6 (by decide) ?_
    refine lv_iconst (v := 0) C.hx C.hb dX5_isHidden_26 (by decide) ?_
    exact rZ C hr dX5_isHidden_27 (by unfold s_X5_isHidden; first | (rw [if_neg hk1]; done) | simp only [if_neg hk1] | (simp only [if_neg hk1]; rfl)) nb0
  · obtain ⟨c1c, nc1c, gc1c, lc1c, ec1c, sc1c⟩ := nxt_some c1
    rw [nc1c] at hl
    have hl : lv_has ls 2 [(1, .ref (ad 4 c1c)), (0, .ref (ad 3 pp))] := hl
    refine lv_aload_n C.hx C.hb dX5_isHidden_5 rfl (lv_at hl 0 rfl) ?_
    refine lv_ifnull C.hx C.hb dX5_isHidden_6 ?_
    refine lv_aload_n C.hx C.hb dX5_isHidden_9 rfl (lv_at hl 0 rfl) ?_
    refine kVNR (As := []) (rest := []) (v := .int (s_X0_guiltStands x c1c)) C (cC_X0_guiltStands l G A ad x y z c1c (by omega)) lk_X5_44 (g_recv C (hW.1 4 c1c (show c1c < y 20 1 by omega)).1 rfl) hW rfl rfl hl (Nat.le_of_ble_eq_true rfl) dX5_isHidden_10 ⟨⟨by decide, by decide⟩, by decide, by decide⟩ ?_
    refine lv_if_eq (tgt := 18) C.hx C.hb dX5_isHidden_13 (by decide) (fun c2 => ?_) (fun c2 => ?_)
    · refine lv_aload_n C.hx C.hb dX5_isHidden_18 rfl (lv_at hl 0 rfl) ?_
      refine g_getN (k := 11) (v := opt (ad 4) (y 5 c1c)) C (hW.1 4 c1c (show c1c < y 20 1 by omega)).1 rfl wu_X0 (by decide) wn_X5_32 rfl rfl dX5_isHidden_19 ?_
      refine g_astoreO_n (g := ad 4) (q := (y 5 c1c)) (lv' := [(1, opt (ad 4) (y 5 c1c)), (0, .ref (ad 3 pp))]) C.hx C.hb dX5_isHidden_22 rfl hl (by decide) rfl (fun ls hl => ?_)
      refine lv_goto (tgt := 5) C.hx C.hb dX5_isHidden_23 (by decide) ?_
      rw [hL.2 c1c (by omega), ec1c] at hl
      have hl : lv_has ls 2 [(1, opt (ad 4) (nxt y pp (c1c + 1))), (0, .ref (ad 3 pp))] := lv_sub hl [0, 1] rfl
      exact K1 (c1c + 1) _ (by omega) (by omega) ⟨hl, hasv_no (hasv_skip hno gc1c (fun b g1 g2 => by unfold q_X5_isHidden_5; rw [if_neg (sc1c b g1 g2)])) (by unfold q_X5_isHidden_5; rw [if_pos ec1c, if_pos c2])⟩
    · refine lv_iconst (v := 1) C.hx C.hb dX5_isHidden_16 (by decide) ?_
      have qq : (q_X5_isHidden_5 x pp y) c1c = true := by unfold q_X5_isHidden_5; rw [if_pos ec1c, if_neg c2]
      have hk1 : hasv (q_X5_isHidden_5 x pp y) (y 20 1) = true := hasv_yes lc1c qq
      have fc1c : fstv (q_X5_isHidden_5 x pp y) (y 20 1) = c1c := fstv_eq lc1c (hasv_skip hno gc1c (fun b g1 g2 => by unfold q_X5_isHidden_5; rw [if_neg (sc1c b g1 g2)])) qq
      exact rZ C hr dX5_isHidden_17 (by unfold s_X5_isHidden; (try simp only [fc1c]); first | (rw [if_pos hk1]; done) | simp only [if_pos hk1] | (simp only [if_pos hk1]; rfl)) nb1
def q_X5_caseUnder_5 (pp : Nat) (rn : Nat) (y : YY) : Nat → Bool := fun c1c => (if y 2 c1c = pp then (if (nI (y 3 c1c)) = (nI rn) then true else false) else false)
def i_X5_caseUnder (y : YY) (pp : Nat) (rn : Nat) : Nat := (if hasv (q_X5_caseUnder_5 pp rn y) (y 20 1) = true then (fstv (q_X5_caseUnder_5 pp rn y) (y 20 1)) + 1 else 0)
set_option maxRecDepth 100000 in
set_option maxHeartbeats 1000000 in
theorem cC_X5_caseUnder (l : Launch) (G : GG) (A : Nat → Prop) (ad : YY) (x : XX) (y : YY) (z : Nat → Int64) (hI : CI y) (hL : CL y) (pp : Nat) (rn : Nat) (hpp : pp < y 20 0) (hrn : rn < 8) : MR l G yX5_caseUnder cX5_caseUnder 3 (some (.object "ModeratorsBench$Case")) 0 [.ref (ad 3 pp), .int (nI rn)] (CWd G A ad x y z) (some (opt (ad 4) (i_X5_caseUnder y pp rn))) := by
  refine MR.of RX5 rfl (by decide) (Nat.le_of_ble_eq_true rfl) ?_
  intro p_ e_ s_ m_ args_ below_ meth_ c_ ls hargs C hr hnm hW hl
  obtain ⟨-, -, -, bP, bC, bG, bL⟩ := id hI
  have hl : lv_has ls 3 [(0, .ref (ad 3 pp)), (1, .int (nI rn))] := hl
  refine lv_aload_n C.hx C.hb dX5_caseUnder_0 rfl (lv_at hl 0 rfl) ?_
  refine g_get (k := 5) (v := opt (ad 4) (y 0 pp)) C (hW.1 3 pp (show pp < y 20 0 by omega)).1 rfl wu_X5 (by decide) wf_X5_7 rfl rfl dX5_caseUnder_1 ?_
  refine g_astoreO_n (g := ad 4) (q := (y 0 pp)) (lv' := [(2, opt (ad 4) (y 0 pp)), (0, .ref (ad 3 pp)), (1, .int (nI rn))]) C.hx C.hb dX5_caseUnder_4 rfl hl (by decide) rfl (fun ls hl => ?_)
  rw [hL.1 pp (by omega)] at hl
  refine W.loopF (N := y 20 1) (Inv := fun i ls => lv_has ls 3 [(2, opt (ad 4) (nxt y pp i)), (0, .ref (ad 3 pp)), (1, .int (nI rn))] ∧ hasv (q_X5_caseUnder_5 pp rn y) i = false) 5 [] (fun i1 ls hi1 hq K1 => ?_) 0 ls (Nat.zero_le _) ⟨lv_sub hl [0, 1, 2] rfl, rfl⟩
  obtain ⟨hl, hno⟩ := hq
  by_cases c1 : nxt y pp i1 = 0
  · rw [opt_null c1] at hl
    have hk1 : ¬ hasv (q_X5_caseUnder_5 pp rn y) (y 20 1) = true := by rw [hasv_skip hno hi1 (fun b g1 g2 => by unfold q_X5_caseUnder_5; rw [if_neg (nxt_none c1 b g1 g2)])]; decide
    refine lv_aload_nN C.hx C.hb dX5_caseUnder_5 rfl (lv_at hl 0 rfl) ?_
    refine lv_ifnullN (tgt := 30) C.hx C.hb dX5_caseUnder_6 (by decide) ?_
    refine lv_null C.hx C.hb dX5_caseUnder_30 ?_
    exact rA C hr (Or.inl ⟨_, rfl⟩) (Or.inl rfl) dX5_caseUnder_31 (by unfold i_X5_caseUnder; rw [if_neg hk1]; rfl)
  · obtain ⟨c1c, nc1c, gc1c, lc1c, ec1c, sc1c⟩ := nxt_some c1
    rw [nc1c] at hl
    have hl : lv_has ls 3 [(2, .ref (ad 4 c1c)), (0, .ref (ad 3 pp)), (1, .int (nI rn))] := hl
    refine lv_aload_n C.hx C.hb dX5_caseUnder_5 rfl (lv_at hl 0 rfl) ?_
    refine lv_ifnull C.hx C.hb dX5_caseUnder_6 ?_
    refine lv_aload_n C.hx C.hb dX5_caseUnder_9 rfl (lv_at hl 0 rfl) ?_
    refine g_getN (k := 2) (v := .ref (ad 1 (y 3 c1c))) C (hW.1 4 c1c (show c1c < y 20 1 by omega)).1 rfl wu_X0 (by decide) wn_X5_37 rfl rfl dX5_caseUnder_10 ?_
    have g2 := (hI.1 c1c (by omega)).2.1
    refine g_getN (k := 0) (v := .int (nI (y 3 c1c))) C (hW.1 1 (y 3 c1c) (show (y 3 c1c) < 8 by omega)).1 rfl wu_X6 (by decide) wn_X5_41 rfl rfl dX5_caseUnder_13 ?_
    refine lv_iload_n C.hx C.hb dX5_caseUnder_16 rfl (lv_at hl 2 rfl) ?_
    refine lv_icmp_ne (tgt := 22) C.hx C.hb dX5_caseUnder_17 (by decide) (fun c3 => ?_) (fun c3 => ?_)
    · refine lv_aload_n C.hx C.hb dX5_caseUnder_22 rfl (lv_at hl 0 rfl) ?_
      refine g_getN (k := 11) (v := opt (ad 4) (y 5 c1c)) C (hW.1 4 c1c (show c1c < y 20 1 by omega)).1 rfl wu_X0 (by decide) wn_X5_32 rfl rfl dX5_caseUnder_23 ?_
      refine g_astoreO_n (g := ad 4) (q := (y 5 c1c)) (lv' := [(2, opt (ad 4) (y 5 c1c)), (0, .ref (ad 3 pp)), (1, .int (nI rn))]) C.hx C.hb dX5_caseUnder_26 rfl hl (by decide) rfl (fun ls hl => ?_)
      refine lv_goto (tgt := 5) C.hx C.hb dX5_caseUnder_27 (by decide) ?_
      rw [hL.2 c1c (by omega), ec1c] at hl
      have hl : lv_has ls 3 [(2, opt (ad 4) (nxt y pp (c1c + 1))), (0, .ref (ad 3 pp)), (1, .int (nI rn))] := lv_sub hl [0, 1, 2] rfl
      exact K1 (c1c + 1) _ (by omega) (by omega) ⟨hl, hasv_no (hasv_skip hno gc1c (fun b g1 g2 => by unfold q_X5_caseUnder_5; rw [if_neg (sc1c b g1 g2)])) (by unfold q_X5_caseUnder_5; rw [if_pos ec1c, if_neg c3])⟩
    · refine lv_aload_n C.hx C.hb dX5_caseUnder_20 rfl (lv_at hl 0 rfl) ?_
      have qq : (q_X5_caseUnder_5 pp rn y) c1c = true := by unfold q_X5_caseUnder_5; rw [if_pos ec1c, if_pos c3]
      have hk1 : hasv (q_X5_caseUnder_5 pp rn y) (y 20 1) = true := hasv_yes lc1c qq
      have fc1c : fstv (q_X5_caseUnder_5 pp rn y) (y 20 1) = c1c := fstv_eq lc1c (hasv_skip hno gc1c (fun b g1 g2 => by unfold q_X5_caseUnder_5; rw [if_neg (sc1c b g1 g2)])) qq
      exact rA C hr (Or.inl ⟨_, rfl⟩) (Or.inr ⟨_, rfl⟩) dX5_caseUnder_21 (by unfold i_X5_caseUnder; (try simp only [fc1c]); rw [if_pos hk1]; rfl)
def q_X7_giftOf_2 (j : Nat) (c : Nat) (y : YY) : Nat → Bool := fun i1 => (if (y 6 i1) = j then (if (y 7 i1) = c then true else false) else false)
def s_X7_giftOf (y : YY) (j : Nat) (c : Nat) : Int32 := (if hasv (q_X7_giftOf_2 j c y) (y 20 2) = true then nI (fstv (q_X7_giftOf_2 j c y) (y 20 2)) else (-1))
set_option maxRecDepth 100000 in
set_option maxHeartbeats 1000000 in
theorem cC_X7_giftOf (l : Launch) (G : GG) (A : Nat → Prop) (ad : YY) (x : XX) (y : YY) (z : Nat → Int64) (hI : CI y) (j : Nat) (c : Nat) (hj : j < 20) (hc : c < y 20 1) : MR l G yX7_giftOf cX7_giftOf 5 (some .int) 4 [.ref (ad 0 0), .ref (ad 2 j), .ref (ad 4 c)] (CWd G A ad x y z) (some (.int (s_X7_giftOf y j c))) := by
  refine MR.of RX7 rfl (by decide) (Nat.le_of_ble_eq_true rfl) ?_
  intro p_ e_ s_ m_ args_ below_ meth_ c_ ls hargs C hr hnm hW hl
  obtain ⟨-, -, -, bP, bC, bG, bL⟩ := id hI
  have hl : lv_has ls 5 [(0, .ref (ad 0 0)), (1, .ref (ad 2 j)), (2, .ref (ad 4 c))] := hl
  refine lv_iconst (v := 0) C.hx C.hb dX7_giftOf_0 (by decide) ?_
  refine lv_istore_n (lv' := [(3, .int 0), (0, .ref (ad 0 0)), (1, .ref (ad 2 j)), (2, .ref (ad 4 c))]) C.hx C.hb dX7_giftOf_1 rfl hl (by decide) rfl (fun ls hl => ?_)
  refine W.loopR (N := (y 20 2)) (Inv := fun i ls => lv_has ls 5 [(3, .int (nI i)), (0, .ref (ad 0 0)), (1, .ref (ad 2 j)), (2, .ref (ad 4 c))] ∧ hasv (q_X7_giftOf_2 j c y) i = false) 2 [] (fun i1 ls hi1 hq K1 => ?_) (fun ls hq => ?_) 0 ls (Nat.zero_le _) ⟨lv_sub hl [0, 1, 2, 3] rfl, rfl⟩
  · obtain ⟨hl, hno⟩ := hq
    refine lv_iload_n C.hx C.hb dX7_giftOf_2 rfl (lv_at hl 0 rfl) ?_
    refine lv_aload_n C.hx C.hb dX7_giftOf_3 rfl (lv_at hl 1 rfl) ?_
    refine g_get (k := 4) (v := .ref (ad 7 2)) C (hW.1 0 0 rfl).1 rfl wu_X7 (by decide) wf_X7_31 rfl rfl dX7_giftOf_4 ?_
    refine kVR (As := []) (rest := [.int (nI i1)]) (v := .int (nI (y 20 2))) C (cJ_size l G (ad 7 2) _ (y 20 2) _) lk_X7_83 (g_recv C (hW.1 7 2 (show 2 < 3 by decide)).1 rfl) (hW.1 7 2 (show 2 < 3 by decide)).1 rfl rfl hl (Nat.le_of_ble_eq_true rfl) dX7_giftOf_7 ⟨⟨by decide, by decide⟩, by decide, by decide⟩ ?_
    refine lv_icmp_ge (tgt := 52) C.hx C.hb dX7_giftOf_10 (by decide) (fun c1 => ?_) (fun c1 => ?_)
    · exact absurd c1 (lt_nle rfl hi1 (by omega))
    · refine lv_aload_n C.hx C.hb dX7_giftOf_13 rfl (lv_at hl 1 rfl) ?_
      refine g_get (k := 4) (v := .ref (ad 7 2)) C (hW.1 0 0 rfl).1 rfl wu_X7 (by decide) wf_X7_31 rfl rfl dX7_giftOf_14 ?_
      refine lv_iload_n C.hx C.hb dX7_giftOf_17 rfl (lv_at hl 0 rfl) ?_
      refine kVR (As := [.int (nI i1)]) (rest := []) (v := .ref (ad 6 i1)) C (cC_get l G ad x y hI 2 i1 (by decide) (by omega)) lk_X7_169 (g_recv C (hW.1 7 2 (show 2 < 3 by decide)).1 rfl) (CWd.ls hW hI 2 (by decide) (by omega)) rfl rfl hl (Nat.le_of_ble_eq_true rfl) dX7_giftOf_18 ⟨⟨by decide, by decide⟩, by decide, by decide⟩ ?_
      refine va_castS C.hx C.hb C.hown (C.hT _ wl_X7_156) (C.hK.1.1 2 _ rfl).2 (g_recv C (hW.1 6 i1 (show i1 < y 20 2 by omega)).1 rfl) dX7_giftOf_21 ?_
      refine lv_astore (lv' := [(4, .ref (ad 6 i1)), (3, .int (nI i1)), (0, .ref (ad 0 0)), (1, .ref (ad 2 j)), (2, .ref (ad 4 c))]) C.hx C.hb dX7_giftOf_24 hl (by decide) rfl (fun ls hl => ?_)
      refine lv_aload C.hx C.hb dX7_giftOf_26 (lv_at hl 0 rfl) ?_
      refine g_getN (k := 0) (v := .ref (ad 2 (y 6 i1))) C (hW.1 6 i1 (show i1 < y 20 2 by omega)).1 rfl wu_X1 (by decide) wn_X7_335 rfl rfl dX7_giftOf_28 ?_
      have g2 := (hI.2.2.1 i1 (by omega)).1
      refine lv_aload_n C.hx C.hb dX7_giftOf_31 rfl (lv_at hl 3 rfl) ?_
      refine g_acmp_ne (g := ad 2) (i := (y 6 i1)) (j := j) (fun q => (hW.2.1 2 (y 6 i1) 2 j (show (y 6 i1) < 20 by omega) (show j < 20 by omega) q).2) (tgt := 46) C.hx C.hb dX7_giftOf_32 (by decide) (fun c3 => ?_) (fun c3 => ?_)
      · refine lv_iinc (v := (nI i1) + 1) (lv' := [(3, .int ((nI i1) + 1)), (4, .ref (ad 6 i1)), (0, .ref (ad 0 0)), (1, .ref (ad 2 j)), (2, .ref (ad 4 c))]) C.hx C.hb dX7_giftOf_46 hl (k := 1) rfl rfl (by decide) rfl (fun ls hl => ?_)
        refine lv_goto (tgt := 2) C.hx C.hb dX7_giftOf_49 (by decide) ?_
        rw [nI_1 i1] at hl
        exact K1 _ ⟨lv_sub hl [0, 2, 3, 4] rfl, hasv_no hno (by unfold q_X7_giftOf_2; rw [if_neg c3])⟩
      · refine lv_aload C.hx C.hb dX7_giftOf_35 (lv_at hl 0 rfl) ?_
        refine g_getN (k := 1) (v := .ref (ad 4 (y 7 i1))) C (hW.1 6 i1 (show i1 < y 20 2 by omega)).1 rfl wu_X1 (by decide) wn_X7_173 rfl rfl dX7_giftOf_37 ?_
        have g4 := (hI.2.2.1 i1 (by omega)).2
        refine lv_aload_n C.hx C.hb dX7_giftOf_40 rfl (lv_at hl 4 rfl) ?_
        refine g_acmp_ne (g := ad 4) (i := (y 7 i1)) (j := c) (fun q => (hW.2.1 4 (y 7 i1) 4 c (show (y 7 i1) < y 20 1 by omega) (show c < y 20 1 by omega) q).2) (tgt := 46) C.hx C.hb dX7_giftOf_41 (by decide) (fun c5 => ?_) (fun c5 => ?_)
        · refine lv_iinc (v := (nI i1) + 1) (lv' := [(3, .int ((nI i1) + 1)), (4, .ref (ad 6 i1)), (0, .ref (ad 0 0)), (1, .ref (ad 2 j)), (2, .ref (ad 4 c))]) C.hx C.hb dX7_giftOf_46 hl (k := 1) rfl rfl (by decide) rfl (fun ls hl => ?_)
          refine lv_goto (tgt := 2) C.hx C.hb dX7_giftOf_49 (by decide) ?_
          rw [nI_1 i1] at hl
          exact K1 _ ⟨lv_sub hl [0, 2, 3, 4] rfl, hasv_no hno (by unfold q_X7_giftOf_2; rw [if_pos c3, if_neg c5])⟩
        · refine lv_iload_n C.hx C.hb dX7_giftOf_44 rfl (lv_at hl 1 rfl) ?_
          have hk1 : hasv (q_X7_giftOf_2 j c y) (y 20 2) = true := hasv_yes hi1 (by unfold q_X7_giftOf_2; rw [if_pos c3, if_pos c5])
          have ei1 : fstv (q_X7_giftOf_2 j c y) (y 20 2) = i1 := fstv_eq hi1 hno (by unfold q_X7_giftOf_2; rw [if_pos c3, if_pos c5])
          exact rI C hr dX7_giftOf_45 (by unfold s_X7_giftOf; (try simp only [ei1]); first | (rw [if_pos hk1]; done) | simp only [if_pos hk1] | (simp only [if_pos hk1]; rfl))
  · obtain ⟨hl, hno⟩ := hq
    have hk1 : ¬ hasv (q_X7_giftOf_2 j c y) (y 20 2) = true := by rw [hno]; decide
    refine lv_iload_n C.hx C.hb dX7_giftOf_2 rfl (lv_at hl 0 rfl) ?_
    refine lv_aload_n C.hx C.hb dX7_giftOf_3 rfl (lv_at hl 1 rfl) ?_
    refine g_get (k := 4) (v := .ref (ad 7 2)) C (hW.1 0 0 rfl).1 rfl wu_X7 (by decide) wf_X7_31 rfl rfl dX7_giftOf_4 ?_
    refine kVR (As := []) (rest := [.int (nI (y 20 2))]) (v := .int (nI (y 20 2))) C (cJ_size l G (ad 7 2) _ (y 20 2) _) lk_X7_83 (g_recv C (hW.1 7 2 (show 2 < 3 by decide)).1 rfl) (hW.1 7 2 (show 2 < 3 by decide)).1 rfl rfl hl (Nat.le_of_ble_eq_true rfl) dX7_giftOf_7 ⟨⟨by decide, by decide⟩, by decide, by decide⟩ ?_
    refine lv_icmp_ge (tgt := 52) C.hx C.hb dX7_giftOf_10 (by decide) (fun c6 => ?_) (fun c6 => ?_)
    · refine lv_iconst (v := (-1)) C.hx C.hb dX7_giftOf_52 (by decide) ?_
      exact rI C hr dX7_giftOf_53 (by unfold s_X7_giftOf; first | (rw [if_neg hk1]; done) | simp only [if_neg hk1] | (simp only [if_neg hk1]; rfl))
    · exact absurd (le_eqn rfl) c6
def f_X7_askedOf_4_2 (x : Nat → Nat → Int32) (j : Nat) (y : YY) : Nat → Int32 → Int32 := fun i1 a => (a) + (s_X7_asNumber (if (s_X0_standOf x y i1 j) = 0 then 0 else 1 : Int32))
def s_X7_askedOf (x : XX) (y : YY) (j : Nat) : Int32 := itr (f_X7_askedOf_4_2 x j y) 0 (y 20 1)
set_option maxRecDepth 100000 in
set_option maxHeartbeats 1000000 in
theorem cC_X7_askedOf (l : Launch) (G : GG) (A : Nat → Prop) (ad : YY) (x : XX) (y : YY) (z : Nat → Int64) (hI : CI y) (j : Nat) (hj : j < 20) : MR l G yX7_askedOf cX7_askedOf 4 (some .int) 4 [.ref (ad 0 0), .ref (ad 2 j)] (CWd G A ad x y z) (some (.int (s_X7_askedOf x y j))) := by
  refine MR.of RX7 rfl (by decide) (Nat.le_of_ble_eq_true rfl) ?_
  intro p_ e_ s_ m_ args_ below_ meth_ c_ ls hargs C hr hnm hW hl
  obtain ⟨-, -, -, bP, bC, bG, bL⟩ := id hI
  have hl : lv_has ls 4 [(0, .ref (ad 0 0)), (1, .ref (ad 2 j))] := hl
  refine lv_iconst (v := 0) C.hx C.hb dX7_askedOf_0 (by decide) ?_
  refine lv_istore_n (lv' := [(2, .int 0), (0, .ref (ad 0 0)), (1, .ref (ad 2 j))]) C.hx C.hb dX7_askedOf_1 rfl hl (by decide) rfl (fun ls hl => ?_)
  refine lv_iconst (v := 0) C.hx C.hb dX7_askedOf_2 (by decide) ?_
  refine lv_istore_n (lv' := [(3, .int 0), (2, .int 0), (0, .ref (ad 0 0)), (1, .ref (ad 2 j))]) C.hx C.hb dX7_askedOf_3 rfl hl (by decide) rfl (fun ls hl => ?_)
  refine W.loopR (N := (y 20 1)) (Inv := fun i ls => lv_has ls 4 [(3, .int (nI i)), (2, .int (itr (f_X7_askedOf_4_2 x j y) 0 i)), (0, .ref (ad 0 0)), (1, .ref (ad 2 j))]) 4 [] (fun i1 ls hi1 hl K1 => ?_) (fun ls hl => ?_) 0 ls (Nat.zero_le _) (lv_sub hl [0, 1, 2, 3] rfl)
  · refine lv_iload_n C.hx C.hb dX7_askedOf_4 rfl (lv_at hl 0 rfl) ?_
    refine lv_aload_n C.hx C.hb dX7_askedOf_5 rfl (lv_at hl 2 rfl) ?_
    refine g_get (k := 3) (v := .ref (ad 7 1)) C (hW.1 0 0 rfl).1 rfl wu_X7 (by decide) wf_X7_28 rfl rfl dX7_askedOf_6 ?_
    refine kVR (As := []) (rest := [.int (nI i1)]) (v := .int (nI (y 20 1))) C (cJ_size l G (ad 7 1) _ (y 20 1) _) lk_X7_83 (g_recv C (hW.1 7 1 (show 1 < 3 by decide)).1 rfl) (hW.1 7 1 (show 1 < 3 by decide)).1 rfl rfl hl (Nat.le_of_ble_eq_true rfl) dX7_askedOf_9 ⟨⟨by decide, by decide⟩, by decide, by decide⟩ ?_
    refine lv_icmp_ge (tgt := 50) C.hx C.hb dX7_askedOf_12 (by decide) (fun c1 => ?_) (fun c1 => ?_)
    · exact absurd c1 (lt_nle rfl hi1 (by omega))
    · refine lv_iload_n C.hx C.hb dX7_askedOf_15 rfl (lv_at hl 1 rfl) ?_
      refine lv_aload_n C.hx C.hb dX7_askedOf_16 rfl (lv_at hl 2 rfl) ?_
      refine g_get (k := 3) (v := .ref (ad 7 1)) C (hW.1 0 0 rfl).1 rfl wu_X7 (by decide) wf_X7_28 rfl rfl dX7_askedOf_17 ?_
      refine lv_iload_n C.hx C.hb dX7_askedOf_20 rfl (lv_at hl 0 rfl) ?_
      refine kVR (As := [.int (nI i1)]) (rest := [.int (itr (f_X7_askedOf_4_2 x j y) 0 i1)]) (v := .ref (ad 4 i1)) C (cC_get l G ad x y hI 1 i1 (by decide) (by omega)) lk_X7_169 (g_recv C (hW.1 7 1 (show 1 < 3 by decide)).1 rfl) (CWd.ls hW hI 1 (by decide) (by omega)) rfl rfl hl (Nat.le_of_ble_eq_true rfl) dX7_askedOf_21 ⟨⟨by decide, by decide⟩, by decide, by decide⟩ ?_
      refine va_castS C.hx C.hb C.hown (C.hT _ wl_X7_105) (C.hK.1.1 1 _ rfl).2 (g_recv C (hW.1 4 i1 (show i1 < y 20 1 by omega)).1 rfl) dX7_askedOf_24 ?_
      refine lv_aload_n C.hx C.hb dX7_askedOf_27 rfl (lv_at hl 3 rfl) ?_
      refine kVNR (As := [.ref (ad 2 j)]) (rest := [.int (itr (f_X7_askedOf_4_2 x j y) 0 i1)]) (v := .int (s_X0_standOf x y i1 j)) C (cC_X0_standOf l G A ad x y z i1 j (by omega) (by omega)) lk_X7_354 (g_recv C (hW.1 4 i1 (show i1 < y 20 1 by omega)).1 rfl) hW rfl rfl hl (Nat.le_of_ble_eq_true rfl) dX7_askedOf_28 ⟨⟨by decide, by decide⟩, by decide, by decide⟩ ?_
      refine W.joinI (P := fun jv => jv = (if (s_X0_standOf x y i1 j) = 0 then 0 else 1 : Int32)) 39 ls [.int (itr (f_X7_askedOf_4_2 x j y) 0 i1)] (fun J3 => ?_) (fun v4 hv4 => ?_)
      · refine lv_if_eq (tgt := 38) C.hx C.hb dX7_askedOf_31 (by decide) (fun c2 => ?_) (fun c2 => ?_)
        · refine lv_iconst (v := 0) C.hx C.hb dX7_askedOf_38 (by decide) ?_
          exact J3 _ (by rw [if_pos c2])
        · refine lv_iconst (v := 1) C.hx C.hb dX7_askedOf_34 (by decide) ?_
          refine lv_goto (tgt := 39) C.hx C.hb dX7_askedOf_35 (by decide) ?_
          exact J3 _ (by rw [if_neg c2])
      · refine kSR (As := [.int v4]) (rest := [.int (itr (f_X7_askedOf_4_2 x j y) 0 i1)]) (v := .int (s_X7_asNumber v4)) C (cJ_X7_asNumber l G v4) lk_X7_136 trivial rfl rfl hl (Nat.le_of_ble_eq_true rfl) dX7_askedOf_39 ⟨⟨by decide, by decide⟩, by decide, by decide⟩ ?_
        refine lv_iadd C.hx C.hb dX7_askedOf_42 ?_
        refine lv_istore_n (lv' := [(2, .int ((itr (f_X7_askedOf_4_2 x j y) 0 i1) + (s_X7_asNumber v4))), (3, .int (nI i1)), (0, .ref (ad 0 0)), (1, .ref (ad 2 j))]) C.hx C.hb dX7_askedOf_43 rfl hl (by decide) rfl (fun ls hl => ?_)
        refine lv_iinc (v := (nI i1) + 1) (lv' := [(3, .int ((nI i1) + 1)), (2, .int ((itr (f_X7_askedOf_4_2 x j y) 0 i1) + (s_X7_asNumber v4))), (0, .ref (ad 0 0)), (1, .ref (ad 2 j))]) C.hx C.hb dX7_askedOf_44 hl (k := 1) rfl rfl (by decide) rfl (fun ls hl => ?_)
        refine lv_goto (tgt := 4) C.hx C.hb dX7_askedOf_47 (by decide) ?_
        rw [hv4] at hl
        rw [nI_1 i1] at hl
        exact K1 _ (lv_sub hl [0, 1, 2, 3] rfl)
  · refine lv_iload_n C.hx C.hb dX7_askedOf_4 rfl (lv_at hl 0 rfl) ?_
    refine lv_aload_n C.hx C.hb dX7_askedOf_5 rfl (lv_at hl 2 rfl) ?_
    refine g_get (k := 3) (v := .ref (ad 7 1)) C (hW.1 0 0 rfl).1 rfl wu_X7 (by decide) wf_X7_28 rfl rfl dX7_askedOf_6 ?_
    refine kVR (As := []) (rest := [.int (nI (y 20 1))]) (v := .int (nI (y 20 1))) C (cJ_size l G (ad 7 1) _ (y 20 1) _) lk_X7_83 (g_recv C (hW.1 7 1 (show 1 < 3 by decide)).1 rfl) (hW.1 7 1 (show 1 < 3 by decide)).1 rfl rfl hl (Nat.le_of_ble_eq_true rfl) dX7_askedOf_9 ⟨⟨by decide, by decide⟩, by decide, by decide⟩ ?_
    refine lv_icmp_ge (tgt := 50) C.hx C.hb dX7_askedOf_12 (by decide) (fun c5 => ?_) (fun c5 => ?_)
    · refine lv_iload_n C.hx C.hb dX7_askedOf_50 rfl (lv_at hl 1 rfl) ?_
      exact rI C hr dX7_askedOf_51 (by unfold s_X7_askedOf; with_reducible rfl)
    · exact absurd (le_eqn rfl) c5
def f_X7_stoodAlone_4_2 (x : Nat → Nat → Int32) (j : Nat) (y : YY) : Nat → Int32 → Int32 := fun i1 a => (a) + (s_X7_asNumber (if (s_X0_standOf x y i1 j) = 2 then 1 else 0 : Int32))
def s_X7_stoodAlone (x : XX) (y : YY) (j : Nat) : Int32 := itr (f_X7_stoodAlone_4_2 x j y) 0 (y 20 1)
set_option maxRecDepth 100000 in
set_option maxHeartbeats 1000000 in
theorem cC_X7_stoodAlone (l : Launch) (G : GG) (A : Nat → Prop) (ad : YY) (x : XX) (y : YY) (z : Nat → Int64) (hI : CI y) (j : Nat) (hj : j < 20) : MR l G yX7_stoodAlone cX7_stoodAlone 4 (some .int) 4 [.ref (ad 0 0), .ref (ad 2 j)] (CWd G A ad x y z) (some (.int (s_X7_stoodAlone x y j))) := by
  refine MR.of RX7 rfl (by decide) (Nat.le_of_ble_eq_true rfl) ?_
  intro p_ e_ s_ m_ args_ below_ meth_ c_ ls hargs C hr hnm hW hl
  obtain ⟨-, -, -, bP, bC, bG, bL⟩ := id hI
  have hl : lv_has ls 4 [(0, .ref (ad 0 0)), (1, .ref (ad 2 j))] := hl
  refine lv_iconst (v := 0) C.hx C.hb dX7_stoodAlone_0 (by decide) ?_
  refine lv_istore_n (lv' := [(2, .int 0), (0, .ref (ad 0 0)), (1, .ref (ad 2 j))]) C.hx C.hb dX7_stoodAlone_1 rfl hl (by decide) rfl (fun ls hl => ?_)
  refine lv_iconst (v := 0) C.hx C.hb dX7_stoodAlone_2 (by decide) ?_
  refine lv_istore_n (lv' := [(3, .int 0), (2, .int 0), (0, .ref (ad 0 0)), (1, .ref (ad 2 j))]) C.hx C.hb dX7_stoodAlone_3 rfl hl (by decide) rfl (fun ls hl => ?_)
  refine W.loopR (N := (y 20 1)) (Inv := fun i ls => lv_has ls 4 [(3, .int (nI i)), (2, .int (itr (f_X7_stoodAlone_4_2 x j y) 0 i)), (0, .ref (ad 0 0)), (1, .ref (ad 2 j))]) 4 [] (fun i1 ls hi1 hl K1 => ?_) (fun ls hl => ?_) 0 ls (Nat.zero_le _) (lv_sub hl [0, 1, 2, 3] rfl)
  · refine lv_iload_n C.hx C.hb dX7_stoodAlone_4 rfl (lv_at hl 0 rfl) ?_
    refine lv_aload_n C.hx C.hb dX7_stoodAlone_5 rfl (lv_at hl 2 rfl) ?_
    refine g_get (k := 3) (v := .ref (ad 7 1)) C (hW.1 0 0 rfl).1 rfl wu_X7 (by decide) wf_X7_28 rfl rfl dX7_stoodAlone_6 ?_
    refine kVR (As := []) (rest := [.int (nI i1)]) (v := .int (nI (y 20 1))) C (cJ_size l G (ad 7 1) _ (y 20 1) _) lk_X7_83 (g_recv C (hW.1 7 1 (show 1 < 3 by decide)).1 rfl) (hW.1 7 1 (show 1 < 3 by decide)).1 rfl rfl hl (Nat.le_of_ble_eq_true rfl) dX7_stoodAlone_9 ⟨⟨by decide, by decide⟩, by decide, by decide⟩ ?_
    refine lv_icmp_ge (tgt := 51) C.hx C.hb dX7_stoodAlone_12 (by decide) (fun c1 => ?_) (fun c1 => ?_)
    · exact absurd c1 (lt_nle rfl hi1 (by omega))
    · refine lv_iload_n C.hx C.hb dX7_stoodAlone_15 rfl (lv_at hl 1 rfl) ?_
      refine lv_aload_n C.hx C.hb dX7_stoodAlone_16 rfl (lv_at hl 2 rfl) ?_
      refine g_get (k := 3) (v := .ref (ad 7 1)) C (hW.1 0 0 rfl).1 rfl wu_X7 (by decide) wf_X7_28 rfl rfl dX7_stoodAlone_17 ?_
      refine lv_iload_n C.hx C.hb dX7_stoodAlone_20 rfl (lv_at hl 0 rfl) ?_
      refine kVR (As := [.int (nI i1)]) (rest := [.int (itr (f_X7_stoodAlone_4_2 x j y) 0 i1)]) (v := .ref (ad 4 i1)) C (cC_get l G ad x y hI 1 i1 (by decide) (by omega)) lk_X7_169 (g_recv C (hW.1 7 1 (show 1 < 3 by decide)).1 rfl) (CWd.ls hW hI 1 (by decide) (by omega)) rfl rfl hl (Nat.le_of_ble_eq_true rfl) dX7_stoodAlone_21 ⟨⟨by decide, by decide⟩, by decide, by decide⟩ ?_
      refine va_castS C.hx C.hb C.hown (C.hT _ wl_X7_105) (C.hK.1.1 1 _ rfl).2 (g_recv C (hW.1 4 i1 (show i1 < y 20 1 by omega)).1 rfl) dX7_stoodAlone_24 ?_
      refine lv_aload_n C.hx C.hb dX7_stoodAlone_27 rfl (lv_at hl 3 rfl) ?_
      refine kVNR (As := [.ref (ad 2 j)]) (rest := [.int (itr (f_X7_stoodAlone_4_2 x j y) 0 i1)]) (v := .int (s_X0_standOf x y i1 j)) C (cC_X0_standOf l G A ad x y z i1 j (by omega) (by omega)) lk_X7_354 (g_recv C (hW.1 4 i1 (show i1 < y 20 1 by omega)).1 rfl) hW rfl rfl hl (Nat.le_of_ble_eq_true rfl) dX7_stoodAlone_28 ⟨⟨by decide, by decide⟩, by decide, by decide⟩ ?_
      refine lv_iconst (v := 2) C.hx C.hb dX7_stoodAlone_31 (by decide) ?_
      refine W.joinI (P := fun jv => jv = (if (s_X0_standOf x y i1 j) = 2 then 1 else 0 : Int32)) 40 ls [.int (itr (f_X7_stoodAlone_4_2 x j y) 0 i1)] (fun J3 => ?_) (fun v4 hv4 => ?_)
      · refine lv_icmp_ne (tgt := 39) C.hx C.hb dX7_stoodAlone_32 (by decide) (fun c2 => ?_) (fun c2 => ?_)
        · refine lv_iconst (v := 0) C.hx C.hb dX7_stoodAlone_39 (by decide) ?_
          exact J3 _ (by rw [if_neg c2])
        · refine lv_iconst (v := 1) C.hx C.hb dX7_stoodAlone_35 (by decide) ?_
          refine lv_goto (tgt := 40) C.hx C.hb dX7_stoodAlone_36 (by decide) ?_
          exact J3 _ (by rw [if_pos c2])
      · refine kSR (As := [.int v4]) (rest := [.int (itr (f_X7_stoodAlone_4_2 x j y) 0 i1)]) (v := .int (s_X7_asNumber v4)) C (cJ_X7_asNumber l G v4) lk_X7_136 trivial rfl rfl hl (Nat.le_of_ble_eq_true rfl) dX7_stoodAlone_40 ⟨⟨by decide, by decide⟩, by decide, by decide⟩ ?_
        refine lv_iadd C.hx C.hb dX7_stoodAlone_43 ?_
        refine lv_istore_n (lv' := [(2, .int ((itr (f_X7_stoodAlone_4_2 x j y) 0 i1) + (s_X7_asNumber v4))), (3, .int (nI i1)), (0, .ref (ad 0 0)), (1, .ref (ad 2 j))]) C.hx C.hb dX7_stoodAlone_44 rfl hl (by decide) rfl (fun ls hl => ?_)
        refine lv_iinc (v := (nI i1) + 1) (lv' := [(3, .int ((nI i1) + 1)), (2, .int ((itr (f_X7_stoodAlone_4_2 x j y) 0 i1) + (s_X7_asNumber v4))), (0, .ref (ad 0 0)), (1, .ref (ad 2 j))]) C.hx C.hb dX7_stoodAlone_45 hl (k := 1) rfl rfl (by decide) rfl (fun ls hl => ?_)
        refine lv_goto (tgt := 4) C.hx C.hb dX7_stoodAlone_48 (by decide) ?_
        rw [hv4] at hl
        rw [nI_1 i1] at hl
        exact K1 _ (lv_sub hl [0, 1, 2, 3] rfl)
  · refine lv_iload_n C.hx C.hb dX7_stoodAlone_4 rfl (lv_at hl 0 rfl) ?_
    refine lv_aload_n C.hx C.hb dX7_stoodAlone_5 rfl (lv_at hl 2 rfl) ?_
    refine g_get (k := 3) (v := .ref (ad 7 1)) C (hW.1 0 0 rfl).1 rfl wu_X7 (by decide) wf_X7_28 rfl rfl dX7_stoodAlone_6 ?_
    refine kVR (As := []) (rest := [.int (nI (y 20 1))]) (v := .int (nI (y 20 1))) C (cJ_size l G (ad 7 1) _ (y 20 1) _) lk_X7_83 (g_recv C (hW.1 7 1 (show 1 < 3 by decide)).1 rfl) (hW.1 7 1 (show 1 < 3 by decide)).1 rfl rfl hl (Nat.le_of_ble_eq_true rfl) dX7_stoodAlone_9 ⟨⟨by decide, by decide⟩, by decide, by decide⟩ ?_
    refine lv_icmp_ge (tgt := 51) C.hx C.hb dX7_stoodAlone_12 (by decide) (fun c5 => ?_) (fun c5 => ?_)
    · refine lv_iload_n C.hx C.hb dX7_stoodAlone_51 rfl (lv_at hl 1 rfl) ?_
      exact rI C hr dX7_stoodAlone_52 (by unfold s_X7_stoodAlone; with_reducible rfl)
    · exact absurd (le_eqn rfl) c5
def f_X7_undecidedCases_4_1 (x : Nat → Nat → Int32) : Nat → Int32 → Int32 := fun i1 a => (a) + (s_X7_asNumber (s_X0_isUndecided x i1))
def s_X7_undecidedCases (x : XX) (y : YY) : Int32 := itr (f_X7_undecidedCases_4_1 x) 0 (y 20 1)
set_option maxRecDepth 100000 in
set_option maxHeartbeats 1000000 in
theorem cC_X7_undecidedCases (l : Launch) (G : GG) (A : Nat → Prop) (ad : YY) (x : XX) (y : YY) (z : Nat → Int64) (hI : CI y)   : MR l G yX7_undecidedCases cX7_undecidedCases 3 (some .int) 4 [.ref (ad 0 0)] (CWd G A ad x y z) (some (.int (s_X7_undecidedCases x y))) := by
  refine MR.of RX7 rfl (by decide) (Nat.le_of_ble_eq_true rfl) ?_
  intro p_ e_ s_ m_ args_ below_ meth_ c_ ls hargs C hr hnm hW hl
  obtain ⟨-, -, -, bP, bC, bG, bL⟩ := id hI
  have hl : lv_has ls 3 [(0, .ref (ad 0 0))] := hl
  refine lv_iconst (v := 0) C.hx C.hb dX7_undecidedCases_0 (by decide) ?_
  refine lv_istore_n (lv' := [(1, .int 0), (0, .ref (ad 0 0))]) C.hx C.hb dX7_undecidedCases_1 rfl hl (by decide) rfl (fun ls hl => ?_)
  refine lv_iconst (v := 0) C.hx C.hb dX7_undecidedCases_2 (by decide) ?_
  refine lv_istore_n (lv' := [(2, .int 0), (1, .int 0), (0, .ref (ad 0 0))]) C.hx C.hb dX7_undecidedCases_3 rfl hl (by decide) rfl (fun ls hl => ?_)
  refine W.loopR (N := (y 20 1)) (Inv := fun i ls => lv_has ls 3 [(2, .int (nI i)), (1, .int (itr (f_X7_undecidedCases_4_1 x) 0 i)), (0, .ref (ad 0 0))]) 4 [] (fun i1 ls hi1 hl K1 => ?_) (fun ls hl => ?_) 0 ls (Nat.zero_le _) (lv_sub hl [0, 1, 2] rfl)
  · refine lv_iload_n C.hx C.hb dX7_undecidedCases_4 rfl (lv_at hl 0 rfl) ?_
    refine lv_aload_n C.hx C.hb dX7_undecidedCases_5 rfl (lv_at hl 2 rfl) ?_
    refine g_get (k := 3) (v := .ref (ad 7 1)) C (hW.1 0 0 rfl).1 rfl wu_X7 (by decide) wf_X7_28 rfl rfl dX7_undecidedCases_6 ?_
    refine kVR (As := []) (rest := [.int (nI i1)]) (v := .int (nI (y 20 1))) C (cJ_size l G (ad 7 1) _ (y 20 1) _) lk_X7_83 (g_recv C (hW.1 7 1 (show 1 < 3 by decide)).1 rfl) (hW.1 7 1 (show 1 < 3 by decide)).1 rfl rfl hl (Nat.le_of_ble_eq_true rfl) dX7_undecidedCases_9 ⟨⟨by decide, by decide⟩, by decide, by decide⟩ ?_
    refine lv_icmp_ge (tgt := 41) C.hx C.hb dX7_undecidedCases_12 (by decide) (fun c1 => ?_) (fun c1 => ?_)
    · exact absurd c1 (lt_nle rfl hi1 (by omega))
    · refine lv_iload_n C.hx C.hb dX7_undecidedCases_15 rfl (lv_at hl 1 rfl) ?_
      refine lv_aload_n C.hx C.hb dX7_undecidedCases_16 rfl (lv_at hl 2 rfl) ?_
      refine g_get (k := 3) (v := .ref (ad 7 1)) C (hW.1 0 0 rfl).1 rfl wu_X7 (by decide) wf_X7_28 rfl rfl dX7_undecidedCases_17 ?_
      refine lv_iload_n C.hx C.hb dX7_undecidedCases_20 rfl (lv_at hl 0 rfl) ?_
      refine kVR (As := [.int (nI i1)]) (rest := [.int (itr (f_X7_undecidedCases_4_1 x) 0 i1)]) (v := .ref (ad 4 i1)) C (cC_get l G ad x y hI 1 i1 (by decide) (by omega)) lk_X7_169 (g_recv C (hW.1 7 1 (show 1 < 3 by decide)).1 rfl) (CWd.ls hW hI 1 (by decide) (by omega)) rfl rfl hl (Nat.le_of_ble_eq_true rfl) dX7_undecidedCases_21 ⟨⟨by decide, by decide⟩, by decide, by decide⟩ ?_
      refine va_castS C.hx C.hb C.hown (C.hT _ wl_X7_105) (C.hK.1.1 1 _ rfl).2 (g_recv C (hW.1 4 i1 (show i1 < y 20 1 by omega)).1 rfl) dX7_undecidedCases_24 ?_
      refine kVNR (As := []) (rest := [.int (itr (f_X7_undecidedCases_4_1 x) 0 i1)]) (v := .int (s_X0_isUndecided x i1)) C (cC_X0_isUndecided l G A ad x y z i1 (by omega)) lk_X7_227 (g_recv C (hW.1 4 i1 (show i1 < y 20 1 by omega)).1 rfl) hW rfl rfl hl (Nat.le_of_ble_eq_true rfl) dX7_undecidedCases_27 ⟨⟨by decide, by decide⟩, by decide, by decide⟩ ?_
      refine kSR (As := [.int (s_X0_isUndecided x i1)]) (rest := [.int (itr (f_X7_undecidedCases_4_1 x) 0 i1)]) (v := .int (s_X7_asNumber (s_X0_isUndecided x i1))) C (cJ_X7_asNumber l G (s_X0_isUndecided x i1)) lk_X7_136 trivial rfl rfl hl (Nat.le_of_ble_eq_true rfl) dX7_undecidedCases_30 ⟨⟨by decide, by decide⟩, by decide, by decide⟩ ?_
      refine lv_iadd C.hx C.hb dX7_undecidedCases_33 ?_
      refine lv_istore_n (lv' := [(1, .int ((itr (f_X7_undecidedCases_4_1 x) 0 i1) + (s_X7_asNumber (s_X0_isUndecided x i1)))), (2, .int (nI i1)), (0, .ref (ad 0 0))]) C.hx C.hb dX7_undecidedCases_34 rfl hl (by decide) rfl (fun ls hl => ?_)
      refine lv_iinc (v := (nI i1) + 1) (lv' := [(2, .int ((nI i1) + 1)), (1, .int ((itr (f_X7_undecidedCases_4_1 x) 0 i1) + (s_X7_asNumber (s_X0_isUndecided x i1)))), (0, .ref (ad 0 0))]) C.hx C.hb dX7_undecidedCases_35 hl (k := 1) rfl rfl (by decide) rfl (fun ls hl => ?_)
      refine lv_goto (tgt := 4) C.hx C.hb dX7_undecidedCases_38 (by decide) ?_
      rw [nI_1 i1] at hl
      exact K1 _ (lv_sub hl [0, 1, 2] rfl)
  · refine lv_iload_n C.hx C.hb dX7_undecidedCases_4 rfl (lv_at hl 0 rfl) ?_
    refine lv_aload_n C.hx C.hb dX7_undecidedCases_5 rfl (lv_at hl 2 rfl) ?_
    refine g_get (k := 3) (v := .ref (ad 7 1)) C (hW.1 0 0 rfl).1 rfl wu_X7 (by decide) wf_X7_28 rfl rfl dX7_undecidedCases_6 ?_
    refine kVR (As := []) (rest := [.int (nI (y 20 1))]) (v := .int (nI (y 20 1))) C (cJ_size l G (ad 7 1) _ (y 20 1) _) lk_X7_83 (g_recv C (hW.1 7 1 (show 1 < 3 by decide)).1 rfl) (hW.1 7 1 (show 1 < 3 by decide)).1 rfl rfl hl (Nat.le_of_ble_eq_true rfl) dX7_undecidedCases_9 ⟨⟨by decide, by decide⟩, by decide, by decide⟩ ?_
    refine lv_icmp_ge (tgt := 41) C.hx C.hb dX7_undecidedCases_12 (by decide) (fun c2 => ?_) (fun c2 => ?_)
    · refine lv_iload_n C.hx C.hb dX7_undecidedCases_41 rfl (lv_at hl 1 rfl) ?_
      exact rI C hr dX7_undecidedCases_42 (by unfold s_X7_undecidedCases; with_reducible rfl)
    · exact absurd (le_eqn rfl) c2
def f_X7_timesWarned_4_2 (x : Nat → Nat → Int32) (au : Int32) (y : YY) : Nat → Int32 → Int32 := fun i1 a => (a) + (s_X7_asNumber (if (x 12 (y 2 i1)) = au then (if (s_X0_guiltStands x i1) = 0 then 0 else (if (x 5 (y 3 i1)) < 1 then 0 else 1 : Int32) : Int32) else 0 : Int32))
def s_X7_timesWarned (x : XX) (y : YY) (au : Int32) : Int32 := itr (f_X7_timesWarned_4_2 x au y) 0 (y 20 1)
set_option maxRecDepth 100000 in
set_option maxHeartbeats 1000000 in
theorem cC_X7_timesWarned (l : Launch) (G : GG) (A : Nat → Prop) (ad : YY) (x : XX) (y : YY) (z : Nat → Int64) (hI : CI y) (au : Int32)  : MR l G yX7_timesWarned cX7_timesWarned 5 (some .int) 4 [.ref (ad 0 0), .int au] (CWd G A ad x y z) (some (.int (s_X7_timesWarned x y au))) := by
  refine MR.of RX7 rfl (by decide) (Nat.le_of_ble_eq_true rfl) ?_
  intro p_ e_ s_ m_ args_ below_ meth_ c_ ls hargs C hr hnm hW hl
  obtain ⟨-, -, -, bP, bC, bG, bL⟩ := id hI
  have hl : lv_has ls 5 [(0, .ref (ad 0 0)), (1, .int au)] := hl
  refine lv_iconst (v := 0) C.hx C.hb dX7_timesWarned_0 (by decide) ?_
  refine lv_istore_n (lv' := [(2, .int 0), (0, .ref (ad 0 0)), (1, .int au)]) C.hx C.hb dX7_timesWarned_1 rfl hl (by decide) rfl (fun ls hl => ?_)
  refine lv_iconst (v := 0) C.hx C.hb dX7_timesWarned_2 (by decide) ?_
  refine lv_istore_n (lv' := [(3, .int 0), (2, .int 0), (0, .ref (ad 0 0)), (1, .int au)]) C.hx C.hb dX7_timesWarned_3 rfl hl (by decide) rfl (fun ls hl => ?_)
  refine W.loopR (N := (y 20 1)) (Inv := fun i ls => lv_has ls 5 [(3, .int (nI i)), (2, .int (itr (f_X7_timesWarned_4_2 x au y) 0 i)), (0, .ref (ad 0 0)), (1, .int au)]) 4 [] (fun i1 ls hi1 hl K1 => ?_) (fun ls hl => ?_) 0 ls (Nat.zero_le _) (lv_sub hl [0, 1, 2, 3] rfl)
  · refine lv_iload_n C.hx C.hb dX7_timesWarned_4 rfl (lv_at hl 0 rfl) ?_
    refine lv_aload_n C.hx C.hb dX7_timesWarned_5 rfl (lv_at hl 2 rfl) ?_
    refine g_get (k := 3) (v := .ref (ad 7 1)) C (hW.1 0 0 rfl).1 rfl wu_X7 (by decide) wf_X7_28 rfl rfl dX7_timesWarned_6 ?_
    refine kVR (As := []) (rest := [.int (nI i1)]) (v := .int (nI (y 20 1))) C (cJ_size l G (ad 7 1) _ (y 20 1) _) lk_X7_83 (g_recv C (hW.1 7 1 (show 1 < 3 by decide)).1 rfl) (hW.1 7 1 (show 1 < 3 by decide)).1 rfl rfl hl (Nat.le_of_ble_eq_true rfl) dX7_timesWarned_9 ⟨⟨by decide, by decide⟩, by decide, by decide⟩ ?_
    refine lv_icmp_ge (tgt := 77) C.hx C.hb dX7_timesWarned_12 (by decide) (fun c1 => ?_) (fun c1 => ?_)
    · exact absurd c1 (lt_nle rfl hi1 (by omega))
    · refine lv_aload_n C.hx C.hb dX7_timesWarned_15 rfl (lv_at hl 2 rfl) ?_
      refine g_get (k := 3) (v := .ref (ad 7 1)) C (hW.1 0 0 rfl).1 rfl wu_X7 (by decide) wf_X7_28 rfl rfl dX7_timesWarned_16 ?_
      refine lv_iload_n C.hx C.hb dX7_timesWarned_19 rfl (lv_at hl 0 rfl) ?_
      refine kVR (As := [.int (nI i1)]) (rest := []) (v := .ref (ad 4 i1)) C (cC_get l G ad x y hI 1 i1 (by decide) (by omega)) lk_X7_169 (g_recv C (hW.1 7 1 (show 1 < 3 by decide)).1 rfl) (CWd.ls hW hI 1 (by decide) (by omega)) rfl rfl hl (Nat.le_of_ble_eq_true rfl) dX7_timesWarned_20 ⟨⟨by decide, by decide⟩, by decide, by decide⟩ ?_
      refine va_castS C.hx C.hb C.hown (C.hT _ wl_X7_105) (C.hK.1.1 1 _ rfl).2 (g_recv C (hW.1 4 i1 (show i1 < y 20 1 by omega)).1 rfl) dX7_timesWarned_23 ?_
      refine lv_astore (lv' := [(4, .ref (ad 4 i1)), (3, .int (nI i1)), (2, .int (itr (f_X7_timesWarned_4_2 x au y) 0 i1)), (0, .ref (ad 0 0)), (1, .int au)]) C.hx C.hb dX7_timesWarned_26 hl (by decide) rfl (fun ls hl => ?_)
      refine lv_iload_n C.hx C.hb dX7_timesWarned_28 rfl (lv_at hl 2 rfl) ?_
      refine lv_aload C.hx C.hb dX7_timesWarned_29 (lv_at hl 0 rfl) ?_
      refine g_getN (k := 1) (v := .ref (ad 3 (y 2 i1))) C (hW.1 4 i1 (show i1 < y 20 1 by omega)).1 rfl wu_X0 (by decide) wn_X7_217 rfl rfl dX7_timesWarned_31 ?_
      have g2 := (hI.1 i1 (by omega)).1
      refine g_getN (k := 1) (v := .int (x 12 (y 2 i1))) C (hW.1 3 (y 2 i1) (show (y 2 i1) < y 20 0 by omega)).1 rfl wu_X5 (by decide) wn_X7_298 rfl rfl dX7_timesWarned_34 ?_
      refine lv_iload_n C.hx C.hb dX7_timesWarned_37 rfl (lv_at hl 4 rfl) ?_
      refine W.joinI (P := fun jv => jv = (if (x 12 (y 2 i1)) = au then (if (s_X0_guiltStands x i1) = 0 then 0 else (if (x 5 (y 3 i1)) < 1 then 0 else 1 : Int32) : Int32) else 0 : Int32)) 66 ls [.int (itr (f_X7_timesWarned_4_2 x au y) 0 i1)] (fun J7 => ?_) (fun v8 hv8 => ?_)
      · refine lv_icmp_ne (tgt := 65) C.hx C.hb dX7_timesWarned_38 (by decide) (fun c3 => ?_) (fun c3 => ?_)
        · refine lv_iconst (v := 0) C.hx C.hb dX7_timesWarned_65 (by decide) ?_
          exact J7 _ (by rw [if_neg c3])
        · refine lv_aload C.hx C.hb dX7_timesWarned_41 (lv_at hl 0 rfl) ?_
          refine kVNR (As := []) (rest := [.int (itr (f_X7_timesWarned_4_2 x au y) 0 i1)]) (v := .int (s_X0_guiltStands x i1)) C (cC_X0_guiltStands l G A ad x y z i1 (by omega)) lk_X7_368 (g_recv C (hW.1 4 i1 (show i1 < y 20 1 by omega)).1 rfl) hW rfl rfl hl (Nat.le_of_ble_eq_true rfl) dX7_timesWarned_43 ⟨⟨by decide, by decide⟩, by decide, by decide⟩ ?_
          refine lv_if_eq (tgt := 65) C.hx C.hb dX7_timesWarned_46 (by decide) (fun c4 => ?_) (fun c4 => ?_)
          · refine lv_iconst (v := 0) C.hx C.hb dX7_timesWarned_65 (by decide) ?_
            exact J7 _ (by rw [if_pos c3, if_pos c4])
          · refine lv_aload C.hx C.hb dX7_timesWarned_49 (lv_at hl 0 rfl) ?_
            refine g_getN (k := 2) (v := .ref (ad 1 (y 3 i1))) C (hW.1 4 i1 (show i1 < y 20 1 by omega)).1 rfl wu_X0 (by decide) wn_X7_222 rfl rfl dX7_timesWarned_51 ?_
            have g5 := (hI.1 i1 (by omega)).2.1
            refine g_getN (k := 3) (v := .int (x 5 (y 3 i1))) C (hW.1 1 (y 3 i1) (show (y 3 i1) < 8 by omega)).1 rfl wu_X6 (by decide) wn_X7_74 rfl rfl dX7_timesWarned_54 ?_
            refine lv_iconst (v := 1) C.hx C.hb dX7_timesWarned_57 (by decide) ?_
            refine lv_icmp_lt (tgt := 65) C.hx C.hb dX7_timesWarned_58 (by decide) (fun c6 => ?_) (fun c6 => ?_)
            · refine lv_iconst (v := 0) C.hx C.hb dX7_timesWarned_65 (by decide) ?_
              exact J7 _ (by rw [if_pos c3, if_neg c4, if_pos c6])
            · refine lv_iconst (v := 1) C.hx C.hb dX7_timesWarned_61 (by decide) ?_
              refine lv_goto (tgt := 66) C.hx C.hb dX7_timesWarned_62 (by decide) ?_
              exact J7 _ (by rw [if_pos c3, if_neg c4, if_neg c6])
      · refine kSR (As := [.int v8]) (rest := [.int (itr (f_X7_timesWarned_4_2 x au y) 0 i1)]) (v := .int (s_X7_asNumber v8)) C (cJ_X7_asNumber l G v8) lk_X7_136 trivial rfl rfl hl (Nat.le_of_ble_eq_true rfl) dX7_timesWarned_66 ⟨⟨by decide, by decide⟩, by decide, by decide⟩ ?_
        refine lv_iadd C.hx C.hb dX7_timesWarned_69 ?_
        refine lv_istore_n (lv' := [(2, .int ((itr (f_X7_timesWarned_4_2 x au y) 0 i1) + (s_X7_asNumber v8))), (4, .ref (ad 4 i1)), (3, .int (nI i1)), (0, .ref (ad 0 0)), (1, .int au)]) C.hx C.hb dX7_timesWarned_70 rfl hl (by decide) rfl (fun ls hl => ?_)
        refine lv_iinc (v := (nI i1) + 1) (lv' := [(3, .int ((nI i1) + 1)), (2, .int ((itr (f_X7_timesWarned_4_2 x au y) 0 i1) + (s_X7_asNumber v8))), (4, .ref (ad 4 i1)), (0, .ref (ad 0 0)), (1, .int au)]) C.hx C.hb dX7_timesWarned_71 hl (k := 2) rfl rfl (by decide) rfl (fun ls hl => ?_)
        refine lv_goto (tgt := 4) C.hx C.hb dX7_timesWarned_74 (by decide) ?_
        rw [hv8] at hl
        rw [nI_1 i1] at hl
        exact K1 _ (lv_sub hl [0, 1, 3, 4] rfl)
  · refine lv_iload_n C.hx C.hb dX7_timesWarned_4 rfl (lv_at hl 0 rfl) ?_
    refine lv_aload_n C.hx C.hb dX7_timesWarned_5 rfl (lv_at hl 2 rfl) ?_
    refine g_get (k := 3) (v := .ref (ad 7 1)) C (hW.1 0 0 rfl).1 rfl wu_X7 (by decide) wf_X7_28 rfl rfl dX7_timesWarned_6 ?_
    refine kVR (As := []) (rest := [.int (nI (y 20 1))]) (v := .int (nI (y 20 1))) C (cJ_size l G (ad 7 1) _ (y 20 1) _) lk_X7_83 (g_recv C (hW.1 7 1 (show 1 < 3 by decide)).1 rfl) (hW.1 7 1 (show 1 < 3 by decide)).1 rfl rfl hl (Nat.le_of_ble_eq_true rfl) dX7_timesWarned_9 ⟨⟨by decide, by decide⟩, by decide, by decide⟩ ?_
    refine lv_icmp_ge (tgt := 77) C.hx C.hb dX7_timesWarned_12 (by decide) (fun c9 => ?_) (fun c9 => ?_)
    · refine lv_iload_n C.hx C.hb dX7_timesWarned_77 rfl (lv_at hl 1 rfl) ?_
      exact rI C hr dX7_timesWarned_78 (by unfold s_X7_timesWarned; with_reducible rfl)
    · exact absurd (le_eqn rfl) c9
def f_X7_postsOf_5_3 (x : Nat → Nat → Int32) (au : Int32) (hid : Int32) (y : YY) : Nat → Int32 → Int32 := fun i1 a => (a) + (s_X7_asNumber (if (x 12 i1) = au then (if hid = 0 then 1 else (if (s_X5_isHidden x y i1) = 0 then 0 else 1 : Int32) : Int32) else 0 : Int32))
def s_X7_postsOf (x : XX) (y : YY) (au : Int32) (hid : Int32) : Int32 := itr (f_X7_postsOf_5_3 x au hid y) 0 (y 20 0)
set_option maxRecDepth 100000 in
set_option maxHeartbeats 1000000 in
theorem cC_X7_postsOf (l : Launch) (G : GG) (A : Nat → Prop) (ad : YY) (x : XX) (y : YY) (z : Nat → Int64) (hI : CI y) (hL : CL y) (au : Int32) (hid : Int32)  : MR l G yX7_postsOf cX7_postsOf 6 (some .int) 4 [.ref (ad 0 0), .int au, .int hid] (CWd G A ad x y z) (some (.int (s_X7_postsOf x y au hid))) := by
  refine MR.of RX7 rfl (by decide) (Nat.le_of_ble_eq_true rfl) ?_
  intro p_ e_ s_ m_ args_ below_ meth_ c_ ls hargs C hr hnm hW hl
  obtain ⟨-, -, -, bP, bC, bG, bL⟩ := id hI
  have hl : lv_has ls 6 [(0, .ref (ad 0 0)), (1, .int au), (2, .int hid)] := hl
  refine lv_iconst (v := 0) C.hx C.hb dX7_postsOf_0 (by decide) ?_
  refine lv_istore_n (lv' := [(3, .int 0), (0, .ref (ad 0 0)), (1, .int au), (2, .int hid)]) C.hx C.hb dX7_postsOf_1 rfl hl (by decide) rfl (fun ls hl => ?_)
  refine lv_iconst (v := 0) C.hx C.hb dX7_postsOf_2 (by decide) ?_
  refine lv_istore (lv' := [(4, .int 0), (3, .int 0), (0, .ref (ad 0 0)), (1, .int au), (2, .int hid)]) C.hx C.hb dX7_postsOf_3 hl (by decide) rfl (fun ls hl => ?_)
  refine W.loopR (N := (y 20 0)) (Inv := fun i ls => lv_has ls 6 [(4, .int (nI i)), (3, .int (itr (f_X7_postsOf_5_3 x au hid y) 0 i)), (0, .ref (ad 0 0)), (1, .int au), (2, .int hid)]) 5 [] (fun i1 ls hi1 hl K1 => ?_) (fun ls hl => ?_) 0 ls (Nat.zero_le _) (lv_sub hl [0, 1, 2, 3, 4] rfl)
  · refine lv_iload C.hx C.hb dX7_postsOf_5 (lv_at hl 0 rfl) ?_
    refine lv_aload_n C.hx C.hb dX7_postsOf_7 rfl (lv_at hl 2 rfl) ?_
    refine g_get (k := 2) (v := .ref (ad 7 0)) C (hW.1 0 0 rfl).1 rfl wu_X7 (by decide) wf_X7_24 rfl rfl dX7_postsOf_8 ?_
    refine kVR (As := []) (rest := [.int (nI i1)]) (v := .int (nI (y 20 0))) C (cJ_size l G (ad 7 0) _ (y 20 0) _) lk_X7_83 (g_recv C (hW.1 7 0 (show 0 < 3 by decide)).1 rfl) (hW.1 7 0 (show 0 < 3 by decide)).1 rfl rfl hl (Nat.le_of_ble_eq_true rfl) dX7_postsOf_11 ⟨⟨by decide, by decide⟩, by decide, by decide⟩ ?_
    refine lv_icmp_ge (tgt := 69) C.hx C.hb dX7_postsOf_14 (by decide) (fun c1 => ?_) (fun c1 => ?_)
    · exact absurd c1 (lt_nle rfl hi1 (by omega))
    · refine lv_aload_n C.hx C.hb dX7_postsOf_17 rfl (lv_at hl 2 rfl) ?_
      refine g_get (k := 2) (v := .ref (ad 7 0)) C (hW.1 0 0 rfl).1 rfl wu_X7 (by decide) wf_X7_24 rfl rfl dX7_postsOf_18 ?_
      refine lv_iload C.hx C.hb dX7_postsOf_21 (lv_at hl 0 rfl) ?_
      refine kVR (As := [.int (nI i1)]) (rest := []) (v := .ref (ad 3 i1)) C (cC_get l G ad x y hI 0 i1 (by decide) (by omega)) lk_X7_169 (g_recv C (hW.1 7 0 (show 0 < 3 by decide)).1 rfl) (CWd.ls hW hI 0 (by decide) (by omega)) rfl rfl hl (Nat.le_of_ble_eq_true rfl) dX7_postsOf_23 ⟨⟨by decide, by decide⟩, by decide, by decide⟩ ?_
      refine va_castS C.hx C.hb C.hown (C.hT _ wl_X7_87) (C.hK.1.1 6 _ rfl).2 (g_recv C (hW.1 3 i1 (show i1 < y 20 0 by omega)).1 rfl) dX7_postsOf_26 ?_
      refine lv_astore (lv' := [(5, .ref (ad 3 i1)), (4, .int (nI i1)), (3, .int (itr (f_X7_postsOf_5_3 x au hid y) 0 i1)), (0, .ref (ad 0 0)), (1, .int au), (2, .int hid)]) C.hx C.hb dX7_postsOf_29 hl (by decide) rfl (fun ls hl => ?_)
      refine lv_iload_n C.hx C.hb dX7_postsOf_31 rfl (lv_at hl 2 rfl) ?_
      refine lv_aload C.hx C.hb dX7_postsOf_32 (lv_at hl 0 rfl) ?_
      refine g_getN (k := 1) (v := .int (x 12 i1)) C (hW.1 3 i1 (show i1 < y 20 0 by omega)).1 rfl wu_X5 (by decide) wn_X7_298 rfl rfl dX7_postsOf_34 ?_
      refine lv_iload_n C.hx C.hb dX7_postsOf_37 rfl (lv_at hl 4 rfl) ?_
      refine W.joinI (P := fun jv => jv = (if (x 12 i1) = au then (if hid = 0 then 1 else (if (s_X5_isHidden x y i1) = 0 then 0 else 1 : Int32) : Int32) else 0 : Int32)) 58 ls [.int (itr (f_X7_postsOf_5_3 x au hid y) 0 i1)] (fun J5 => ?_) (fun v6 hv6 => ?_)
      · refine lv_icmp_ne (tgt := 57) C.hx C.hb dX7_postsOf_38 (by decide) (fun c2 => ?_) (fun c2 => ?_)
        · refine lv_iconst (v := 0) C.hx C.hb dX7_postsOf_57 (by decide) ?_
          exact J5 _ (by rw [if_neg c2])
        · refine lv_iload_n C.hx C.hb dX7_postsOf_41 rfl (lv_at hl 5 rfl) ?_
          refine lv_if_eq (tgt := 53) C.hx C.hb dX7_postsOf_42 (by decide) (fun c3 => ?_) (fun c3 => ?_)
          · refine lv_iconst (v := 1) C.hx C.hb dX7_postsOf_53 (by decide) ?_
            refine lv_goto (tgt := 58) C.hx C.hb dX7_postsOf_54 (by decide) ?_
            exact J5 _ (by rw [if_pos c2, if_pos c3])
          · refine lv_aload C.hx C.hb dX7_postsOf_45 (lv_at hl 0 rfl) ?_
            refine kVNR (As := []) (rest := [.int (itr (f_X7_postsOf_5_3 x au hid y) 0 i1)]) (v := .int (s_X5_isHidden x y i1)) C (cC_X5_isHidden l G A ad x y z hI hL i1 (by omega)) lk_X7_304 (g_recv C (hW.1 3 i1 (show i1 < y 20 0 by omega)).1 rfl) hW rfl rfl hl (Nat.le_of_ble_eq_true rfl) dX7_postsOf_47 ⟨⟨by decide, by decide⟩, by decide, by decide⟩ ?_
            refine lv_if_eq (tgt := 57) C.hx C.hb dX7_postsOf_50 (by decide) (fun c4 => ?_) (fun c4 => ?_)
            · refine lv_iconst (v := 0) C.hx C.hb dX7_postsOf_57 (by decide) ?_
              exact J5 _ (by rw [if_pos c2, if_neg c3, if_pos c4])
            · refine lv_iconst (v := 1) C.hx C.hb dX7_postsOf_53 (by decide) ?_
              refine lv_goto (tgt := 58) C.hx C.hb dX7_postsOf_54 (by decide) ?_
              exact J5 _ (by rw [if_pos c2, if_neg c3, if_neg c4])
      · refine kSR (As := [.int v6]) (rest := [.int (itr (f_X7_postsOf_5_3 x au hid y) 0 i1)]) (v := .int (s_X7_asNumber v6)) C (cJ_X7_asNumber l G v6) lk_X7_136 trivial rfl rfl hl (Nat.le_of_ble_eq_true rfl) dX7_postsOf_58 ⟨⟨by decide, by decide⟩, by decide, by decide⟩ ?_
        refine lv_iadd C.hx C.hb dX7_postsOf_61 ?_
        refine lv_istore_n (lv' := [(3, .int ((itr (f_X7_postsOf_5_3 x au hid y) 0 i1) + (s_X7_asNumber v6))), (5, .ref (ad 3 i1)), (4, .int (nI i1)), (0, .ref (ad 0 0)), (1, .int au), (2, .int hid)]) C.hx C.hb dX7_postsOf_62 rfl hl (by decide) rfl (fun ls hl => ?_)
        refine lv_iinc (v := (nI i1) + 1) (lv' := [(4, .int ((nI i1) + 1)), (3, .int ((itr (f_X7_postsOf_5_3 x au hid y) 0 i1) + (s_X7_asNumber v6))), (5, .ref (ad 3 i1)), (0, .ref (ad 0 0)), (1, .int au), (2, .int hid)]) C.hx C.hb dX7_postsOf_63 hl (k := 2) rfl rfl (by decide) rfl (fun ls hl => ?_)
        refine lv_goto (tgt := 5) C.hx C.hb dX7_postsOf_66 (by decide) ?_
        rw [hv6] at hl
        rw [nI_1 i1] at hl
        exact K1 _ (lv_sub hl [0, 1, 3, 4, 5] rfl)
  · refine lv_iload C.hx C.hb dX7_postsOf_5 (lv_at hl 0 rfl) ?_
    refine lv_aload_n C.hx C.hb dX7_postsOf_7 rfl (lv_at hl 2 rfl) ?_
    refine g_get (k := 2) (v := .ref (ad 7 0)) C (hW.1 0 0 rfl).1 rfl wu_X7 (by decide) wf_X7_24 rfl rfl dX7_postsOf_8 ?_
    refine kVR (As := []) (rest := [.int (nI (y 20 0))]) (v := .int (nI (y 20 0))) C (cJ_size l G (ad 7 0) _ (y 20 0) _) lk_X7_83 (g_recv C (hW.1 7 0 (show 0 < 3 by decide)).1 rfl) (hW.1 7 0 (show 0 < 3 by decide)).1 rfl rfl hl (Nat.le_of_ble_eq_true rfl) dX7_postsOf_11 ⟨⟨by decide, by decide⟩, by decide, by decide⟩ ?_
    refine lv_icmp_ge (tgt := 69) C.hx C.hb dX7_postsOf_14 (by decide) (fun c7 => ?_) (fun c7 => ?_)
    · refine lv_iload_n C.hx C.hb dX7_postsOf_69 rfl (lv_at hl 1 rfl) ?_
      exact rI C hr dX7_postsOf_70 (by unfold s_X7_postsOf; with_reducible rfl)
    · exact absurd (le_eqn rfl) c7
def f_X7_alike_6_4 (x : Nat → Nat → Int32) (most : Int32) (gui : Int32) (c : Nat) (y : YY) : Nat → Int32 → Int32 := fun i1 a => (if i1 = c then a else (if (s_X0_isAlike x y i1 c most) = 0 then a else (if (s_X0_guiltStands x i1) = gui then (a) + 1 else a : Int32) : Int32) : Int32)
def s_X7_alike (x : XX) (y : YY) (c : Nat) (most : Int32) (gui : Int32) : Int32 := itr (f_X7_alike_6_4 x most gui c y) 0 (y 20 1)
set_option maxRecDepth 100000 in
set_option maxHeartbeats 1000000 in
theorem cC_X7_alike (l : Launch) (G : GG) (A : Nat → Prop) (ad : YY) (x : XX) (y : YY) (z : Nat → Int64) (hI : CI y) (c : Nat) (most : Int32) (gui : Int32) (hc : c < y 20 1) : MR l G yX7_alike cX7_alike 7 (some .int) 4 [.ref (ad 0 0), .ref (ad 4 c), .int most, .int gui] (CWd G A ad x y z) (some (.int (s_X7_alike x y c most gui))) := by
  refine MR.of RX7 rfl (by decide) (Nat.le_of_ble_eq_true rfl) ?_
  intro p_ e_ s_ m_ args_ below_ meth_ c_ ls hargs C hr hnm hW hl
  obtain ⟨-, -, -, bP, bC, bG, bL⟩ := id hI
  have hl : lv_has ls 7 [(0, .ref (ad 0 0)), (1, .ref (ad 4 c)), (2, .int most), (3, .int gui)] := hl
  refine lv_iconst (v := 0) C.hx C.hb dX7_alike_0 (by decide) ?_
  refine lv_istore (lv' := [(4, .int 0), (0, .ref (ad 0 0)), (1, .ref (ad 4 c)), (2, .int most), (3, .int gui)]) C.hx C.hb dX7_alike_1 hl (by decide) rfl (fun ls hl => ?_)
  refine lv_iconst (v := 0) C.hx C.hb dX7_alike_3 (by decide) ?_
  refine lv_istore (lv' := [(5, .int 0), (4, .int 0), (0, .ref (ad 0 0)), (1, .ref (ad 4 c)), (2, .int most), (3, .int gui)]) C.hx C.hb dX7_alike_4 hl (by decide) rfl (fun ls hl => ?_)
  refine W.loopR (N := (y 20 1)) (Inv := fun i ls => lv_has ls 7 [(5, .int (nI i)), (4, .int (itr (f_X7_alike_6_4 x most gui c y) 0 i)), (0, .ref (ad 0 0)), (1, .ref (ad 4 c)), (2, .int most), (3, .int gui)]) 6 [] (fun i1 ls hi1 hl K1 => ?_) (fun ls hl => ?_) 0 ls (Nat.zero_le _) (lv_sub hl [0, 1, 2, 3, 4, 5] rfl)
  · refine lv_iload C.hx C.hb dX7_alike_6 (lv_at hl 0 rfl) ?_
    refine lv_aload_n C.hx C.hb dX7_alike_8 rfl (lv_at hl 2 rfl) ?_
    refine g_get (k := 3) (v := .ref (ad 7 1)) C (hW.1 0 0 rfl).1 rfl wu_X7 (by decide) wf_X7_28 rfl rfl dX7_alike_9 ?_
    refine kVR (As := []) (rest := [.int (nI i1)]) (v := .int (nI (y 20 1))) C (cJ_size l G (ad 7 1) _ (y 20 1) _) lk_X7_83 (g_recv C (hW.1 7 1 (show 1 < 3 by decide)).1 rfl) (hW.1 7 1 (show 1 < 3 by decide)).1 rfl rfl hl (Nat.le_of_ble_eq_true rfl) dX7_alike_12 ⟨⟨by decide, by decide⟩, by decide, by decide⟩ ?_
    refine lv_icmp_ge (tgt := 66) C.hx C.hb dX7_alike_15 (by decide) (fun c1 => ?_) (fun c1 => ?_)
    · exact absurd c1 (lt_nle rfl hi1 (by omega))
    · refine lv_aload_n C.hx C.hb dX7_alike_18 rfl (lv_at hl 2 rfl) ?_
      refine g_get (k := 3) (v := .ref (ad 7 1)) C (hW.1 0 0 rfl).1 rfl wu_X7 (by decide) wf_X7_28 rfl rfl dX7_alike_19 ?_
      refine lv_iload C.hx C.hb dX7_alike_22 (lv_at hl 0 rfl) ?_
      refine kVR (As := [.int (nI i1)]) (rest := []) (v := .ref (ad 4 i1)) C (cC_get l G ad x y hI 1 i1 (by decide) (by omega)) lk_X7_169 (g_recv C (hW.1 7 1 (show 1 < 3 by decide)).1 rfl) (CWd.ls hW hI 1 (by decide) (by omega)) rfl rfl hl (Nat.le_of_ble_eq_true rfl) dX7_alike_24 ⟨⟨by decide, by decide⟩, by decide, by decide⟩ ?_
      refine va_castS C.hx C.hb C.hown (C.hT _ wl_X7_105) (C.hK.1.1 1 _ rfl).2 (g_recv C (hW.1 4 i1 (show i1 < y 20 1 by omega)).1 rfl) dX7_alike_27 ?_
      refine lv_astore (lv' := [(6, .ref (ad 4 i1)), (5, .int (nI i1)), (4, .int (itr (f_X7_alike_6_4 x most gui c y) 0 i1)), (0, .ref (ad 0 0)), (1, .ref (ad 4 c)), (2, .int most), (3, .int gui)]) C.hx C.hb dX7_alike_30 hl (by decide) rfl (fun ls hl => ?_)
      refine lv_aload C.hx C.hb dX7_alike_32 (lv_at hl 0 rfl) ?_
      refine lv_aload_n C.hx C.hb dX7_alike_34 rfl (lv_at hl 4 rfl) ?_
      refine W.joinL (P := fun ls => lv_has ls 7 [(6, .ref (ad 4 i1)), (5, .int (nI i1)), (4, .int ((if i1 = c then itr (f_X7_alike_6_4 x most gui c y) 0 i1 else (if (s_X0_isAlike x y i1 c most) = 0 then itr (f_X7_alike_6_4 x most gui c y) 0 i1 else (if (s_X0_guiltStands x i1) = gui then (itr (f_X7_alike_6_4 x most gui c y) 0 i1) + 1 else itr (f_X7_alike_6_4 x most gui c y) 0 i1 : Int32) : Int32) : Int32))), (0, .ref (ad 0 0)), (1, .ref (ad 4 c)), (2, .int most), (3, .int gui)]) 60 [] (fun J5 => ?_) (fun ls hl => ?_)
      · refine g_acmp_eq (g := ad 4) (i := i1) (j := c) (fun q => (hW.2.1 4 i1 4 c (show i1 < y 20 1 by omega) (show c < y 20 1 by omega) q).2) (tgt := 60) C.hx C.hb dX7_alike_35 (by decide) (fun c2 => ?_) (fun c2 => ?_)
        · exact J5 _ (by rw [show (if i1 = c then itr (f_X7_alike_6_4 x most gui c y) 0 i1 else (if (s_X0_isAlike x y i1 c most) = 0 then itr (f_X7_alike_6_4 x most gui c y) 0 i1 else (if (s_X0_guiltStands x i1) = gui then (itr (f_X7_alike_6_4 x most gui c y) 0 i1) + 1 else itr (f_X7_alike_6_4 x most gui c y) 0 i1 : Int32) : Int32) : Int32) = itr (f_X7_alike_6_4 x most gui c y) 0 i1 from by rw [if_pos c2]]; exact lv_sub hl [0, 1, 2, 3, 4, 5, 6] rfl)
        · refine lv_aload C.hx C.hb dX7_alike_38 (lv_at hl 0 rfl) ?_
          refine lv_aload_n C.hx C.hb dX7_alike_40 rfl (lv_at hl 4 rfl) ?_
          refine lv_iload_n C.hx C.hb dX7_alike_41 rfl (lv_at hl 5 rfl) ?_
          refine kVNR (As := [.ref (ad 4 c), .int most]) (rest := []) (v := .int (s_X0_isAlike x y i1 c most)) C (cC_X0_isAlike l G A ad x y z hI i1 c most (by omega) (by omega)) lk_X7_364 (g_recv C (hW.1 4 i1 (show i1 < y 20 1 by omega)).1 rfl) hW rfl rfl hl (Nat.le_of_ble_eq_true rfl) dX7_alike_42 ⟨⟨by decide, by decide⟩, by decide, by decide⟩ ?_
          refine lv_if_eq (tgt := 60) C.hx C.hb dX7_alike_45 (by decide) (fun c3 => ?_) (fun c3 => ?_)
          · exact J5 _ (by rw [show (if i1 = c then itr (f_X7_alike_6_4 x most gui c y) 0 i1 else (if (s_X0_isAlike x y i1 c most) = 0 then itr (f_X7_alike_6_4 x most gui c y) 0 i1 else (if (s_X0_guiltStands x i1) = gui then (itr (f_X7_alike_6_4 x most gui c y) 0 i1) + 1 else itr (f_X7_alike_6_4 x most gui c y) 0 i1 : Int32) : Int32) : Int32) = itr (f_X7_alike_6_4 x most gui c y) 0 i1 from by rw [if_neg c2, if_pos c3]]; exact lv_sub hl [0, 1, 2, 3, 4, 5, 6] rfl)
          · refine lv_aload C.hx C.hb dX7_alike_48 (lv_at hl 0 rfl) ?_
            refine kVNR (As := []) (rest := []) (v := .int (s_X0_guiltStands x i1)) C (cC_X0_guiltStands l G A ad x y z i1 (by omega)) lk_X7_368 (g_recv C (hW.1 4 i1 (show i1 < y 20 1 by omega)).1 rfl) hW rfl rfl hl (Nat.le_of_ble_eq_true rfl) dX7_alike_50 ⟨⟨by decide, by decide⟩, by decide, by decide⟩ ?_
            refine lv_iload_n C.hx C.hb dX7_alike_53 rfl (lv_at hl 6 rfl) ?_
            refine lv_icmp_ne (tgt := 60) C.hx C.hb dX7_alike_54 (by decide) (fun c4 => ?_) (fun c4 => ?_)
            · exact J5 _ (by rw [show (if i1 = c then itr (f_X7_alike_6_4 x most gui c y) 0 i1 else (if (s_X0_isAlike x y i1 c most) = 0 then itr (f_X7_alike_6_4 x most gui c y) 0 i1 else (if (s_X0_guiltStands x i1) = gui then (itr (f_X7_alike_6_4 x most gui c y) 0 i1) + 1 else itr (f_X7_alike_6_4 x most gui c y) 0 i1 : Int32) : Int32) : Int32) = itr (f_X7_alike_6_4 x most gui c y) 0 i1 from by rw [if_neg c2, if_neg c3, if_neg c4]]; exact lv_sub hl [0, 1, 2, 3, 4, 5, 6] rfl)
            · refine lv_iinc (v := (itr (f_X7_alike_6_4 x most gui c y) 0 i1) + 1) (lv' := [(4, .int ((itr (f_X7_alike_6_4 x most gui c y) 0 i1) + 1)), (6, .ref (ad 4 i1)), (5, .int (nI i1)), (0, .ref (ad 0 0)), (1, .ref (ad 4 c)), (2, .int most), (3, .int gui)]) C.hx C.hb dX7_alike_57 hl (k := 2) rfl rfl (by decide) rfl (fun ls hl => ?_)
              exact J5 _ (by rw [show (if i1 = c then itr (f_X7_alike_6_4 x most gui c y) 0 i1 else (if (s_X0_isAlike x y i1 c most) = 0 then itr (f_X7_alike_6_4 x most gui c y) 0 i1 else (if (s_X0_guiltStands x i1) = gui then (itr (f_X7_alike_6_4 x most gui c y) 0 i1) + 1 else itr (f_X7_alike_6_4 x most gui c y) 0 i1 : Int32) : Int32) : Int32) = (itr (f_X7_alike_6_4 x most gui c y) 0 i1) + 1 from by rw [if_neg c2, if_neg c3, if_pos c4]]; exact lv_sub hl [1, 2, 0, 3, 4, 5, 6] rfl)
      · refine lv_iinc (v := (nI i1) + 1) (lv' := [(5, .int ((nI i1) + 1)), (6, .ref (ad 4 i1)), (4, .int ((if i1 = c then itr (f_X7_alike_6_4 x most gui c y) 0 i1 else (if (s_X0_isAlike x y i1 c most) = 0 then itr (f_X7_alike_6_4 x most gui c y) 0 i1 else (if (s_X0_guiltStands x i1) = gui then (itr (f_X7_alike_6_4 x most gui c y) 0 i1) + 1 else itr (f_X7_alike_6_4 x most gui c y) 0 i1 : Int32) : Int32) : Int32))), (0, .ref (ad 0 0)), (1, .ref (ad 4 c)), (2, .int most), (3, .int gui)]) C.hx C.hb dX7_alike_60 hl (k := 1) rfl rfl (by decide) rfl (fun ls hl => ?_)
        refine lv_goto (tgt := 6) C.hx C.hb dX7_alike_63 (by decide) ?_
        rw [nI_1 i1] at hl
        exact K1 _ (lv_sub hl [0, 2, 3, 4, 5, 6] rfl)
  · refine lv_iload C.hx C.hb dX7_alike_6 (lv_at hl 0 rfl) ?_
    refine lv_aload_n C.hx C.hb dX7_alike_8 rfl (lv_at hl 2 rfl) ?_
    refine g_get (k := 3) (v := .ref (ad 7 1)) C (hW.1 0 0 rfl).1 rfl wu_X7 (by decide) wf_X7_28 rfl rfl dX7_alike_9 ?_
    refine kVR (As := []) (rest := [.int (nI (y 20 1))]) (v := .int (nI (y 20 1))) C (cJ_size l G (ad 7 1) _ (y 20 1) _) lk_X7_83 (g_recv C (hW.1 7 1 (show 1 < 3 by decide)).1 rfl) (hW.1 7 1 (show 1 < 3 by decide)).1 rfl rfl hl (Nat.le_of_ble_eq_true rfl) dX7_alike_12 ⟨⟨by decide, by decide⟩, by decide, by decide⟩ ?_
    refine lv_icmp_ge (tgt := 66) C.hx C.hb dX7_alike_15 (by decide) (fun c6 => ?_) (fun c6 => ?_)
    · refine lv_iload C.hx C.hb dX7_alike_66 (lv_at hl 1 rfl) ?_
      exact rI C hr dX7_alike_68 (by unfold s_X7_alike; with_reducible rfl)
    · exact absurd (le_eqn rfl) c6
