def s_X7_within (v : Int32) (least : Int32) (most : Int32) : Int32 := (if v < least then 0 else (if most < v then 0 else 1 : Int32) : Int32)
set_option maxRecDepth 100000 in
set_option maxHeartbeats 400000 in
theorem cJ_X7_within (l : Launch) (G : GG) (v : Int32) (least : Int32) (most : Int32) : MR l G yX7_within cX7_within 3 (some .boolean) 0 [.int v, .int least, .int most] (fun _ => True) (some (.int (s_X7_within v least most))) := by
  refine MR.of RX7 rfl (by decide) (Nat.le_of_ble_eq_true rfl) ?_
  intro p_ e_ s_ m_ args_ below_ meth_ c_ ls hargs C hr hnm hW hl
  have hl : lv_has ls 3 [(0, .int v), (1, .int least), (2, .int most)] := hl
  refine lv_iload_n C.hx C.hb dX7_within_0 rfl (lv_at hl 0 rfl) ?_
  refine lv_iload_n C.hx C.hb dX7_within_1 rfl (lv_at hl 1 rfl) ?_
  refine W.joinI (P := fun jv => jv = (if v < least then 0 else (if most < v then 0 else 1 : Int32) : Int32)) 15 ls [] (fun J3 => ?_) (fun v4 hv4 => ?_)
  · refine lv_icmp_lt (tgt := 14) C.hx C.hb dX7_within_2 (by decide) (fun c1 => ?_) (fun c1 => ?_)
    · refine lv_iconst (v := 0) C.hx C.hb dX7_within_14 (by decide) ?_
      exact J3 _ (by rw [if_pos c1])
    · refine lv_iload_n C.hx C.hb dX7_within_5 rfl (lv_at hl 0 rfl) ?_
      refine lv_iload_n C.hx C.hb dX7_within_6 rfl (lv_at hl 2 rfl) ?_
      refine lv_icmp_gt (tgt := 14) C.hx C.hb dX7_within_7 (by decide) (fun c2 => ?_) (fun c2 => ?_)
      · refine lv_iconst (v := 0) C.hx C.hb dX7_within_14 (by decide) ?_
        exact J3 _ (by rw [if_neg c1, if_pos c2])
      · refine lv_iconst (v := 1) C.hx C.hb dX7_within_10 (by decide) ?_
        refine lv_goto (tgt := 15) C.hx C.hb dX7_within_11 (by decide) ?_
        exact J3 _ (by rw [if_neg c1, if_neg c2])
  · exact rZ C hr dX7_within_15 (by rw [hv4]; unfold s_X7_within; with_reducible rfl) (nb01 (by rw [hv4]; (repeat' split) <;> simp))
def s_X7_asNumber (b : Int32) : Int32 := (if b = 0 then 0 else 1 : Int32)
set_option maxRecDepth 100000 in
set_option maxHeartbeats 400000 in
theorem cJ_X7_asNumber (l : Launch) (G : GG) (b : Int32) : MR l G yX7_asNumber cX7_asNumber 1 (some .int) 0 [.int b] (fun _ => True) (some (.int (s_X7_asNumber b))) := by
  refine MR.of RX7 rfl (by decide) (Nat.le_of_ble_eq_true rfl) ?_
  intro p_ e_ s_ m_ args_ below_ meth_ c_ ls hargs C hr hnm hW hl
  have hl : lv_has ls 1 [(0, .int b)] := hl
  refine lv_iload_n C.hx C.hb dX7_asNumber_0 rfl (lv_at hl 0 rfl) ?_
  refine W.joinI (P := fun jv => jv = (if b = 0 then 0 else 1 : Int32)) 9 ls [] (fun J2 => ?_) (fun v3 hv3 => ?_)
  · refine lv_if_eq (tgt := 8) C.hx C.hb dX7_asNumber_1 (by decide) (fun c1 => ?_) (fun c1 => ?_)
    · refine lv_iconst (v := 0) C.hx C.hb dX7_asNumber_8 (by decide) ?_
      exact J2 _ (by rw [if_pos c1])
    · refine lv_iconst (v := 1) C.hx C.hb dX7_asNumber_4 (by decide) ?_
      refine lv_goto (tgt := 9) C.hx C.hb dX7_asNumber_5 (by decide) ?_
      exact J2 _ (by rw [if_neg c1])
  · exact rI C hr dX7_asNumber_9 (by rw [hv3]; unfold s_X7_asNumber; with_reducible rfl)
def i_X0_hearing (y : YY) (c : Nat) : Nat := (if y 4 c = 0 then (2 * c) else (2 * c + 1))
set_option maxRecDepth 100000 in
set_option maxHeartbeats 1000000 in
theorem cC_X0_hearing (l : Launch) (G : GG) (A : Nat → Prop) (ad : YY) (x : XX) (y : YY) (z : Nat → Int64) (c : Nat) (hc : c < y 20 1) : MR l G yX0_hearing cX0_hearing 1 (some (.object "ModeratorsBench$Hearing")) 0 [.ref (ad 4 c)] (CWd G A ad x y z) (some (.ref (ad 5 (i_X0_hearing y c)))) := by
  refine MR.of RX0 rfl (by decide) (Nat.le_of_ble_eq_true rfl) ?_
  intro p_ e_ s_ m_ args_ below_ meth_ c_ ls hargs C hr hnm hW hl
  have hl : lv_has ls 1 [(0, .ref (ad 4 c))] := hl
  refine lv_aload_n C.hx C.hb dX0_hearing_0 rfl (lv_at hl 0 rfl) ?_
  by_cases c1 : y 4 c = 0
  · refine g_get (k := 5) (v := .null) C (hW.1 4 c (show c < y 20 1 by omega)).1 rfl wu_X0 (by decide) wf_X0_9 rfl (by show some (opt _ (y 4 c)) = _; rw [c1]; rfl) dX0_hearing_1 ?_
    refine lv_ifnonnullN C.hx C.hb dX0_hearing_4 ?_
    refine lv_aload_n C.hx C.hb dX0_hearing_7 rfl (lv_at hl 0 rfl) ?_
    refine g_get (k := 4) (v := .ref (ad 5 (2 * c))) C (hW.1 4 c (show c < y 20 1 by omega)).1 rfl wu_X0 (by decide) wf_X0_54 rfl rfl dX0_hearing_8 ?_
    refine lv_goto (tgt := 18) C.hx C.hb dX0_hearing_11 (by decide) ?_
    exact rA C hr (Or.inl ⟨_, rfl⟩) (Or.inr ⟨_, rfl⟩) dX0_hearing_18 (by unfold i_X0_hearing; first | (rw [if_pos c1]; done) | simp only [if_pos c1] | (simp only [if_pos c1]; rfl))
  · refine g_get (k := 5) (v := .ref (ad 5 (2 * c + 1))) C (hW.1 4 c (show c < y 20 1 by omega)).1 rfl wu_X0 (by decide) wf_X0_9 rfl (by show some (opt _ (y 4 c)) = _; rw [show y 4 c = (y 4 c - 1) + 1 by omega]; rfl) dX0_hearing_1 ?_
    refine lv_ifnonnull (tgt := 14) C.hx C.hb dX0_hearing_4 (by decide) ?_
    refine lv_aload_n C.hx C.hb dX0_hearing_14 rfl (lv_at hl 0 rfl) ?_
    refine g_get (k := 5) (v := .ref (ad 5 (2 * c + 1))) C (hW.1 4 c (show c < y 20 1 by omega)).1 rfl wu_X0 (by decide) wf_X0_9 rfl (by show some (opt _ (y 4 c)) = _; rw [show y 4 c = (y 4 c - 1) + 1 by omega]; rfl) dX0_hearing_15 ?_
    exact rA C hr (Or.inl ⟨_, rfl⟩) (Or.inr ⟨_, rfl⟩) dX0_hearing_18 (by unfold i_X0_hearing; first | (rw [if_neg c1]; done) | simp only [if_neg c1] | (simp only [if_neg c1]; rfl))
theorem lvHe {y : YY} (c : Nat) (h : c < y 20 1) : lv y 5 (i_X0_hearing y c) := by
  unfold i_X0_hearing
  by_cases k : y 4 c = 0
  · rw [if_pos k]; exact lvH1 h
  · rw [if_neg k]; exact lvH2 h k
def s_X0_bringsStrike (x : XX) (y : YY) (c : Nat) : Int32 := (if (s_X0_guiltStands x c) = 0 then 0 else (if (x 5 (y 3 c)) = 2 then 1 else 0 : Int32) : Int32)
set_option maxRecDepth 100000 in
set_option maxHeartbeats 1000000 in
theorem cC_X0_bringsStrike (l : Launch) (G : GG) (A : Nat → Prop) (ad : YY) (x : XX) (y : YY) (z : Nat → Int64) (hI : CI y) (c : Nat) (hc : c < y 20 1) : MR l G yX0_bringsStrike cX0_bringsStrike 1 (some .boolean) 1 [.ref (ad 4 c)] (CWd G A ad x y z) (some (.int (s_X0_bringsStrike x y c))) := by
  refine MR.of RX0 rfl (by decide) (Nat.le_of_ble_eq_true rfl) ?_
  intro p_ e_ s_ m_ args_ below_ meth_ c_ ls hargs C hr hnm hW hl
  obtain ⟨-, -, -, bP, bC, bG, bL⟩ := id hI
  have hl : lv_has ls 1 [(0, .ref (ad 4 c))] := hl
  refine lv_aload_n C.hx C.hb dX0_bringsStrike_0 rfl (lv_at hl 0 rfl) ?_
  refine kVR (As := []) (rest := []) (v := .int (s_X0_guiltStands x c)) C (cC_X0_guiltStands l G A ad x y z c (by omega)) lk_X0_60 (g_recv C (hW.1 4 c (show c < y 20 1 by omega)).1 rfl) hW rfl rfl hl (Nat.le_of_ble_eq_true rfl) dX0_bringsStrike_1 ⟨⟨by decide, by decide⟩, by decide, by decide⟩ ?_
  refine W.joinI (P := fun jv => jv = (if (s_X0_guiltStands x c) = 0 then 0 else (if (x 5 (y 3 c)) = 2 then 1 else 0 : Int32) : Int32)) 23 ls [] (fun J4 => ?_) (fun v5 hv5 => ?_)
  · refine lv_if_eq (tgt := 22) C.hx C.hb dX0_bringsStrike_4 (by decide) (fun c1 => ?_) (fun c1 => ?_)
    · refine lv_iconst (v := 0) C.hx C.hb dX0_bringsStrike_22 (by decide) ?_
      exact J4 _ (by rw [if_pos c1])
    · refine lv_aload_n C.hx C.hb dX0_bringsStrike_7 rfl (lv_at hl 0 rfl) ?_
      refine g_get (k := 2) (v := .ref (ad 1 (y 3 c))) C (hW.1 4 c (show c < y 20 1 by omega)).1 rfl wu_X0 (by decide) wf_X0_39 rfl rfl dX0_bringsStrike_8 ?_
      have g2 := (hI.1 c (by omega)).2.1
      refine g_getN (k := 3) (v := .int (x 5 (y 3 c))) C (hW.1 1 (y 3 c) (show (y 3 c) < 8 by omega)).1 rfl wu_X6 (by decide) wn_X0_64 rfl rfl dX0_bringsStrike_11 ?_
      refine lv_iconst (v := 2) C.hx C.hb dX0_bringsStrike_14 (by decide) ?_
      refine lv_icmp_ne (tgt := 22) C.hx C.hb dX0_bringsStrike_15 (by decide) (fun c3 => ?_) (fun c3 => ?_)
      · refine lv_iconst (v := 0) C.hx C.hb dX0_bringsStrike_22 (by decide) ?_
        exact J4 _ (by rw [if_neg c1, if_neg c3])
      · refine lv_iconst (v := 1) C.hx C.hb dX0_bringsStrike_18 (by decide) ?_
        refine lv_goto (tgt := 23) C.hx C.hb dX0_bringsStrike_19 (by decide) ?_
        exact J4 _ (by rw [if_neg c1, if_pos c3])
  · exact rZ C hr dX0_bringsStrike_23 (by rw [hv5]; unfold s_X0_bringsStrike; with_reducible rfl) (nb01 (by rw [hv5]; (repeat' split) <;> simp))
def s_X0_wantsJudges (x : XX) (y : YY) (c : Nat) : Int32 := (if (x 22 (i_X0_hearing y c)) ≤ ((s_X2_votes x (i_X0_hearing y c)) + (s_X0_giftsOut x c)) then 0 else 1 : Int32)
set_option maxRecDepth 100000 in
set_option maxHeartbeats 1000000 in
theorem cC_X0_wantsJudges (l : Launch) (G : GG) (A : Nat → Prop) (ad : YY) (x : XX) (y : YY) (z : Nat → Int64) (c : Nat) (hc : c < y 20 1) : MR l G yX0_wantsJudges cX0_wantsJudges 1 (some .boolean) 2 [.ref (ad 4 c)] (CWd G A ad x y z) (some (.int (s_X0_wantsJudges x y c))) := by
  refine MR.of RX0 rfl (by decide) (Nat.le_of_ble_eq_true rfl) ?_
  intro p_ e_ s_ m_ args_ below_ meth_ c_ ls hargs C hr hnm hW hl
  have hl : lv_has ls 1 [(0, .ref (ad 4 c))] := hl
  refine lv_aload_n C.hx C.hb dX0_wantsJudges_0 rfl (lv_at hl 0 rfl) ?_
  refine kVR (As := []) (rest := []) (v := .ref (ad 5 (i_X0_hearing y c))) C (cC_X0_hearing l G A ad x y z c (by omega)) lk_X0_73 (g_recv C (hW.1 4 c (show c < y 20 1 by omega)).1 rfl) hW rfl rfl hl (Nat.le_of_ble_eq_true rfl) dX0_wantsJudges_1 ⟨⟨by decide, by decide⟩, by decide, by decide⟩ ?_
  refine g_getN (k := 0) (v := .int (x 22 (i_X0_hearing y c))) C (hW.1 5 (i_X0_hearing y c) (lvHe c (by omega))).1 rfl wu_X2 (by decide) wn_X0_77 rfl rfl dX0_wantsJudges_4 ?_
  refine lv_aload_n C.hx C.hb dX0_wantsJudges_7 rfl (lv_at hl 0 rfl) ?_
  refine kVR (As := []) (rest := [.int (x 22 (i_X0_hearing y c))]) (v := .ref (ad 5 (i_X0_hearing y c))) C (cC_X0_hearing l G A ad x y z c (by omega)) lk_X0_73 (g_recv C (hW.1 4 c (show c < y 20 1 by omega)).1 rfl) hW rfl rfl hl (Nat.le_of_ble_eq_true rfl) dX0_wantsJudges_8 ⟨⟨by decide, by decide⟩, by decide, by decide⟩ ?_
  refine kVNR (As := []) (rest := [.int (x 22 (i_X0_hearing y c))]) (v := .int (s_X2_votes x (i_X0_hearing y c))) C (cC_X2_votes l G A ad x y z (i_X0_hearing y c) (lvHe c (by omega))) lk_X0_80 (g_recv C (hW.1 5 (i_X0_hearing y c) (lvHe c (by omega))).1 rfl) hW rfl rfl hl (Nat.le_of_ble_eq_true rfl) dX0_wantsJudges_11 ⟨⟨by decide, by decide⟩, by decide, by decide⟩ ?_
  refine lv_aload_n C.hx C.hb dX0_wantsJudges_14 rfl (lv_at hl 0 rfl) ?_
  refine kVR (As := []) (rest := [.int (s_X2_votes x (i_X0_hearing y c)), .int (x 22 (i_X0_hearing y c))]) (v := .int (s_X0_giftsOut x c)) C (cC_X0_giftsOut l G A ad x y z c (by omega)) lk_X0_84 (g_recv C (hW.1 4 c (show c < y 20 1 by omega)).1 rfl) hW rfl rfl hl (Nat.le_of_ble_eq_true rfl) dX0_wantsJudges_15 ⟨⟨by decide, by decide⟩, by decide, by decide⟩ ?_
  refine lv_iadd C.hx C.hb dX0_wantsJudges_18 ?_
  refine W.joinI (P := fun jv => jv = (if (x 22 (i_X0_hearing y c)) ≤ ((s_X2_votes x (i_X0_hearing y c)) + (s_X0_giftsOut x c)) then 0 else 1 : Int32)) 27 ls [] (fun J2 => ?_) (fun v3 hv3 => ?_)
  · refine lv_icmp_le (tgt := 26) C.hx C.hb dX0_wantsJudges_19 (by decide) (fun c1 => ?_) (fun c1 => ?_)
    · refine lv_iconst (v := 0) C.hx C.hb dX0_wantsJudges_26 (by decide) ?_
      exact J2 _ (by rw [if_pos c1])
    · refine lv_iconst (v := 1) C.hx C.hb dX0_wantsJudges_22 (by decide) ?_
      refine lv_goto (tgt := 27) C.hx C.hb dX0_wantsJudges_23 (by decide) ?_
      exact J2 _ (by rw [if_neg c1])
  · exact rZ C hr dX0_wantsJudges_27 (by rw [hv3]; unfold s_X0_wantsJudges; with_reducible rfl) (nb01 (by rw [hv3]; (repeat' split) <;> simp))
def s_X0_hasVoteOf (x : XX) (y : YY) (c : Nat) (j : Nat) : Int32 := (if (s_X2_hasVoter x (2 * c) j) = 0 then (if y 4 c = 0 then 0 else (if (s_X2_hasVoter x (2 * c + 1) j) = 0 then 0 else 1 : Int32) : Int32) else 1 : Int32)
set_option maxRecDepth 100000 in
set_option maxHeartbeats 1000000 in
theorem cC_X0_hasVoteOf (l : Launch) (G : GG) (A : Nat → Prop) (ad : YY) (x : XX) (y : YY) (z : Nat → Int64) (c : Nat) (j : Nat) (hc : c < y 20 1) (hj : j < 20) : MR l G yX0_hasVoteOf cX0_hasVoteOf 2 (some .boolean) 1 [.ref (ad 4 c), .ref (ad 2 j)] (CWd G A ad x y z) (some (.int (s_X0_hasVoteOf x y c j))) := by
  refine MR.of RX0 rfl (by decide) (Nat.le_of_ble_eq_true rfl) ?_
  intro p_ e_ s_ m_ args_ below_ meth_ c_ ls hargs C hr hnm hW hl
  have hl : lv_has ls 2 [(0, .ref (ad 4 c)), (1, .ref (ad 2 j))] := hl
  refine lv_aload_n C.hx C.hb dX0_hasVoteOf_0 rfl (lv_at hl 0 rfl) ?_
  refine g_get (k := 4) (v := .ref (ad 5 (2 * c))) C (hW.1 4 c (show c < y 20 1 by omega)).1 rfl wu_X0 (by decide) wf_X0_54 rfl rfl dX0_hasVoteOf_1 ?_
  refine lv_aload_n C.hx C.hb dX0_hasVoteOf_4 rfl (lv_at hl 1 rfl) ?_
  refine kVNR (As := [.ref (ad 2 j)]) (rest := []) (v := .int (s_X2_hasVoter x (2 * c) j)) C (cC_X2_hasVoter l G A ad x y z (2 * c) j (lvH1 (show c < y 20 1 by omega)) (by omega)) lk_X0_92 (g_recv C (hW.1 5 (2 * c) (lvH1 (show c < y 20 1 by omega))).1 rfl) hW rfl rfl hl (Nat.le_of_ble_eq_true rfl) dX0_hasVoteOf_5 ⟨⟨by decide, by decide⟩, by decide, by decide⟩ ?_
  refine W.joinI (P := fun jv => jv = (if (s_X2_hasVoter x (2 * c) j) = 0 then (if y 4 c = 0 then 0 else (if (s_X2_hasVoter x (2 * c + 1) j) = 0 then 0 else 1 : Int32) : Int32) else 1 : Int32)) 34 ls [] (fun J5 => ?_) (fun v6 hv6 => ?_)
  · refine lv_if_ne (tgt := 29) C.hx C.hb dX0_hasVoteOf_8 (by decide) (fun c1 => ?_) (fun c1 => ?_)
    · refine lv_iconst (v := 1) C.hx C.hb dX0_hasVoteOf_29 (by decide) ?_
      refine lv_goto (tgt := 34) C.hx C.hb dX0_hasVoteOf_30 (by decide) ?_
      exact J5 _ (by rw [if_neg c1])
    · refine lv_aload_n C.hx C.hb dX0_hasVoteOf_11 rfl (lv_at hl 0 rfl) ?_
      by_cases c2 : y 4 c = 0
      · refine g_get (k := 5) (v := .null) C (hW.1 4 c (show c < y 20 1 by omega)).1 rfl wu_X0 (by decide) wf_X0_9 rfl (by show some (opt _ (y 4 c)) = _; rw [c2]; rfl) dX0_hasVoteOf_12 ?_
        refine lv_ifnullN (tgt := 33) C.hx C.hb dX0_hasVoteOf_15 (by decide) ?_
        refine lv_iconst (v := 0) C.hx C.hb dX0_hasVoteOf_33 (by decide) ?_
        exact J5 _ (by rw [if_pos c1, if_pos c2])
      · refine g_get (k := 5) (v := .ref (ad 5 (2 * c + 1))) C (hW.1 4 c (show c < y 20 1 by omega)).1 rfl wu_X0 (by decide) wf_X0_9 rfl (by show some (opt _ (y 4 c)) = _; rw [show y 4 c = (y 4 c - 1) + 1 by omega]; rfl) dX0_hasVoteOf_12 ?_
        refine lv_ifnull C.hx C.hb dX0_hasVoteOf_15 ?_
        refine lv_aload_n C.hx C.hb dX0_hasVoteOf_18 rfl (lv_at hl 0 rfl) ?_
        refine g_get (k := 5) (v := .ref (ad 5 (2 * c + 1))) C (hW.1 4 c (show c < y 20 1 by omega)).1 rfl wu_X0 (by decide) wf_X0_9 rfl (by show some (opt _ (y 4 c)) = _; rw [show y 4 c = (y 4 c - 1) + 1 by omega]; rfl) dX0_hasVoteOf_19 ?_
        refine lv_aload_n C.hx C.hb dX0_hasVoteOf_22 rfl (lv_at hl 1 rfl) ?_
        refine kVNR (As := [.ref (ad 2 j)]) (rest := []) (v := .int (s_X2_hasVoter x (2 * c + 1) j)) C (cC_X2_hasVoter l G A ad x y z (2 * c + 1) j (lvH2 (show c < y 20 1 by omega) c2) (by omega)) lk_X0_92 (g_recv C (hW.1 5 (2 * c + 1) (lvH2 (show c < y 20 1 by omega) c2)).1 rfl) hW rfl rfl hl (Nat.le_of_ble_eq_true rfl) dX0_hasVoteOf_23 ⟨⟨by decide, by decide⟩, by decide, by decide⟩ ?_
        refine lv_if_eq (tgt := 33) C.hx C.hb dX0_hasVoteOf_26 (by decide) (fun c4 => ?_) (fun c4 => ?_)
        · refine lv_iconst (v := 0) C.hx C.hb dX0_hasVoteOf_33 (by decide) ?_
          exact J5 _ (by rw [if_pos c1, if_neg c2, if_pos c4])
        · refine lv_iconst (v := 1) C.hx C.hb dX0_hasVoteOf_29 (by decide) ?_
          refine lv_goto (tgt := 34) C.hx C.hb dX0_hasVoteOf_30 (by decide) ?_
          exact J5 _ (by rw [if_pos c1, if_neg c2, if_neg c4])
  · exact rZ C hr dX0_hasVoteOf_34 (by rw [hv6]; unfold s_X0_hasVoteOf; with_reducible rfl) (nb01 (by rw [hv6]; (repeat' split) <;> simp))
def s_X0_timesJudged (x : XX) (y : YY) (c : Nat) : Int32 := (if y 4 c = 0 then (s_X7_asNumber (x 28 (2 * c))) + (s_X7_asNumber 0) else (s_X7_asNumber (x 28 (2 * c))) + (s_X7_asNumber (if (x 28 (2 * c + 1)) = 0 then 0 else 1 : Int32)))
set_option maxRecDepth 100000 in
set_option maxHeartbeats 1000000 in
theorem cC_X0_timesJudged (l : Launch) (G : GG) (A : Nat → Prop) (ad : YY) (x : XX) (y : YY) (z : Nat → Int64) (c : Nat) (hc : c < y 20 1) : MR l G yX0_timesJudged cX0_timesJudged 1 (some .int) 1 [.ref (ad 4 c)] (CWd G A ad x y z) (some (.int (s_X0_timesJudged x y c))) := by
  refine MR.of RX0 rfl (by decide) (Nat.le_of_ble_eq_true rfl) ?_
  intro p_ e_ s_ m_ args_ below_ meth_ c_ ls hargs C hr hnm hW hl
  have hl : lv_has ls 1 [(0, .ref (ad 4 c))] := hl
  refine lv_aload_n C.hx C.hb dX0_timesJudged_0 rfl (lv_at hl 0 rfl) ?_
  refine g_get (k := 4) (v := .ref (ad 5 (2 * c))) C (hW.1 4 c (show c < y 20 1 by omega)).1 rfl wu_X0 (by decide) wf_X0_54 rfl rfl dX0_timesJudged_1 ?_
  refine g_getN (k := 6) (v := .int (x 28 (2 * c))) C (hW.1 5 (2 * c) (lvH1 (show c < y 20 1 by omega))).1 rfl wu_X2 (by decide) wn_X0_102 rfl rfl dX0_timesJudged_4 ?_
  refine kSNR (As := [.int (x 28 (2 * c))]) (rest := []) (v := .int (s_X7_asNumber (x 28 (2 * c)))) C (cJ_X7_asNumber l G (x 28 (2 * c))) lk_X0_109 trivial rfl rfl hl (Nat.le_of_ble_eq_true rfl) dX0_timesJudged_7 ⟨⟨by decide, by decide⟩, by decide, by decide⟩ ?_
  refine lv_aload_n C.hx C.hb dX0_timesJudged_10 rfl (lv_at hl 0 rfl) ?_
  by_cases c1 : y 4 c = 0
  · refine g_get (k := 5) (v := .null) C (hW.1 4 c (show c < y 20 1 by omega)).1 rfl wu_X0 (by decide) wf_X0_9 rfl (by show some (opt _ (y 4 c)) = _; rw [c1]; rfl) dX0_timesJudged_11 ?_
    refine lv_ifnullN (tgt := 31) C.hx C.hb dX0_timesJudged_14 (by decide) ?_
    refine lv_iconst (v := 0) C.hx C.hb dX0_timesJudged_31 (by decide) ?_
    refine kSNR (As := [.int 0]) (rest := [.int (s_X7_asNumber (x 28 (2 * c)))]) (v := .int (s_X7_asNumber 0)) C (cJ_X7_asNumber l G 0) lk_X0_109 trivial rfl rfl hl (Nat.le_of_ble_eq_true rfl) dX0_timesJudged_32 ⟨⟨by decide, by decide⟩, by decide, by decide⟩ ?_
    refine lv_iadd C.hx C.hb dX0_timesJudged_35 ?_
    exact rI C hr dX0_timesJudged_36 (by unfold s_X0_timesJudged; first | (rw [if_pos c1]; done) | simp only [if_pos c1] | (simp only [if_pos c1]; rfl))
  · refine g_get (k := 5) (v := .ref (ad 5 (2 * c + 1))) C (hW.1 4 c (show c < y 20 1 by omega)).1 rfl wu_X0 (by decide) wf_X0_9 rfl (by show some (opt _ (y 4 c)) = _; rw [show y 4 c = (y 4 c - 1) + 1 by omega]; rfl) dX0_timesJudged_11 ?_
    refine lv_ifnull C.hx C.hb dX0_timesJudged_14 ?_
    refine lv_aload_n C.hx C.hb dX0_timesJudged_17 rfl (lv_at hl 0 rfl) ?_
    refine g_get (k := 5) (v := .ref (ad 5 (2 * c + 1))) C (hW.1 4 c (show c < y 20 1 by omega)).1 rfl wu_X0 (by decide) wf_X0_9 rfl (by show some (opt _ (y 4 c)) = _; rw [show y 4 c = (y 4 c - 1) + 1 by omega]; rfl) dX0_timesJudged_18 ?_
    refine g_getN (k := 6) (v := .int (x 28 (2 * c + 1))) C (hW.1 5 (2 * c + 1) (lvH2 (show c < y 20 1 by omega) c1)).1 rfl wu_X2 (by decide) wn_X0_102 rfl rfl dX0_timesJudged_21 ?_
    refine W.joinI (P := fun jv => jv = (if (x 28 (2 * c + 1)) = 0 then 0 else 1 : Int32)) 32 ls [.int (s_X7_asNumber (x 28 (2 * c)))] (fun J4 => ?_) (fun v5 hv5 => ?_)
    · refine lv_if_eq (tgt := 31) C.hx C.hb dX0_timesJudged_24 (by decide) (fun c3 => ?_) (fun c3 => ?_)
      · refine lv_iconst (v := 0) C.hx C.hb dX0_timesJudged_31 (by decide) ?_
        exact J4 _ (by rw [if_pos c3])
      · refine lv_iconst (v := 1) C.hx C.hb dX0_timesJudged_27 (by decide) ?_
        refine lv_goto (tgt := 32) C.hx C.hb dX0_timesJudged_28 (by decide) ?_
        exact J4 _ (by rw [if_neg c3])
    · refine kSNR (As := [.int v5]) (rest := [.int (s_X7_asNumber (x 28 (2 * c)))]) (v := .int (s_X7_asNumber v5)) C (cJ_X7_asNumber l G v5) lk_X0_109 trivial rfl rfl hl (Nat.le_of_ble_eq_true rfl) dX0_timesJudged_32 ⟨⟨by decide, by decide⟩, by decide, by decide⟩ ?_
      refine lv_iadd C.hx C.hb dX0_timesJudged_35 ?_
      exact rI C hr dX0_timesJudged_36 (by rw [hv5]; unfold s_X0_timesJudged; first | (rw [if_neg c1]; done) | simp only [if_neg c1] | (simp only [if_neg c1]; rfl))
def s_X0_staysWithinAsked (x : XX) (y : YY) (c : Nat) : Int32 := (if (s_X0_isUndecided x c) = 0 then 1 else (if (x 22 (i_X0_hearing y c)) < ((s_X2_votes x (i_X0_hearing y c)) + (s_X0_giftsOut x c)) then 0 else 1 : Int32) : Int32)
set_option maxRecDepth 100000 in
set_option maxHeartbeats 1000000 in
theorem cC_X0_staysWithinAsked (l : Launch) (G : GG) (A : Nat → Prop) (ad : YY) (x : XX) (y : YY) (z : Nat → Int64) (c : Nat) (hc : c < y 20 1) : MR l G yX0_staysWithinAsked cX0_staysWithinAsked 1 (some .boolean) 2 [.ref (ad 4 c)] (CWd G A ad x y z) (some (.int (s_X0_staysWithinAsked x y c))) := by
  refine MR.of RX0 rfl (by decide) (Nat.le_of_ble_eq_true rfl) ?_
  intro p_ e_ s_ m_ args_ below_ meth_ c_ ls hargs C hr hnm hW hl
  have hl : lv_has ls 1 [(0, .ref (ad 4 c))] := hl
  refine lv_aload_n C.hx C.hb dX0_staysWithinAsked_0 rfl (lv_at hl 0 rfl) ?_
  refine kVR (As := []) (rest := []) (v := .int (s_X0_isUndecided x c)) C (cC_X0_isUndecided l G A ad x y z c (by omega)) lk_X0_113 (g_recv C (hW.1 4 c (show c < y 20 1 by omega)).1 rfl) hW rfl rfl hl (Nat.le_of_ble_eq_true rfl) dX0_staysWithinAsked_1 ⟨⟨by decide, by decide⟩, by decide, by decide⟩ ?_
  refine W.joinI (P := fun jv => jv = (if (s_X0_isUndecided x c) = 0 then 1 else (if (x 22 (i_X0_hearing y c)) < ((s_X2_votes x (i_X0_hearing y c)) + (s_X0_giftsOut x c)) then 0 else 1 : Int32) : Int32)) 34 ls [] (fun J3 => ?_) (fun v4 hv4 => ?_)
  · refine lv_if_eq (tgt := 29) C.hx C.hb dX0_staysWithinAsked_4 (by decide) (fun c1 => ?_) (fun c1 => ?_)
    · refine lv_iconst (v := 1) C.hx C.hb dX0_staysWithinAsked_29 (by decide) ?_
      refine lv_goto (tgt := 34) C.hx C.hb dX0_staysWithinAsked_30 (by decide) ?_
      exact J3 _ (by rw [if_pos c1])
    · refine lv_aload_n C.hx C.hb dX0_staysWithinAsked_7 rfl (lv_at hl 0 rfl) ?_
      refine kVR (As := []) (rest := []) (v := .ref (ad 5 (i_X0_hearing y c))) C (cC_X0_hearing l G A ad x y z c (by omega)) lk_X0_73 (g_recv C (hW.1 4 c (show c < y 20 1 by omega)).1 rfl) hW rfl rfl hl (Nat.le_of_ble_eq_true rfl) dX0_staysWithinAsked_8 ⟨⟨by decide, by decide⟩, by decide, by decide⟩ ?_
      refine kVNR (As := []) (rest := []) (v := .int (s_X2_votes x (i_X0_hearing y c))) C (cC_X2_votes l G A ad x y z (i_X0_hearing y c) (lvHe c (by omega))) lk_X0_80 (g_recv C (hW.1 5 (i_X0_hearing y c) (lvHe c (by omega))).1 rfl) hW rfl rfl hl (Nat.le_of_ble_eq_true rfl) dX0_staysWithinAsked_11 ⟨⟨by decide, by decide⟩, by decide, by decide⟩ ?_
      refine lv_aload_n C.hx C.hb dX0_staysWithinAsked_14 rfl (lv_at hl 0 rfl) ?_
      refine kVR (As := []) (rest := [.int (s_X2_votes x (i_X0_hearing y c))]) (v := .int (s_X0_giftsOut x c)) C (cC_X0_giftsOut l G A ad x y z c (by omega)) lk_X0_84 (g_recv C (hW.1 4 c (show c < y 20 1 by omega)).1 rfl) hW rfl rfl hl (Nat.le_of_ble_eq_true rfl) dX0_staysWithinAsked_15 ⟨⟨by decide, by decide⟩, by decide, by decide⟩ ?_
      refine lv_iadd C.hx C.hb dX0_staysWithinAsked_18 ?_
      refine lv_aload_n C.hx C.hb dX0_staysWithinAsked_19 rfl (lv_at hl 0 rfl) ?_
      refine kVR (As := []) (rest := [.int ((s_X2_votes x (i_X0_hearing y c)) + (s_X0_giftsOut x c))]) (v := .ref (ad 5 (i_X0_hearing y c))) C (cC_X0_hearing l G A ad x y z c (by omega)) lk_X0_73 (g_recv C (hW.1 4 c (show c < y 20 1 by omega)).1 rfl) hW rfl rfl hl (Nat.le_of_ble_eq_true rfl) dX0_staysWithinAsked_20 ⟨⟨by decide, by decide⟩, by decide, by decide⟩ ?_
      refine g_getN (k := 0) (v := .int (x 22 (i_X0_hearing y c))) C (hW.1 5 (i_X0_hearing y c) (lvHe c (by omega))).1 rfl wu_X2 (by decide) wn_X0_77 rfl rfl dX0_staysWithinAsked_23 ?_
      refine lv_icmp_gt (tgt := 33) C.hx C.hb dX0_staysWithinAsked_26 (by decide) (fun c2 => ?_) (fun c2 => ?_)
      · refine lv_iconst (v := 0) C.hx C.hb dX0_staysWithinAsked_33 (by decide) ?_
        exact J3 _ (by rw [if_neg c1, if_pos c2])
      · refine lv_iconst (v := 1) C.hx C.hb dX0_staysWithinAsked_29 (by decide) ?_
        refine lv_goto (tgt := 34) C.hx C.hb dX0_staysWithinAsked_30 (by decide) ?_
        exact J3 _ (by rw [if_neg c1, if_neg c2])
  · exact rZ C hr dX0_staysWithinAsked_34 (by rw [hv4]; unfold s_X0_staysWithinAsked; with_reducible rfl) (nb01 (by rw [hv4]; (repeat' split) <;> simp))
def s_X0_everyJudgeOnce (x : XX) (y : YY) (c : Nat) : Int32 := (if y 4 c = 0 then (if ((x 24 (2 * c)) &&& 0) = 0 then (if (((x 24 (2 * c)) ||| 0) &&& (x 21 c)) = 0 then 1 else 0 : Int32) else 0 : Int32) else (if ((x 24 (2 * c)) &&& (x 24 (2 * c + 1))) = 0 then (if (((x 24 (2 * c)) ||| (x 24 (2 * c + 1))) &&& (x 21 c)) = 0 then 1 else 0 : Int32) else 0 : Int32))
set_option maxRecDepth 100000 in
set_option maxHeartbeats 1000000 in
theorem cC_X0_everyJudgeOnce (l : Launch) (G : GG) (A : Nat → Prop) (ad : YY) (x : XX) (y : YY) (z : Nat → Int64) (c : Nat) (hc : c < y 20 1) : MR l G yX0_everyJudgeOnce cX0_everyJudgeOnce 2 (some .boolean) 0 [.ref (ad 4 c)] (CWd G A ad x y z) (some (.int (s_X0_everyJudgeOnce x y c))) := by
  refine MR.of RX0 rfl (by decide) (Nat.le_of_ble_eq_true rfl) ?_
  intro p_ e_ s_ m_ args_ below_ meth_ c_ ls hargs C hr hnm hW hl
  have hl : lv_has ls 2 [(0, .ref (ad 4 c))] := hl
  refine lv_aload_n C.hx C.hb dX0_everyJudgeOnce_0 rfl (lv_at hl 0 rfl) ?_
  by_cases c1 : y 4 c = 0
  · refine g_get (k := 5) (v := .null) C (hW.1 4 c (show c < y 20 1 by omega)).1 rfl wu_X0 (by decide) wf_X0_9 rfl (by show some (opt _ (y 4 c)) = _; rw [c1]; rfl) dX0_everyJudgeOnce_1 ?_
    refine lv_ifnonnullN C.hx C.hb dX0_everyJudgeOnce_4 ?_
    refine lv_iconst (v := 0) C.hx C.hb dX0_everyJudgeOnce_7 (by decide) ?_
    refine lv_goto (tgt := 18) C.hx C.hb dX0_everyJudgeOnce_8 (by decide) ?_
    refine lv_istore_n (lv' := [(1, .int 0), (0, .ref (ad 4 c))]) C.hx C.hb dX0_everyJudgeOnce_18 rfl hl (by decide) rfl (fun ls hl => ?_)
    refine lv_aload_n C.hx C.hb dX0_everyJudgeOnce_19 rfl (lv_at hl 1 rfl) ?_
    refine g_get (k := 4) (v := .ref (ad 5 (2 * c))) C (hW.1 4 c (show c < y 20 1 by omega)).1 rfl wu_X0 (by decide) wf_X0_54 rfl rfl dX0_everyJudgeOnce_20 ?_
    refine g_getN (k := 2) (v := .int (x 24 (2 * c))) C (hW.1 5 (2 * c) (lvH1 (show c < y 20 1 by omega))).1 rfl wu_X2 (by decide) wn_X0_125 rfl rfl dX0_everyJudgeOnce_23 ?_
    refine lv_iload_n C.hx C.hb dX0_everyJudgeOnce_26 rfl (lv_at hl 0 rfl) ?_
    refine lv_iand C.hx C.hb dX0_everyJudgeOnce_27 ?_
    refine W.joinI (P := fun jv => jv = (if ((x 24 (2 * c)) &&& 0) = 0 then (if (((x 24 (2 * c)) ||| 0) &&& (x 21 c)) = 0 then 1 else 0 : Int32) else 0 : Int32)) 53 ls [] (fun J4 => ?_) (fun v5 hv5 => ?_)
    · refine lv_if_ne (tgt := 52) C.hx C.hb dX0_everyJudgeOnce_28 (by decide) (fun c2 => ?_) (fun c2 => ?_)
      · refine lv_iconst (v := 0) C.hx C.hb dX0_everyJudgeOnce_52 (by decide) ?_
        exact J4 _ (by rw [if_neg c2])
      · refine lv_aload_n C.hx C.hb dX0_everyJudgeOnce_31 rfl (lv_at hl 1 rfl) ?_
        refine g_get (k := 4) (v := .ref (ad 5 (2 * c))) C (hW.1 4 c (show c < y 20 1 by omega)).1 rfl wu_X0 (by decide) wf_X0_54 rfl rfl dX0_everyJudgeOnce_32 ?_
        refine g_getN (k := 2) (v := .int (x 24 (2 * c))) C (hW.1 5 (2 * c) (lvH1 (show c < y 20 1 by omega))).1 rfl wu_X2 (by decide) wn_X0_125 rfl rfl dX0_everyJudgeOnce_35 ?_
        refine lv_iload_n C.hx C.hb dX0_everyJudgeOnce_38 rfl (lv_at hl 0 rfl) ?_
        refine lv_ior C.hx C.hb dX0_everyJudgeOnce_39 ?_
        refine lv_aload_n C.hx C.hb dX0_everyJudgeOnce_40 rfl (lv_at hl 1 rfl) ?_
        refine g_get (k := 10) (v := .int (x 21 c)) C (hW.1 4 c (show c < y 20 1 by omega)).1 rfl wu_X0 (by decide) wf_X0_25 rfl rfl dX0_everyJudgeOnce_41 ?_
        refine lv_iand C.hx C.hb dX0_everyJudgeOnce_44 ?_
        refine lv_if_ne (tgt := 52) C.hx C.hb dX0_everyJudgeOnce_45 (by decide) (fun c3 => ?_) (fun c3 => ?_)
        · refine lv_iconst (v := 0) C.hx C.hb dX0_everyJudgeOnce_52 (by decide) ?_
          exact J4 _ (by rw [if_pos c2, if_neg c3])
        · refine lv_iconst (v := 1) C.hx C.hb dX0_everyJudgeOnce_48 (by decide) ?_
          refine lv_goto (tgt := 53) C.hx C.hb dX0_everyJudgeOnce_49 (by decide) ?_
          exact J4 _ (by rw [if_pos c2, if_pos c3])
    · exact rZ C hr dX0_everyJudgeOnce_53 (by rw [hv5]; unfold s_X0_everyJudgeOnce; first | (rw [if_pos c1]; done) | simp only [if_pos c1] | (simp only [if_pos c1]; rfl)) (nb01 (by rw [hv5]; (repeat' split) <;> simp))
  · refine g_get (k := 5) (v := .ref (ad 5 (2 * c + 1))) C (hW.1 4 c (show c < y 20 1 by omega)).1 rfl wu_X0 (by decide) wf_X0_9 rfl (by show some (opt _ (y 4 c)) = _; rw [show y 4 c = (y 4 c - 1) + 1 by omega]; rfl) dX0_everyJudgeOnce_1 ?_
    refine lv_ifnonnull (tgt := 11) C.hx C.hb dX0_everyJudgeOnce_4 (by decide) ?_
    refine lv_aload_n C.hx C.hb dX0_everyJudgeOnce_11 rfl (lv_at hl 0 rfl) ?_
    refine g_get (k := 5) (v := .ref (ad 5 (2 * c + 1))) C (hW.1 4 c (show c < y 20 1 by omega)).1 rfl wu_X0 (by decide) wf_X0_9 rfl (by show some (opt _ (y 4 c)) = _; rw [show y 4 c = (y 4 c - 1) + 1 by omega]; rfl) dX0_everyJudgeOnce_12 ?_
    refine g_getN (k := 2) (v := .int (x 24 (2 * c + 1))) C (hW.1 5 (2 * c + 1) (lvH2 (show c < y 20 1 by omega) c1)).1 rfl wu_X2 (by decide) wn_X0_125 rfl rfl dX0_everyJudgeOnce_15 ?_
    refine lv_istore_n (lv' := [(1, .int (x 24 (2 * c + 1))), (0, .ref (ad 4 c))]) C.hx C.hb dX0_everyJudgeOnce_18 rfl hl (by decide) rfl (fun ls hl => ?_)
    refine lv_aload_n C.hx C.hb dX0_everyJudgeOnce_19 rfl (lv_at hl 1 rfl) ?_
    refine g_get (k := 4) (v := .ref (ad 5 (2 * c))) C (hW.1 4 c (show c < y 20 1 by omega)).1 rfl wu_X0 (by decide) wf_X0_54 rfl rfl dX0_everyJudgeOnce_20 ?_
    refine g_getN (k := 2) (v := .int (x 24 (2 * c))) C (hW.1 5 (2 * c) (lvH1 (show c < y 20 1 by omega))).1 rfl wu_X2 (by decide) wn_X0_125 rfl rfl dX0_everyJudgeOnce_23 ?_
    refine lv_iload_n C.hx C.hb dX0_everyJudgeOnce_26 rfl (lv_at hl 0 rfl) ?_
    refine lv_iand C.hx C.hb dX0_everyJudgeOnce_27 ?_
    refine W.joinI (P := fun jv => jv = (if ((x 24 (2 * c)) &&& (x 24 (2 * c + 1))) = 0 then (if (((x 24 (2 * c)) ||| (x 24 (2 * c + 1))) &&& (x 21 c)) = 0 then 1 else 0 : Int32) else 0 : Int32)) 53 ls [] (fun J9 => ?_) (fun v10 hv10 => ?_)
    · refine lv_if_ne (tgt := 52) C.hx C.hb dX0_everyJudgeOnce_28 (by decide) (fun c7 => ?_) (fun c7 => ?_)
      · refine lv_iconst (v := 0) C.hx C.hb dX0_everyJudgeOnce_52 (by decide) ?_
        exact J9 _ (by rw [if_neg c7])
      · refine lv_aload_n C.hx C.hb dX0_everyJudgeOnce_31 rfl (lv_at hl 1 rfl) ?_
        refine g_get (k := 4) (v := .ref (ad 5 (2 * c))) C (hW.1 4 c (show c < y 20 1 by omega)).1 rfl wu_X0 (by decide) wf_X0_54 rfl rfl dX0_everyJudgeOnce_32 ?_
        refine g_getN (k := 2) (v := .int (x 24 (2 * c))) C (hW.1 5 (2 * c) (lvH1 (show c < y 20 1 by omega))).1 rfl wu_X2 (by decide) wn_X0_125 rfl rfl dX0_everyJudgeOnce_35 ?_
        refine lv_iload_n C.hx C.hb dX0_everyJudgeOnce_38 rfl (lv_at hl 0 rfl) ?_
        refine lv_ior C.hx C.hb dX0_everyJudgeOnce_39 ?_
        refine lv_aload_n C.hx C.hb dX0_everyJudgeOnce_40 rfl (lv_at hl 1 rfl) ?_
        refine g_get (k := 10) (v := .int (x 21 c)) C (hW.1 4 c (show c < y 20 1 by omega)).1 rfl wu_X0 (by decide) wf_X0_25 rfl rfl dX0_everyJudgeOnce_41 ?_
        refine lv_iand C.hx C.hb dX0_everyJudgeOnce_44 ?_
        refine lv_if_ne (tgt := 52) C.hx C.hb dX0_everyJudgeOnce_45 (by decide) (fun c8 => ?_) (fun c8 => ?_)
        · refine lv_iconst (v := 0) C.hx C.hb dX0_everyJudgeOnce_52 (by decide) ?_
          exact J9 _ (by rw [if_pos c7, if_neg c8])
        · refine lv_iconst (v := 1) C.hx C.hb dX0_everyJudgeOnce_48 (by decide) ?_
          refine lv_goto (tgt := 53) C.hx C.hb dX0_everyJudgeOnce_49 (by decide) ?_
          exact J9 _ (by rw [if_pos c7, if_pos c8])
    · exact rZ C hr dX0_everyJudgeOnce_53 (by rw [hv10]; unfold s_X0_everyJudgeOnce; first | (rw [if_neg c1]; done) | simp only [if_neg c1] | (simp only [if_neg c1]; rfl)) (nb01 (by rw [hv10]; (repeat' split) <;> simp))
def s_X2_standAgainst (x : XX) (h : Nat) (j : Nat) (kg : Int32) : Int32 := (if (s_X2_hasVoter x h j) = 0 then 0 else (if kg = (-1) then (if (x 28 h) = 0 then 0 else (if (if ((x 25 h) &&& ((1 : Int32) <<< (nI j &&& 31))) = 0 then 0 else 1 : Int32) = (if kg = (-1) then s_X2_findsGuilty x h else (if kg = 1 then 1 else 0 : Int32) : Int32) then 1 else 2 : Int32)) else (if (if ((x 25 h) &&& ((1 : Int32) <<< (nI j &&& 31))) = 0 then 0 else 1 : Int32) = (if kg = (-1) then s_X2_findsGuilty x h else (if kg = 1 then 1 else 0 : Int32) : Int32) then 1 else 2 : Int32)))
set_option maxRecDepth 100000 in
set_option maxHeartbeats 1000000 in
theorem cC_X2_standAgainst (l : Launch) (G : GG) (A : Nat → Prop) (ad : YY) (x : XX) (y : YY) (z : Nat → Int64) (h : Nat) (j : Nat) (kg : Int32) (hh : lv y 5 h) (hj : j < 20) : MR l G yX2_standAgainst cX2_standAgainst 5 (some .int) 1 [.ref (ad 5 h), .ref (ad 2 j), .int kg] (CWd G A ad x y z) (some (.int (s_X2_standAgainst x h j kg))) := by
  refine MR.of RX2 rfl (by decide) (Nat.le_of_ble_eq_true rfl) ?_
  intro p_ e_ s_ m_ args_ below_ meth_ c_ ls hargs C hr hnm hW hl
  have hl : lv_has ls 5 [(0, .ref (ad 5 h)), (1, .ref (ad 2 j)), (2, .int kg)] := hl
  refine lv_aload_n C.hx C.hb dX2_standAgainst_0 rfl (lv_at hl 0 rfl) ?_
  refine lv_aload_n C.hx C.hb dX2_standAgainst_1 rfl (lv_at hl 1 rfl) ?_
  refine kVR (As := [.ref (ad 2 j)]) (rest := []) (v := .int (s_X2_hasVoter x h j)) C (cC_X2_hasVoter l G A ad x y z h j hh (by omega)) lk_X2_48 (g_recv C (hW.1 5 h hh).1 rfl) hW rfl rfl hl (Nat.le_of_ble_eq_true rfl) dX2_standAgainst_2 ⟨⟨by decide, by decide⟩, by decide, by decide⟩ ?_
  refine lv_if_eq (tgt := 20) C.hx C.hb dX2_standAgainst_5 (by decide) (fun c1 => ?_) (fun c1 => ?_)
  · refine lv_iconst (v := 0) C.hx C.hb dX2_standAgainst_20 (by decide) ?_
    exact rI C hr dX2_standAgainst_21 (by unfold s_X2_standAgainst; first | (rw [if_pos c1]; done) | simp only [if_pos c1] | (simp only [if_pos c1]; rfl))
  · refine lv_iload_n C.hx C.hb dX2_standAgainst_8 rfl (lv_at hl 2 rfl) ?_
    refine lv_iconst (v := (-1)) C.hx C.hb dX2_standAgainst_9 (by decide) ?_
    refine lv_icmp_ne (tgt := 22) C.hx C.hb dX2_standAgainst_10 (by decide) (fun c2 => ?_) (fun c2 => ?_)
    · refine lv_iload_n C.hx C.hb dX2_standAgainst_22 rfl (lv_at hl 2 rfl) ?_
      refine lv_iconst (v := (-1)) C.hx C.hb dX2_standAgainst_23 (by decide) ?_
      refine W.joinI (P := fun jv => jv = (if kg = (-1) then s_X2_findsGuilty x h else (if kg = 1 then 1 else 0 : Int32) : Int32)) 44 ls [] (fun J5 => ?_) (fun v6 hv6 => ?_)
      · refine lv_icmp_ne (tgt := 34) C.hx C.hb dX2_standAgainst_24 (by decide) (fun c3 => ?_) (fun c3 => ?_)
        · refine lv_iload_n C.hx C.hb dX2_standAgainst_34 rfl (lv_at hl 2 rfl) ?_
          refine lv_iconst (v := 1) C.hx C.hb dX2_standAgainst_35 (by decide) ?_
          refine lv_icmp_ne (tgt := 43) C.hx C.hb dX2_standAgainst_36 (by decide) (fun c4 => ?_) (fun c4 => ?_)
          · refine lv_iconst (v := 0) C.hx C.hb dX2_standAgainst_43 (by decide) ?_
            exact J5 _ (by rw [if_neg c3, if_neg c4])
          · refine lv_iconst (v := 1) C.hx C.hb dX2_standAgainst_39 (by decide) ?_
            refine lv_goto (tgt := 44) C.hx C.hb dX2_standAgainst_40 (by decide) ?_
            exact J5 _ (by rw [if_neg c3, if_pos c4])
        · refine lv_aload_n C.hx C.hb dX2_standAgainst_27 rfl (lv_at hl 0 rfl) ?_
          refine kVR (As := []) (rest := []) (v := .int (s_X2_findsGuilty x h)) C (cC_X2_findsGuilty l G A ad x y z h hh) lk_X2_52 (g_recv C (hW.1 5 h hh).1 rfl) hW rfl rfl hl (Nat.le_of_ble_eq_true rfl) dX2_standAgainst_28 ⟨⟨by decide, by decide⟩, by decide, by decide⟩ ?_
          refine lv_goto (tgt := 44) C.hx C.hb dX2_standAgainst_31 (by decide) ?_
          exact J5 _ (by rw [if_pos c3])
      · refine lv_istore_n (lv' := [(3, .int v6), (0, .ref (ad 5 h)), (1, .ref (ad 2 j)), (2, .int kg)]) C.hx C.hb dX2_standAgainst_44 rfl hl (by decide) rfl (fun ls hl => ?_)
        refine lv_aload_n C.hx C.hb dX2_standAgainst_45 rfl (lv_at hl 1 rfl) ?_
        refine g_get (k := 3) (v := .int (x 25 h)) C (hW.1 5 h hh).1 rfl wu_X2 (by decide) wf_X2_18 rfl rfl dX2_standAgainst_46 ?_
        refine lv_aload_n C.hx C.hb dX2_standAgainst_49 rfl (lv_at hl 2 rfl) ?_
        refine g_getN (k := 0) (v := .int ((1 : Int32) <<< (nI j &&& 31))) C (hW.1 2 j (show j < 20 by omega)).1 rfl wu_X3 (by decide) wn_X2_40 rfl rfl dX2_standAgainst_50 ?_
        refine lv_iand C.hx C.hb dX2_standAgainst_53 ?_
        refine W.joinI (P := fun jv => jv = (if ((x 25 h) &&& ((1 : Int32) <<< (nI j &&& 31))) = 0 then 0 else 1 : Int32)) 62 ls [] (fun J8 => ?_) (fun v9 hv9 => ?_)
        · refine lv_if_eq (tgt := 61) C.hx C.hb dX2_standAgainst_54 (by decide) (fun c7 => ?_) (fun c7 => ?_)
          · refine lv_iconst (v := 0) C.hx C.hb dX2_standAgainst_61 (by decide) ?_
            exact J8 _ (by rw [if_pos c7])
          · refine lv_iconst (v := 1) C.hx C.hb dX2_standAgainst_57 (by decide) ?_
            refine lv_goto (tgt := 62) C.hx C.hb dX2_standAgainst_58 (by decide) ?_
            exact J8 _ (by rw [if_neg c7])
        · refine lv_istore (lv' := [(4, .int v9), (3, .int v6), (0, .ref (ad 5 h)), (1, .ref (ad 2 j)), (2, .int kg)]) C.hx C.hb dX2_standAgainst_62 hl (by decide) rfl (fun ls hl => ?_)
          refine lv_iload C.hx C.hb dX2_standAgainst_64 (lv_at hl 0 rfl) ?_
          refine lv_iload_n C.hx C.hb dX2_standAgainst_66 rfl (lv_at hl 1 rfl) ?_
          refine W.joinI (P := fun jv => jv = (if v9 = v6 then 1 else 2 : Int32)) 75 ls [] (fun J11 => ?_) (fun v12 hv12 => ?_)
          · refine lv_icmp_ne (tgt := 74) C.hx C.hb dX2_standAgainst_67 (by decide) (fun c10 => ?_) (fun c10 => ?_)
            · refine lv_iconst (v := 2) C.hx C.hb dX2_standAgainst_74 (by decide) ?_
              exact J11 _ (by rw [if_neg c10])
            · refine lv_iconst (v := 1) C.hx C.hb dX2_standAgainst_70 (by decide) ?_
              refine lv_goto (tgt := 75) C.hx C.hb dX2_standAgainst_71 (by decide) ?_
              exact J11 _ (by rw [if_pos c10])
          · exact rI C hr dX2_standAgainst_75 (by rw [hv12]; rw [hv9]; rw [hv6]; unfold s_X2_standAgainst; first | (rw [if_neg c1, if_neg c2]; done) | simp only [if_neg c1, if_neg c2] | (simp only [if_neg c1, if_neg c2]; rfl))
    · refine lv_aload_n C.hx C.hb dX2_standAgainst_13 rfl (lv_at hl 0 rfl) ?_
      refine g_get (k := 6) (v := .int (x 28 h)) C (hW.1 5 h hh).1 rfl wu_X2 (by decide) wf_X2_27 rfl rfl dX2_standAgainst_14 ?_
      refine lv_if_ne (tgt := 22) C.hx C.hb dX2_standAgainst_17 (by decide) (fun c13 => ?_) (fun c13 => ?_)
      · refine lv_iload_n C.hx C.hb dX2_standAgainst_22 rfl (lv_at hl 2 rfl) ?_
        refine lv_iconst (v := (-1)) C.hx C.hb dX2_standAgainst_23 (by decide) ?_
        refine W.joinI (P := fun jv => jv = (if kg = (-1) then s_X2_findsGuilty x h else (if kg = 1 then 1 else 0 : Int32) : Int32)) 44 ls [] (fun J16 => ?_) (fun v17 hv17 => ?_)
        · refine lv_icmp_ne (tgt := 34) C.hx C.hb dX2_standAgainst_24 (by decide) (fun c14 => ?_) (fun c14 => ?_)
          · refine lv_iload_n C.hx C.hb dX2_standAgainst_34 rfl (lv_at hl 2 rfl) ?_
            refine lv_iconst (v := 1) C.hx C.hb dX2_standAgainst_35 (by decide) ?_
            refine lv_icmp_ne (tgt := 43) C.hx C.hb dX2_standAgainst_36 (by decide) (fun c15 => ?_) (fun c15 => ?_)
            · refine lv_iconst (v := 0) C.hx C.hb dX2_standAgainst_43 (by decide) ?_
              exact J16 _ (by rw [if_neg c14, if_neg c15])
            · refine lv_iconst (v := 1) C.hx C.hb dX2_standAgainst_39 (by decide) ?_
              refine lv_goto (tgt := 44) C.hx C.hb dX2_standAgainst_40 (by decide) ?_
              exact J16 _ (by rw [if_neg c14, if_pos c15])
          · refine lv_aload_n C.hx C.hb dX2_standAgainst_27 rfl (lv_at hl 0 rfl) ?_
            refine kVR (As := []) (rest := []) (v := .int (s_X2_findsGuilty x h)) C (cC_X2_findsGuilty l G A ad x y z h hh) lk_X2_52 (g_recv C (hW.1 5 h hh).1 rfl) hW rfl rfl hl (Nat.le_of_ble_eq_true rfl) dX2_standAgainst_28 ⟨⟨by decide, by decide⟩, by decide, by decide⟩ ?_
            refine lv_goto (tgt := 44) C.hx C.hb dX2_standAgainst_31 (by decide) ?_
            exact J16 _ (by rw [if_pos c14])
        · refine lv_istore_n (lv' := [(3, .int v17), (0, .ref (ad 5 h)), (1, .ref (ad 2 j)), (2, .int kg)]) C.hx C.hb dX2_standAgainst_44 rfl hl (by decide) rfl (fun ls hl => ?_)
          refine lv_aload_n C.hx C.hb dX2_standAgainst_45 rfl (lv_at hl 1 rfl) ?_
          refine g_get (k := 3) (v := .int (x 25 h)) C (hW.1 5 h hh).1 rfl wu_X2 (by decide) wf_X2_18 rfl rfl dX2_standAgainst_46 ?_
          refine lv_aload_n C.hx C.hb dX2_standAgainst_49 rfl (lv_at hl 2 rfl) ?_
          refine g_getN (k := 0) (v := .int ((1 : Int32) <<< (nI j &&& 31))) C (hW.1 2 j (show j < 20 by omega)).1 rfl wu_X3 (by decide) wn_X2_40 rfl rfl dX2_standAgainst_50 ?_
          refine lv_iand C.hx C.hb dX2_standAgainst_53 ?_
          refine W.joinI (P := fun jv => jv = (if ((x 25 h) &&& ((1 : Int32) <<< (nI j &&& 31))) = 0 then 0 else 1 : Int32)) 62 ls [] (fun J19 => ?_) (fun v20 hv20 => ?_)
          · refine lv_if_eq (tgt := 61) C.hx C.hb dX2_standAgainst_54 (by decide) (fun c18 => ?_) (fun c18 => ?_)
            · refine lv_iconst (v := 0) C.hx C.hb dX2_standAgainst_61 (by decide) ?_
              exact J19 _ (by rw [if_pos c18])
            · refine lv_iconst (v := 1) C.hx C.hb dX2_standAgainst_57 (by decide) ?_
              refine lv_goto (tgt := 62) C.hx C.hb dX2_standAgainst_58 (by decide) ?_
              exact J19 _ (by rw [if_neg c18])
          · refine lv_istore (lv' := [(4, .int v20), (3, .int v17), (0, .ref (ad 5 h)), (1, .ref (ad 2 j)), (2, .int kg)]) C.hx C.hb dX2_standAgainst_62 hl (by decide) rfl (fun ls hl => ?_)
            refine lv_iload C.hx C.hb dX2_standAgainst_64 (lv_at hl 0 rfl) ?_
            refine lv_iload_n C.hx C.hb dX2_standAgainst_66 rfl (lv_at hl 1 rfl) ?_
            refine W.joinI (P := fun jv => jv = (if v20 = v17 then 1 else 2 : Int32)) 75 ls [] (fun J22 => ?_) (fun v23 hv23 => ?_)
            · refine lv_icmp_ne (tgt := 74) C.hx C.hb dX2_standAgainst_67 (by decide) (fun c21 => ?_) (fun c21 => ?_)
              · refine lv_iconst (v := 2) C.hx C.hb dX2_standAgainst_74 (by decide) ?_
                exact J22 _ (by rw [if_neg c21])
              · refine lv_iconst (v := 1) C.hx C.hb dX2_standAgainst_70 (by decide) ?_
                refine lv_goto (tgt := 75) C.hx C.hb dX2_standAgainst_71 (by decide) ?_
                exact J22 _ (by rw [if_pos c21])
            · exact rI C hr dX2_standAgainst_75 (by rw [hv23]; rw [hv20]; rw [hv17]; unfold s_X2_standAgainst; first | (rw [if_neg c1, if_pos c2, if_neg c13]; done) | simp only [if_neg c1, if_pos c2, if_neg c13] | (simp only [if_neg c1, if_pos c2, if_neg c13]; rfl))
      · refine lv_iconst (v := 0) C.hx C.hb dX2_standAgainst_20 (by decide) ?_
        exact rI C hr dX2_standAgainst_21 (by unfold s_X2_standAgainst; first | (rw [if_neg c1, if_pos c2, if_pos c13]; done) | simp only [if_neg c1, if_pos c2, if_pos c13] | (simp only [if_neg c1, if_pos c2, if_pos c13]; rfl))
def s_X0_standOf (x : XX) (y : YY) (c : Nat) (j : Nat) : Int32 := (if (s_X2_standAgainst x (2 * c) j (x 20 c)) = 0 then (if y 4 c = 0 then s_X2_standAgainst x (2 * c) j (x 20 c) else s_X2_standAgainst x (2 * c + 1) j (x 20 c) : Int32) else s_X2_standAgainst x (2 * c) j (x 20 c) : Int32)
set_option maxRecDepth 100000 in
set_option maxHeartbeats 1000000 in
theorem cC_X0_standOf (l : Launch) (G : GG) (A : Nat → Prop) (ad : YY) (x : XX) (y : YY) (z : Nat → Int64) (c : Nat) (j : Nat) (hc : c < y 20 1) (hj : j < 20) : MR l G yX0_standOf cX0_standOf 3 (some .int) 2 [.ref (ad 4 c), .ref (ad 2 j)] (CWd G A ad x y z) (some (.int (s_X0_standOf x y c j))) := by
  refine MR.of RX0 rfl (by decide) (Nat.le_of_ble_eq_true rfl) ?_
  intro p_ e_ s_ m_ args_ below_ meth_ c_ ls hargs C hr hnm hW hl
  have hl : lv_has ls 3 [(0, .ref (ad 4 c)), (1, .ref (ad 2 j))] := hl
  refine lv_aload_n C.hx C.hb dX0_standOf_0 rfl (lv_at hl 0 rfl) ?_
  refine g_get (k := 4) (v := .ref (ad 5 (2 * c))) C (hW.1 4 c (show c < y 20 1 by omega)).1 rfl wu_X0 (by decide) wf_X0_54 rfl rfl dX0_standOf_1 ?_
  refine lv_aload_n C.hx C.hb dX0_standOf_4 rfl (lv_at hl 1 rfl) ?_
  refine lv_aload_n C.hx C.hb dX0_standOf_5 rfl (lv_at hl 0 rfl) ?_
  refine g_get (k := 9) (v := .int (x 20 c)) C (hW.1 4 c (show c < y 20 1 by omega)).1 rfl wu_X0 (by decide) wf_X0_22 rfl rfl dX0_standOf_6 ?_
  refine kVNR (As := [.ref (ad 2 j), .int (x 20 c)]) (rest := []) (v := .int (s_X2_standAgainst x (2 * c) j (x 20 c))) C (cC_X2_standAgainst l G A ad x y z (2 * c) j (x 20 c) (lvH1 (show c < y 20 1 by omega)) (by omega)) lk_X0_121 (g_recv C (hW.1 5 (2 * c) (lvH1 (show c < y 20 1 by omega))).1 rfl) hW rfl rfl hl (Nat.le_of_ble_eq_true rfl) dX0_standOf_9 ⟨⟨by decide, by decide⟩, by decide, by decide⟩ ?_
  refine lv_istore_n (lv' := [(2, .int (s_X2_standAgainst x (2 * c) j (x 20 c))), (0, .ref (ad 4 c)), (1, .ref (ad 2 j))]) C.hx C.hb dX0_standOf_12 rfl hl (by decide) rfl (fun ls hl => ?_)
  refine lv_iload_n C.hx C.hb dX0_standOf_13 rfl (lv_at hl 0 rfl) ?_
  refine W.joinL (P := fun ls => lv_has ls 3 [(2, .int ((if (s_X2_standAgainst x (2 * c) j (x 20 c)) = 0 then (if y 4 c = 0 then s_X2_standAgainst x (2 * c) j (x 20 c) else s_X2_standAgainst x (2 * c + 1) j (x 20 c) : Int32) else s_X2_standAgainst x (2 * c) j (x 20 c) : Int32))), (0, .ref (ad 4 c)), (1, .ref (ad 2 j))]) 37 [] (fun J4 => ?_) (fun ls hl => ?_)
  · refine lv_if_ne (tgt := 37) C.hx C.hb dX0_standOf_14 (by decide) (fun c1 => ?_) (fun c1 => ?_)
    · exact J4 _ (by rw [show (if (s_X2_standAgainst x (2 * c) j (x 20 c)) = 0 then (if y 4 c = 0 then s_X2_standAgainst x (2 * c) j (x 20 c) else s_X2_standAgainst x (2 * c + 1) j (x 20 c) : Int32) else s_X2_standAgainst x (2 * c) j (x 20 c) : Int32) = s_X2_standAgainst x (2 * c) j (x 20 c) from by rw [if_neg c1]]; exact lv_sub hl [0, 1, 2] rfl)
    · refine lv_aload_n C.hx C.hb dX0_standOf_17 rfl (lv_at hl 1 rfl) ?_
      by_cases c2 : y 4 c = 0
      · refine g_get (k := 5) (v := .null) C (hW.1 4 c (show c < y 20 1 by omega)).1 rfl wu_X0 (by decide) wf_X0_9 rfl (by show some (opt _ (y 4 c)) = _; rw [c2]; rfl) dX0_standOf_18 ?_
        refine lv_ifnullN (tgt := 37) C.hx C.hb dX0_standOf_21 (by decide) ?_
        exact J4 _ (by rw [show (if (s_X2_standAgainst x (2 * c) j (x 20 c)) = 0 then (if y 4 c = 0 then s_X2_standAgainst x (2 * c) j (x 20 c) else s_X2_standAgainst x (2 * c + 1) j (x 20 c) : Int32) else s_X2_standAgainst x (2 * c) j (x 20 c) : Int32) = s_X2_standAgainst x (2 * c) j (x 20 c) from by rw [if_pos c1, if_pos c2]]; exact lv_sub hl [0, 1, 2] rfl)
      · refine g_get (k := 5) (v := .ref (ad 5 (2 * c + 1))) C (hW.1 4 c (show c < y 20 1 by omega)).1 rfl wu_X0 (by decide) wf_X0_9 rfl (by show some (opt _ (y 4 c)) = _; rw [show y 4 c = (y 4 c - 1) + 1 by omega]; rfl) dX0_standOf_18 ?_
        refine lv_ifnull C.hx C.hb dX0_standOf_21 ?_
        refine lv_aload_n C.hx C.hb dX0_standOf_24 rfl (lv_at hl 1 rfl) ?_
        refine g_get (k := 5) (v := .ref (ad 5 (2 * c + 1))) C (hW.1 4 c (show c < y 20 1 by omega)).1 rfl wu_X0 (by decide) wf_X0_9 rfl (by show some (opt _ (y 4 c)) = _; rw [show y 4 c = (y 4 c - 1) + 1 by omega]; rfl) dX0_standOf_25 ?_
        refine lv_aload_n C.hx C.hb dX0_standOf_28 rfl (lv_at hl 2 rfl) ?_
        refine lv_aload_n C.hx C.hb dX0_standOf_29 rfl (lv_at hl 1 rfl) ?_
        refine g_get (k := 9) (v := .int (x 20 c)) C (hW.1 4 c (show c < y 20 1 by omega)).1 rfl wu_X0 (by decide) wf_X0_22 rfl rfl dX0_standOf_30 ?_
        refine kVNR (As := [.ref (ad 2 j), .int (x 20 c)]) (rest := []) (v := .int (s_X2_standAgainst x (2 * c + 1) j (x 20 c))) C (cC_X2_standAgainst l G A ad x y z (2 * c + 1) j (x 20 c) (lvH2 (show c < y 20 1 by omega) c2) (by omega)) lk_X0_121 (g_recv C (hW.1 5 (2 * c + 1) (lvH2 (show c < y 20 1 by omega) c2)).1 rfl) hW rfl rfl hl (Nat.le_of_ble_eq_true rfl) dX0_standOf_33 ⟨⟨by decide, by decide⟩, by decide, by decide⟩ ?_
        refine lv_istore_n (lv' := [(2, .int (s_X2_standAgainst x (2 * c + 1) j (x 20 c))), (0, .ref (ad 4 c)), (1, .ref (ad 2 j))]) C.hx C.hb dX0_standOf_36 rfl hl (by decide) rfl (fun ls hl => ?_)
        exact J4 _ (by rw [show (if (s_X2_standAgainst x (2 * c) j (x 20 c)) = 0 then (if y 4 c = 0 then s_X2_standAgainst x (2 * c) j (x 20 c) else s_X2_standAgainst x (2 * c + 1) j (x 20 c) : Int32) else s_X2_standAgainst x (2 * c) j (x 20 c) : Int32) = s_X2_standAgainst x (2 * c + 1) j (x 20 c) from by rw [if_pos c1, if_neg c2]]; exact lv_sub hl [0, 1, 2] rfl)
  · refine lv_iload_n C.hx C.hb dX0_standOf_37 rfl (lv_at hl 0 rfl) ?_
    exact rI C hr dX0_standOf_38 (by unfold s_X0_standOf; with_reducible rfl)
