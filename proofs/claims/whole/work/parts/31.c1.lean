/-- references are of things that are there; the lists' arrays hold them -/
def CI (y : YY) : Prop := (∀ c, c < y 20 1 → y 2 c < y 20 0 ∧ y 3 c < 8 ∧ y 5 c ≤ y 20 1) ∧ (∀ p, p < y 20 0 → y 0 p ≤ y 20 1 ∧ y 1 p ≤ y 20 1) ∧ (∀ g, g < y 20 2 → y 6 g < 20 ∧ y 7 g < y 20 1) ∧ y 20 0 ≤ 300 ∧ y 20 1 ≤ 400 ∧ y 20 2 ≤ 400 ∧ ∀ l, l < 3 → y 20 l ≤ y 21 l ∧ y 21 l ≤ 600
theorem lvH1 {y : YY} {c : Nat} (h : c < y 20 1) : lv y 5 (2 * c) := ⟨by rw [show 2 * c / 2 = c by omega]; exact h, Or.inl (by omega)⟩
theorem lvH2 {y : YY} {c : Nat} (h : c < y 20 1) (k : ¬ y 4 c = 0) : lv y 5 (2 * c + 1) := ⟨by rw [show (2 * c + 1) / 2 = c by omega]; exact h, Or.inr (by rw [show (2 * c + 1) / 2 = c by omega]; exact k)⟩
def s_X2_votes (x : XX) (h : Nat) : Int32 := s_bitCount (x 24 h)
set_option maxRecDepth 100000 in
set_option maxHeartbeats 1000000 in
theorem cC_X2_votes (l : Launch) (G : GG) (A : Nat → Prop) (ad : YY) (x : XX) (y : YY) (z : Nat → Int64) (h : Nat) (hh : lv y 5 h) : MR l G yX2_votes cX2_votes 1 (some .int) 1 [.ref (ad 5 h)] (CWd G A ad x y z) (some (.int (s_X2_votes x h))) := by
  refine MR.of RX2 rfl (by decide) (Nat.le_of_ble_eq_true rfl) ?_
  intro p_ e_ s_ m_ args_ below_ meth_ c_ ls hargs C hr hnm hW hl
  have hl : lv_has ls 1 [(0, .ref (ad 5 h))] := hl
  refine lv_aload_n C.hx C.hb dX2_votes_0 rfl (lv_at hl 0 rfl) ?_
  refine g_get (k := 2) (v := .int (x 24 h)) C (hW.1 5 h hh).1 rfl wu_X2 (by decide) wf_X2_15 rfl rfl dX2_votes_1 ?_
  refine kSR (As := [.int (x 24 h)]) (rest := []) (v := .int (s_bitCount (x 24 h))) C (cJ_bitCount l G (x 24 h)) lk_X2_34 trivial rfl rfl hl (Nat.le_of_ble_eq_true rfl) dX2_votes_4 ⟨⟨by decide, by decide⟩, by decide, by decide⟩ ?_
  exact rI C hr dX2_votes_7 (by unfold s_X2_votes; with_reducible rfl)
def s_X2_isAgreed (x : XX) (h : Nat) : Int32 := (if ((2 * (x 26 h)) + (2 * (x 27 h))) ≤ (3 * (x 26 h)) then 1 else (if (3 * (x 27 h)) < ((2 * (x 26 h)) + (2 * (x 27 h))) then 0 else 1 : Int32) : Int32)
set_option maxRecDepth 100000 in
set_option maxHeartbeats 1000000 in
theorem cC_X2_isAgreed (l : Launch) (G : GG) (A : Nat → Prop) (ad : YY) (x : XX) (y : YY) (z : Nat → Int64) (h : Nat) (hh : lv y 5 h) : MR l G yX2_isAgreed cX2_isAgreed 2 (some .boolean) 0 [.ref (ad 5 h)] (CWd G A ad x y z) (some (.int (s_X2_isAgreed x h))) := by
  refine MR.of RX2 rfl (by decide) (Nat.le_of_ble_eq_true rfl) ?_
  intro p_ e_ s_ m_ args_ below_ meth_ c_ ls hargs C hr hnm hW hl
  have hl : lv_has ls 2 [(0, .ref (ad 5 h))] := hl
  refine lv_iconst (v := 2) C.hx C.hb dX2_isAgreed_0 (by decide) ?_
  refine lv_aload_n C.hx C.hb dX2_isAgreed_1 rfl (lv_at hl 0 rfl) ?_
  refine g_get (k := 4) (v := .int (x 26 h)) C (hW.1 5 h hh).1 rfl wu_X2 (by decide) wf_X2_21 rfl rfl dX2_isAgreed_2 ?_
  refine lv_imul C.hx C.hb dX2_isAgreed_5 ?_
  refine lv_iconst (v := 2) C.hx C.hb dX2_isAgreed_6 (by decide) ?_
  refine lv_aload_n C.hx C.hb dX2_isAgreed_7 rfl (lv_at hl 0 rfl) ?_
  refine g_get (k := 5) (v := .int (x 27 h)) C (hW.1 5 h hh).1 rfl wu_X2 (by decide) wf_X2_24 rfl rfl dX2_isAgreed_8 ?_
  refine lv_imul C.hx C.hb dX2_isAgreed_11 ?_
  refine lv_iadd C.hx C.hb dX2_isAgreed_12 ?_
  refine lv_istore_n (lv' := [(1, .int ((2 * (x 26 h)) + (2 * (x 27 h)))), (0, .ref (ad 5 h))]) C.hx C.hb dX2_isAgreed_13 rfl hl (by decide) rfl (fun ls hl => ?_)
  refine lv_iconst (v := 3) C.hx C.hb dX2_isAgreed_14 (by decide) ?_
  refine lv_aload_n C.hx C.hb dX2_isAgreed_15 rfl (lv_at hl 1 rfl) ?_
  refine g_get (k := 4) (v := .int (x 26 h)) C (hW.1 5 h hh).1 rfl wu_X2 (by decide) wf_X2_21 rfl rfl dX2_isAgreed_16 ?_
  refine lv_imul C.hx C.hb dX2_isAgreed_19 ?_
  refine lv_iload_n C.hx C.hb dX2_isAgreed_20 rfl (lv_at hl 0 rfl) ?_
  refine W.joinI (P := fun jv => jv = (if ((2 * (x 26 h)) + (2 * (x 27 h))) ≤ (3 * (x 26 h)) then 1 else (if (3 * (x 27 h)) < ((2 * (x 26 h)) + (2 * (x 27 h))) then 0 else 1 : Int32) : Int32)) 39 ls [] (fun J3 => ?_) (fun v4 hv4 => ?_)
  · refine lv_icmp_ge (tgt := 34) C.hx C.hb dX2_isAgreed_21 (by decide) (fun c1 => ?_) (fun c1 => ?_)
    · refine lv_iconst (v := 1) C.hx C.hb dX2_isAgreed_34 (by decide) ?_
      refine lv_goto (tgt := 39) C.hx C.hb dX2_isAgreed_35 (by decide) ?_
      exact J3 _ (by rw [if_pos c1])
    · refine lv_iconst (v := 3) C.hx C.hb dX2_isAgreed_24 (by decide) ?_
      refine lv_aload_n C.hx C.hb dX2_isAgreed_25 rfl (lv_at hl 1 rfl) ?_
      refine g_get (k := 5) (v := .int (x 27 h)) C (hW.1 5 h hh).1 rfl wu_X2 (by decide) wf_X2_24 rfl rfl dX2_isAgreed_26 ?_
      refine lv_imul C.hx C.hb dX2_isAgreed_29 ?_
      refine lv_iload_n C.hx C.hb dX2_isAgreed_30 rfl (lv_at hl 0 rfl) ?_
      refine lv_icmp_lt (tgt := 38) C.hx C.hb dX2_isAgreed_31 (by decide) (fun c2 => ?_) (fun c2 => ?_)
      · refine lv_iconst (v := 0) C.hx C.hb dX2_isAgreed_38 (by decide) ?_
        exact J3 _ (by rw [if_neg c1, if_pos c2])
      · refine lv_iconst (v := 1) C.hx C.hb dX2_isAgreed_34 (by decide) ?_
        refine lv_goto (tgt := 39) C.hx C.hb dX2_isAgreed_35 (by decide) ?_
        exact J3 _ (by rw [if_neg c1, if_neg c2])
  · exact rZ C hr dX2_isAgreed_39 (by rw [hv4]; unfold s_X2_isAgreed; with_reducible rfl) (nb01 (by rw [hv4]; (repeat' split) <;> simp))
def s_X2_mayAskMore (x : XX) (h : Nat) : Int32 := (if 2 ≤ (x 23 h) then 0 else (if 7 < (x 22 h) then 0 else 1 : Int32) : Int32)
set_option maxRecDepth 100000 in
set_option maxHeartbeats 1000000 in
theorem cC_X2_mayAskMore (l : Launch) (G : GG) (A : Nat → Prop) (ad : YY) (x : XX) (y : YY) (z : Nat → Int64) (h : Nat) (hh : lv y 5 h) : MR l G yX2_mayAskMore cX2_mayAskMore 1 (some .boolean) 0 [.ref (ad 5 h)] (CWd G A ad x y z) (some (.int (s_X2_mayAskMore x h))) := by
  refine MR.of RX2 rfl (by decide) (Nat.le_of_ble_eq_true rfl) ?_
  intro p_ e_ s_ m_ args_ below_ meth_ c_ ls hargs C hr hnm hW hl
  have hl : lv_has ls 1 [(0, .ref (ad 5 h))] := hl
  refine lv_aload_n C.hx C.hb dX2_mayAskMore_0 rfl (lv_at hl 0 rfl) ?_
  refine g_get (k := 1) (v := .int (x 23 h)) C (hW.1 5 h hh).1 rfl wu_X2 (by decide) wf_X2_9 rfl rfl dX2_mayAskMore_1 ?_
  refine lv_iconst (v := 2) C.hx C.hb dX2_mayAskMore_4 (by decide) ?_
  refine W.joinI (P := fun jv => jv = (if 2 ≤ (x 23 h) then 0 else (if 7 < (x 22 h) then 0 else 1 : Int32) : Int32)) 22 ls [] (fun J3 => ?_) (fun v4 hv4 => ?_)
  · refine lv_icmp_ge (tgt := 21) C.hx C.hb dX2_mayAskMore_5 (by decide) (fun c1 => ?_) (fun c1 => ?_)
    · refine lv_iconst (v := 0) C.hx C.hb dX2_mayAskMore_21 (by decide) ?_
      exact J3 _ (by rw [if_pos c1])
    · refine lv_aload_n C.hx C.hb dX2_mayAskMore_8 rfl (lv_at hl 0 rfl) ?_
      refine g_get (k := 0) (v := .int (x 22 h)) C (hW.1 5 h hh).1 rfl wu_X2 (by decide) wf_X2_31 rfl rfl dX2_mayAskMore_9 ?_
      refine lv_bipush (v := 7) C.hx C.hb dX2_mayAskMore_12 (by decide) ?_
      refine lv_icmp_gt (tgt := 21) C.hx C.hb dX2_mayAskMore_14 (by decide) (fun c2 => ?_) (fun c2 => ?_)
      · refine lv_iconst (v := 0) C.hx C.hb dX2_mayAskMore_21 (by decide) ?_
        exact J3 _ (by rw [if_neg c1, if_pos c2])
      · refine lv_iconst (v := 1) C.hx C.hb dX2_mayAskMore_17 (by decide) ?_
        refine lv_goto (tgt := 22) C.hx C.hb dX2_mayAskMore_18 (by decide) ?_
        exact J3 _ (by rw [if_neg c1, if_neg c2])
  · exact rZ C hr dX2_mayAskMore_22 (by rw [hv4]; unfold s_X2_mayAskMore; with_reducible rfl) (nb01 (by rw [hv4]; (repeat' split) <;> simp))
def s_X2_findsGuilty (x : XX) (h : Nat) : Int32 := (if (x 26 h) ≤ (x 27 h) then 0 else 1 : Int32)
set_option maxRecDepth 100000 in
set_option maxHeartbeats 1000000 in
theorem cC_X2_findsGuilty (l : Launch) (G : GG) (A : Nat → Prop) (ad : YY) (x : XX) (y : YY) (z : Nat → Int64) (h : Nat) (hh : lv y 5 h) : MR l G yX2_findsGuilty cX2_findsGuilty 1 (some .boolean) 0 [.ref (ad 5 h)] (CWd G A ad x y z) (some (.int (s_X2_findsGuilty x h))) := by
  refine MR.of RX2 rfl (by decide) (Nat.le_of_ble_eq_true rfl) ?_
  intro p_ e_ s_ m_ args_ below_ meth_ c_ ls hargs C hr hnm hW hl
  have hl : lv_has ls 1 [(0, .ref (ad 5 h))] := hl
  refine lv_aload_n C.hx C.hb dX2_findsGuilty_0 rfl (lv_at hl 0 rfl) ?_
  refine g_get (k := 4) (v := .int (x 26 h)) C (hW.1 5 h hh).1 rfl wu_X2 (by decide) wf_X2_21 rfl rfl dX2_findsGuilty_1 ?_
  refine lv_aload_n C.hx C.hb dX2_findsGuilty_4 rfl (lv_at hl 0 rfl) ?_
  refine g_get (k := 5) (v := .int (x 27 h)) C (hW.1 5 h hh).1 rfl wu_X2 (by decide) wf_X2_24 rfl rfl dX2_findsGuilty_5 ?_
  refine W.joinI (P := fun jv => jv = (if (x 26 h) ≤ (x 27 h) then 0 else 1 : Int32)) 16 ls [] (fun J2 => ?_) (fun v3 hv3 => ?_)
  · refine lv_icmp_le (tgt := 15) C.hx C.hb dX2_findsGuilty_8 (by decide) (fun c1 => ?_) (fun c1 => ?_)
    · refine lv_iconst (v := 0) C.hx C.hb dX2_findsGuilty_15 (by decide) ?_
      exact J2 _ (by rw [if_pos c1])
    · refine lv_iconst (v := 1) C.hx C.hb dX2_findsGuilty_11 (by decide) ?_
      refine lv_goto (tgt := 16) C.hx C.hb dX2_findsGuilty_12 (by decide) ?_
      exact J2 _ (by rw [if_neg c1])
  · exact rZ C hr dX2_findsGuilty_16 (by rw [hv3]; unfold s_X2_findsGuilty; with_reducible rfl) (nb01 (by rw [hv3]; (repeat' split) <;> simp))
def s_X2_hasVoter (x : XX) (h : Nat) (j : Nat) : Int32 := (if ((x 24 h) &&& ((1 : Int32) <<< (nI j &&& 31))) = 0 then 0 else 1 : Int32)
set_option maxRecDepth 100000 in
set_option maxHeartbeats 1000000 in
theorem cC_X2_hasVoter (l : Launch) (G : GG) (A : Nat → Prop) (ad : YY) (x : XX) (y : YY) (z : Nat → Int64) (h : Nat) (j : Nat) (hh : lv y 5 h) (hj : j < 20) : MR l G yX2_hasVoter cX2_hasVoter 2 (some .boolean) 0 [.ref (ad 5 h), .ref (ad 2 j)] (CWd G A ad x y z) (some (.int (s_X2_hasVoter x h j))) := by
  refine MR.of RX2 rfl (by decide) (Nat.le_of_ble_eq_true rfl) ?_
  intro p_ e_ s_ m_ args_ below_ meth_ c_ ls hargs C hr hnm hW hl
  have hl : lv_has ls 2 [(0, .ref (ad 5 h)), (1, .ref (ad 2 j))] := hl
  refine lv_aload_n C.hx C.hb dX2_hasVoter_0 rfl (lv_at hl 0 rfl) ?_
  refine g_get (k := 2) (v := .int (x 24 h)) C (hW.1 5 h hh).1 rfl wu_X2 (by decide) wf_X2_15 rfl rfl dX2_hasVoter_1 ?_
  refine lv_aload_n C.hx C.hb dX2_hasVoter_4 rfl (lv_at hl 1 rfl) ?_
  refine g_getN (k := 0) (v := .int ((1 : Int32) <<< (nI j &&& 31))) C (hW.1 2 j (show j < 20 by omega)).1 rfl wu_X3 (by decide) wn_X2_40 rfl rfl dX2_hasVoter_5 ?_
  refine lv_iand C.hx C.hb dX2_hasVoter_8 ?_
  refine W.joinI (P := fun jv => jv = (if ((x 24 h) &&& ((1 : Int32) <<< (nI j &&& 31))) = 0 then 0 else 1 : Int32)) 17 ls [] (fun J2 => ?_) (fun v3 hv3 => ?_)
  · refine lv_if_eq (tgt := 16) C.hx C.hb dX2_hasVoter_9 (by decide) (fun c1 => ?_) (fun c1 => ?_)
    · refine lv_iconst (v := 0) C.hx C.hb dX2_hasVoter_16 (by decide) ?_
      exact J2 _ (by rw [if_pos c1])
    · refine lv_iconst (v := 1) C.hx C.hb dX2_hasVoter_12 (by decide) ?_
      refine lv_goto (tgt := 17) C.hx C.hb dX2_hasVoter_13 (by decide) ?_
      exact J2 _ (by rw [if_neg c1])
  · exact rZ C hr dX2_hasVoter_17 (by rw [hv3]; unfold s_X2_hasVoter; with_reducible rfl) (nb01 (by rw [hv3]; (repeat' split) <;> simp))
def s_X3_isFree (x : XX) (j : Nat) : Int32 := (if (x 9 j) = 0 then (if (x 7 j) ≤ (x 10 j) then 0 else 1 : Int32) else 0 : Int32)
set_option maxRecDepth 100000 in
set_option maxHeartbeats 1000000 in
theorem cC_X3_isFree (l : Launch) (G : GG) (A : Nat → Prop) (ad : YY) (x : XX) (y : YY) (z : Nat → Int64) (j : Nat) (hj : j < 20) : MR l G yX3_isFree cX3_isFree 1 (some .boolean) 0 [.ref (ad 2 j)] (CWd G A ad x y z) (some (.int (s_X3_isFree x j))) := by
  refine MR.of RX3 rfl (by decide) (Nat.le_of_ble_eq_true rfl) ?_
  intro p_ e_ s_ m_ args_ below_ meth_ c_ ls hargs C hr hnm hW hl
  have hl : lv_has ls 1 [(0, .ref (ad 2 j))] := hl
  refine lv_aload_n C.hx C.hb dX3_isFree_0 rfl (lv_at hl 0 rfl) ?_
  refine g_get (k := 5) (v := .int (x 9 j)) C (hW.1 2 j (show j < 20 by omega)).1 rfl wu_X3 (by decide) wf_X3_23 rfl rfl dX3_isFree_1 ?_
  refine W.joinI (P := fun jv => jv = (if (x 9 j) = 0 then (if (x 7 j) ≤ (x 10 j) then 0 else 1 : Int32) else 0 : Int32)) 23 ls [] (fun J3 => ?_) (fun v4 hv4 => ?_)
  · refine lv_if_ne (tgt := 22) C.hx C.hb dX3_isFree_4 (by decide) (fun c1 => ?_) (fun c1 => ?_)
    · refine lv_iconst (v := 0) C.hx C.hb dX3_isFree_22 (by decide) ?_
      exact J3 _ (by rw [if_neg c1])
    · refine lv_aload_n C.hx C.hb dX3_isFree_7 rfl (lv_at hl 0 rfl) ?_
      refine g_get (k := 6) (v := .int (x 10 j)) C (hW.1 2 j (show j < 20 by omega)).1 rfl wu_X3 (by decide) wf_X3_27 rfl rfl dX3_isFree_8 ?_
      refine lv_aload_n C.hx C.hb dX3_isFree_11 rfl (lv_at hl 0 rfl) ?_
      refine g_get (k := 3) (v := .int (x 7 j)) C (hW.1 2 j (show j < 20 by omega)).1 rfl wu_X3 (by decide) wf_X3_17 rfl rfl dX3_isFree_12 ?_
      refine lv_icmp_ge (tgt := 22) C.hx C.hb dX3_isFree_15 (by decide) (fun c2 => ?_) (fun c2 => ?_)
      · refine lv_iconst (v := 0) C.hx C.hb dX3_isFree_22 (by decide) ?_
        exact J3 _ (by rw [if_pos c1, if_pos c2])
      · refine lv_iconst (v := 1) C.hx C.hb dX3_isFree_18 (by decide) ?_
        refine lv_goto (tgt := 23) C.hx C.hb dX3_isFree_19 (by decide) ?_
        exact J3 _ (by rw [if_pos c1, if_neg c2])
  · exact rZ C hr dX3_isFree_23 (by rw [hv4]; unfold s_X3_isFree; with_reducible rfl) (nb01 (by rw [hv4]; (repeat' split) <;> simp))
def s_X3_isSkilledIn (x : XX) (j : Nat) (rn : Int32) : Int32 := (if (((x 6 j) >>> (rn &&& 31)) &&& 1) = 1 then 1 else 0 : Int32)
set_option maxRecDepth 100000 in
set_option maxHeartbeats 1000000 in
theorem cC_X3_isSkilledIn (l : Launch) (G : GG) (A : Nat → Prop) (ad : YY) (x : XX) (y : YY) (z : Nat → Int64) (j : Nat) (rn : Int32) (hj : j < 20) : MR l G yX3_isSkilledIn cX3_isSkilledIn 2 (some .boolean) 0 [.ref (ad 2 j), .int rn] (CWd G A ad x y z) (some (.int (s_X3_isSkilledIn x j rn))) := by
  refine MR.of RX3 rfl (by decide) (Nat.le_of_ble_eq_true rfl) ?_
  intro p_ e_ s_ m_ args_ below_ meth_ c_ ls hargs C hr hnm hW hl
  have hl : lv_has ls 2 [(0, .ref (ad 2 j)), (1, .int rn)] := hl
  refine lv_aload_n C.hx C.hb dX3_isSkilledIn_0 rfl (lv_at hl 0 rfl) ?_
  refine g_get (k := 1) (v := .int (x 6 j)) C (hW.1 2 j (show j < 20 by omega)).1 rfl wu_X3 (by decide) wf_X3_7 rfl rfl dX3_isSkilledIn_1 ?_
  refine lv_iload_n C.hx C.hb dX3_isSkilledIn_4 rfl (lv_at hl 1 rfl) ?_
  refine lv_ishr C.hx C.hb dX3_isSkilledIn_5 ?_
  refine lv_iconst (v := 1) C.hx C.hb dX3_isSkilledIn_6 (by decide) ?_
  refine lv_iand C.hx C.hb dX3_isSkilledIn_7 ?_
  refine lv_iconst (v := 1) C.hx C.hb dX3_isSkilledIn_8 (by decide) ?_
  refine W.joinI (P := fun jv => jv = (if (((x 6 j) >>> (rn &&& 31)) &&& 1) = 1 then 1 else 0 : Int32)) 17 ls [] (fun J2 => ?_) (fun v3 hv3 => ?_)
  · refine lv_icmp_ne (tgt := 16) C.hx C.hb dX3_isSkilledIn_9 (by decide) (fun c1 => ?_) (fun c1 => ?_)
    · refine lv_iconst (v := 0) C.hx C.hb dX3_isSkilledIn_16 (by decide) ?_
      exact J2 _ (by rw [if_neg c1])
    · refine lv_iconst (v := 1) C.hx C.hb dX3_isSkilledIn_12 (by decide) ?_
      refine lv_goto (tgt := 17) C.hx C.hb dX3_isSkilledIn_13 (by decide) ?_
      exact J2 _ (by rw [if_pos c1])
  · exact rZ C hr dX3_isSkilledIn_17 (by rw [hv3]; unfold s_X3_isSkilledIn; with_reducible rfl) (nb01 (by rw [hv3]; (repeat' split) <;> simp))
def s_X3_isKinOf (z : Nat → Int64) (j : Nat) (au : Int32) : Int32 := (if (lg_cmp (((z j) >>> ((au).toInt64 &&& 63)) &&& (1)) (1)) = 0 then 1 else 0 : Int32)
set_option maxRecDepth 100000 in
set_option maxHeartbeats 1000000 in
theorem cC_X3_isKinOf (l : Launch) (G : GG) (A : Nat → Prop) (ad : YY) (x : XX) (y : YY) (z : Nat → Int64) (j : Nat) (au : Int32) (hj : j < 20) : MR l G yX3_isKinOf cX3_isKinOf 2 (some .boolean) 0 [.ref (ad 2 j), .int au] (CWd G A ad x y z) (some (.int (s_X3_isKinOf z j au))) := by
  refine MR.of RX3 rfl (by decide) (Nat.le_of_ble_eq_true rfl) ?_
  intro p_ e_ s_ m_ args_ below_ meth_ c_ ls hargs C hr hnm hW hl
  have hl : lv_has ls 2 [(0, .ref (ad 2 j)), (1, .int au)] := hl
  refine lv_aload_n C.hx C.hb dX3_isKinOf_0 rfl (lv_at hl 0 rfl) ?_
  refine g_get (k := 2) (v := .long (z j)) C (hW.1 2 j (show j < 20 by omega)).1 rfl wu_X3 (by decide) wf_X3_13 rfl rfl dX3_isKinOf_1 ?_
  refine lv_iload_n C.hx C.hb dX3_isKinOf_4 rfl (lv_at hl 1 rfl) ?_
  refine lv_lshr C.hx C.hb dX3_isKinOf_5 rfl ?_
  refine lv_lconst (v := 1) C.hx C.hb dX3_isKinOf_6 (by decide) ?_
  refine lv_land C.hx C.hb dX3_isKinOf_7 ?_
  refine lv_lconst (v := 1) C.hx C.hb dX3_isKinOf_8 (by decide) ?_
  refine W.lcmp C.hx C.hb dX3_isKinOf_9 ?_
  refine W.joinI (P := fun jv => jv = (if (lg_cmp (((z j) >>> ((au).toInt64 &&& 63)) &&& (1)) (1)) = 0 then 1 else 0 : Int32)) 18 ls [] (fun J2 => ?_) (fun v3 hv3 => ?_)
  · refine lv_if_ne (tgt := 17) C.hx C.hb dX3_isKinOf_10 (by decide) (fun c1 => ?_) (fun c1 => ?_)
    · refine lv_iconst (v := 0) C.hx C.hb dX3_isKinOf_17 (by decide) ?_
      exact J2 _ (by rw [if_neg c1])
    · refine lv_iconst (v := 1) C.hx C.hb dX3_isKinOf_13 (by decide) ?_
      refine lv_goto (tgt := 18) C.hx C.hb dX3_isKinOf_14 (by decide) ?_
      exact J2 _ (by rw [if_pos c1])
  · exact rZ C hr dX3_isKinOf_18 (by rw [hv3]; unfold s_X3_isKinOf; with_reducible rfl) (nb01 (by rw [hv3]; (repeat' split) <;> simp))
def s_X0_isUndecided (x : XX) (c : Nat) : Int32 := (if (x 19 c) = 0 then 1 else (if (x 19 c) = 3 then 1 else 0 : Int32) : Int32)
set_option maxRecDepth 100000 in
set_option maxHeartbeats 1000000 in
theorem cC_X0_isUndecided (l : Launch) (G : GG) (A : Nat → Prop) (ad : YY) (x : XX) (y : YY) (z : Nat → Int64) (c : Nat) (hc : c < y 20 1) : MR l G yX0_isUndecided cX0_isUndecided 1 (some .boolean) 0 [.ref (ad 4 c)] (CWd G A ad x y z) (some (.int (s_X0_isUndecided x c))) := by
  refine MR.of RX0 rfl (by decide) (Nat.le_of_ble_eq_true rfl) ?_
  intro p_ e_ s_ m_ args_ below_ meth_ c_ ls hargs C hr hnm hW hl
  have hl : lv_has ls 1 [(0, .ref (ad 4 c))] := hl
  refine lv_aload_n C.hx C.hb dX0_isUndecided_0 rfl (lv_at hl 0 rfl) ?_
  refine g_get (k := 8) (v := .int (x 19 c)) C (hW.1 4 c (show c < y 20 1 by omega)).1 rfl wu_X0 (by decide) wf_X0_19 rfl rfl dX0_isUndecided_1 ?_
  refine W.joinI (P := fun jv => jv = (if (x 19 c) = 0 then 1 else (if (x 19 c) = 3 then 1 else 0 : Int32) : Int32)) 20 ls [] (fun J3 => ?_) (fun v4 hv4 => ?_)
  · refine lv_if_eq (tgt := 15) C.hx C.hb dX0_isUndecided_4 (by decide) (fun c1 => ?_) (fun c1 => ?_)
    · refine lv_iconst (v := 1) C.hx C.hb dX0_isUndecided_15 (by decide) ?_
      refine lv_goto (tgt := 20) C.hx C.hb dX0_isUndecided_16 (by decide) ?_
      exact J3 _ (by rw [if_pos c1])
    · refine lv_aload_n C.hx C.hb dX0_isUndecided_7 rfl (lv_at hl 0 rfl) ?_
      refine g_get (k := 8) (v := .int (x 19 c)) C (hW.1 4 c (show c < y 20 1 by omega)).1 rfl wu_X0 (by decide) wf_X0_19 rfl rfl dX0_isUndecided_8 ?_
      refine lv_iconst (v := 3) C.hx C.hb dX0_isUndecided_11 (by decide) ?_
      refine lv_icmp_ne (tgt := 19) C.hx C.hb dX0_isUndecided_12 (by decide) (fun c2 => ?_) (fun c2 => ?_)
      · refine lv_iconst (v := 0) C.hx C.hb dX0_isUndecided_19 (by decide) ?_
        exact J3 _ (by rw [if_neg c1, if_neg c2])
      · refine lv_iconst (v := 1) C.hx C.hb dX0_isUndecided_15 (by decide) ?_
        refine lv_goto (tgt := 20) C.hx C.hb dX0_isUndecided_16 (by decide) ?_
        exact J3 _ (by rw [if_neg c1, if_pos c2])
  · exact rZ C hr dX0_isUndecided_20 (by rw [hv4]; unfold s_X0_isUndecided; with_reducible rfl) (nb01 (by rw [hv4]; (repeat' split) <;> simp))
def s_X0_guiltStands (x : XX) (c : Nat) : Int32 := (if (x 19 c) = 2 then 1 else (if (x 19 c) = 3 then 1 else (if (x 19 c) = 5 then 1 else 0 : Int32) : Int32) : Int32)
set_option maxRecDepth 100000 in
set_option maxHeartbeats 1000000 in
theorem cC_X0_guiltStands (l : Launch) (G : GG) (A : Nat → Prop) (ad : YY) (x : XX) (y : YY) (z : Nat → Int64) (c : Nat) (hc : c < y 20 1) : MR l G yX0_guiltStands cX0_guiltStands 1 (some .boolean) 0 [.ref (ad 4 c)] (CWd G A ad x y z) (some (.int (s_X0_guiltStands x c))) := by
  refine MR.of RX0 rfl (by decide) (Nat.le_of_ble_eq_true rfl) ?_
  intro p_ e_ s_ m_ args_ below_ meth_ c_ ls hargs C hr hnm hW hl
  have hl : lv_has ls 1 [(0, .ref (ad 4 c))] := hl
  refine lv_aload_n C.hx C.hb dX0_guiltStands_0 rfl (lv_at hl 0 rfl) ?_
  refine g_get (k := 8) (v := .int (x 19 c)) C (hW.1 4 c (show c < y 20 1 by omega)).1 rfl wu_X0 (by decide) wf_X0_19 rfl rfl dX0_guiltStands_1 ?_
  refine lv_iconst (v := 2) C.hx C.hb dX0_guiltStands_4 (by decide) ?_
  refine W.joinI (P := fun jv => jv = (if (x 19 c) = 2 then 1 else (if (x 19 c) = 3 then 1 else (if (x 19 c) = 5 then 1 else 0 : Int32) : Int32) : Int32)) 29 ls [] (fun J4 => ?_) (fun v5 hv5 => ?_)
  · refine lv_icmp_eq (tgt := 24) C.hx C.hb dX0_guiltStands_5 (by decide) (fun c1 => ?_) (fun c1 => ?_)
    · refine lv_iconst (v := 1) C.hx C.hb dX0_guiltStands_24 (by decide) ?_
      refine lv_goto (tgt := 29) C.hx C.hb dX0_guiltStands_25 (by decide) ?_
      exact J4 _ (by rw [if_pos c1])
    · refine lv_aload_n C.hx C.hb dX0_guiltStands_8 rfl (lv_at hl 0 rfl) ?_
      refine g_get (k := 8) (v := .int (x 19 c)) C (hW.1 4 c (show c < y 20 1 by omega)).1 rfl wu_X0 (by decide) wf_X0_19 rfl rfl dX0_guiltStands_9 ?_
      refine lv_iconst (v := 3) C.hx C.hb dX0_guiltStands_12 (by decide) ?_
      refine lv_icmp_eq (tgt := 24) C.hx C.hb dX0_guiltStands_13 (by decide) (fun c2 => ?_) (fun c2 => ?_)
      · refine lv_iconst (v := 1) C.hx C.hb dX0_guiltStands_24 (by decide) ?_
        refine lv_goto (tgt := 29) C.hx C.hb dX0_guiltStands_25 (by decide) ?_
        exact J4 _ (by rw [if_neg c1, if_pos c2])
      · refine lv_aload_n C.hx C.hb dX0_guiltStands_16 rfl (lv_at hl 0 rfl) ?_
        refine g_get (k := 8) (v := .int (x 19 c)) C (hW.1 4 c (show c < y 20 1 by omega)).1 rfl wu_X0 (by decide) wf_X0_19 rfl rfl dX0_guiltStands_17 ?_
        refine lv_iconst (v := 5) C.hx C.hb dX0_guiltStands_20 (by decide) ?_
        refine lv_icmp_ne (tgt := 28) C.hx C.hb dX0_guiltStands_21 (by decide) (fun c3 => ?_) (fun c3 => ?_)
        · refine lv_iconst (v := 0) C.hx C.hb dX0_guiltStands_28 (by decide) ?_
          exact J4 _ (by rw [if_neg c1, if_neg c2, if_neg c3])
        · refine lv_iconst (v := 1) C.hx C.hb dX0_guiltStands_24 (by decide) ?_
          refine lv_goto (tgt := 29) C.hx C.hb dX0_guiltStands_25 (by decide) ?_
          exact J4 _ (by rw [if_neg c1, if_neg c2, if_pos c3])
  · exact rZ C hr dX0_guiltStands_29 (by rw [hv5]; unfold s_X0_guiltStands; with_reducible rfl) (nb01 (by rw [hv5]; (repeat' split) <;> simp))
def s_X0_giftsOut (x : XX) (c : Nat) : Int32 := s_bitCount (x 21 c)
set_option maxRecDepth 100000 in
set_option maxHeartbeats 1000000 in
theorem cC_X0_giftsOut (l : Launch) (G : GG) (A : Nat → Prop) (ad : YY) (x : XX) (y : YY) (z : Nat → Int64) (c : Nat) (hc : c < y 20 1) : MR l G yX0_giftsOut cX0_giftsOut 1 (some .int) 1 [.ref (ad 4 c)] (CWd G A ad x y z) (some (.int (s_X0_giftsOut x c))) := by
  refine MR.of RX0 rfl (by decide) (Nat.le_of_ble_eq_true rfl) ?_
  intro p_ e_ s_ m_ args_ below_ meth_ c_ ls hargs C hr hnm hW hl
  have hl : lv_has ls 1 [(0, .ref (ad 4 c))] := hl
  refine lv_aload_n C.hx C.hb dX0_giftsOut_0 rfl (lv_at hl 0 rfl) ?_
  refine g_get (k := 10) (v := .int (x 21 c)) C (hW.1 4 c (show c < y 20 1 by omega)).1 rfl wu_X0 (by decide) wf_X0_25 rfl rfl dX0_giftsOut_1 ?_
  refine kSR (As := [.int (x 21 c)]) (rest := []) (v := .int (s_bitCount (x 21 c))) C (cJ_bitCount l G (x 21 c)) lk_X0_67 trivial rfl rfl hl (Nat.le_of_ble_eq_true rfl) dX0_giftsOut_4 ⟨⟨by decide, by decide⟩, by decide, by decide⟩ ?_
  exact rI C hr dX0_giftsOut_7 (by unfold s_X0_giftsOut; with_reducible rfl)
def s_X0_isHeldBy (x : XX) (c : Nat) (j : Nat) : Int32 := (if ((x 21 c) &&& ((1 : Int32) <<< (nI j &&& 31))) = 0 then 0 else 1 : Int32)
set_option maxRecDepth 100000 in
set_option maxHeartbeats 1000000 in
theorem cC_X0_isHeldBy (l : Launch) (G : GG) (A : Nat → Prop) (ad : YY) (x : XX) (y : YY) (z : Nat → Int64) (c : Nat) (j : Nat) (hc : c < y 20 1) (hj : j < 20) : MR l G yX0_isHeldBy cX0_isHeldBy 2 (some .boolean) 0 [.ref (ad 4 c), .ref (ad 2 j)] (CWd G A ad x y z) (some (.int (s_X0_isHeldBy x c j))) := by
  refine MR.of RX0 rfl (by decide) (Nat.le_of_ble_eq_true rfl) ?_
  intro p_ e_ s_ m_ args_ below_ meth_ c_ ls hargs C hr hnm hW hl
  have hl : lv_has ls 2 [(0, .ref (ad 4 c)), (1, .ref (ad 2 j))] := hl
  refine lv_aload_n C.hx C.hb dX0_isHeldBy_0 rfl (lv_at hl 0 rfl) ?_
  refine g_get (k := 10) (v := .int (x 21 c)) C (hW.1 4 c (show c < y 20 1 by omega)).1 rfl wu_X0 (by decide) wf_X0_25 rfl rfl dX0_isHeldBy_1 ?_
  refine lv_aload_n C.hx C.hb dX0_isHeldBy_4 rfl (lv_at hl 1 rfl) ?_
  refine g_getN (k := 0) (v := .int ((1 : Int32) <<< (nI j &&& 31))) C (hW.1 2 j (show j < 20 by omega)).1 rfl wu_X3 (by decide) wn_X0_87 rfl rfl dX0_isHeldBy_5 ?_
  refine lv_iand C.hx C.hb dX0_isHeldBy_8 ?_
  refine W.joinI (P := fun jv => jv = (if ((x 21 c) &&& ((1 : Int32) <<< (nI j &&& 31))) = 0 then 0 else 1 : Int32)) 17 ls [] (fun J2 => ?_) (fun v3 hv3 => ?_)
  · refine lv_if_eq (tgt := 16) C.hx C.hb dX0_isHeldBy_9 (by decide) (fun c1 => ?_) (fun c1 => ?_)
    · refine lv_iconst (v := 0) C.hx C.hb dX0_isHeldBy_16 (by decide) ?_
      exact J2 _ (by rw [if_pos c1])
    · refine lv_iconst (v := 1) C.hx C.hb dX0_isHeldBy_12 (by decide) ?_
      refine lv_goto (tgt := 17) C.hx C.hb dX0_isHeldBy_13 (by decide) ?_
      exact J2 _ (by rw [if_neg c1])
  · exact rZ C hr dX0_isHeldBy_17 (by rw [hv3]; unfold s_X0_isHeldBy; with_reducible rfl) (nb01 (by rw [hv3]; (repeat' split) <;> simp))
