section R4
variable {m : XX} {w : Nat → Int64} {x : XX} {y : YY} {z : Nat → Int64} {n : Nat}
theorem st_of (h : Rel m w x y z n) {c : Nat} (hc : c < y 20 1) : (x 19 c = 0 ∧ y 4 c = 0) ∨ (x 19 c = 1 ∧ y 4 c = 0) ∨ (x 19 c = 2 ∧ y 4 c = 0) ∨ (x 19 c = 3 ∧ y 4 c ≠ 0) ∨ (x 19 c = 4 ∧ y 4 c ≠ 0) ∨ (x 19 c = 5 ∧ y 4 c ≠ 0) := by
  rcases h.s c hc with ⟨a, b, -⟩ | ⟨a, b, -⟩ | ⟨a, b, -⟩ | ⟨a, b, -⟩
  · exact Or.inl ⟨a, b⟩
  · rcases a with a | a
    · exact Or.inr (Or.inl ⟨a, b⟩)
    · exact Or.inr (Or.inr (Or.inl ⟨a, b⟩))
  · exact Or.inr (Or.inr (Or.inr (Or.inl ⟨a, b⟩)))
  · rcases a with a | a
    · exact Or.inr (Or.inr (Or.inr (Or.inr (Or.inl ⟨a, b⟩))))
    · exact Or.inr (Or.inr (Or.inr (Or.inr (Or.inr ⟨a, b⟩))))
theorem tmO (h : Rel m w x y z n) {c : Nat} (hc : c < y 20 1) : s_X8_timeOf m c = nI (tmc y c) := by
  unfold s_X8_timeOf tmc
  rw [(h.c.2 c hc).2.2.1]
  rcases st_of h hc with ⟨a, b⟩ | ⟨a, b⟩ | ⟨a, b⟩ | ⟨a, b⟩ | ⟨a, b⟩ | ⟨a, b⟩
  · rw [a, if_pos b]; decide
  · rw [a, if_pos b]; decide
  · rw [a, if_pos b]; decide
  · rw [a, if_neg b]; decide
  · rw [a, if_neg b]; decide
  · rw [a, if_neg b]; decide
theorem asO (h : Rel m w x y z n) {c : Nat} (hc : c < y 20 1) : s_X8_isAsking m c = s_X0_isUndecided x c := by
  unfold s_X8_isAsking s_X0_isUndecided
  rw [(h.c.2 c hc).2.2.1]
theorem stO (h : Rel m w x y z n) {c : Nat} (hc : c < y 20 1) : s_X8_stands m c = s_X0_guiltStands x c := by
  unfold s_X8_stands s_X0_guiltStands
  rw [(h.c.2 c hc).2.2.1]
  rcases st_of h hc with ⟨a, b⟩ | ⟨a, b⟩ | ⟨a, b⟩ | ⟨a, b⟩ | ⟨a, b⟩ | ⟨a, b⟩ <;> rw [a] <;> decide
theorem un_of {c : Nat} : s_X0_isUndecided x c = 0 ↔ ¬ (x 19 c = 0 ∨ x 19 c = 3) := by
  unfold s_X0_isUndecided
  by_cases a : x 19 c = 0
  · simp [a]
  · by_cases b : x 19 c = 3
    · rw [if_neg a, if_pos b]; simp [a, b]
    · rw [if_neg a, if_neg b]; simp [a, b]
theorem nIE {a b : Nat} (ha : a < 1000) (hb : b < 1000) : nI a = nI b ↔ a = b := nI_eq (by omega) (by omega)
theorem gOj (h : Rel m w x y z n) {j : Nat} (hj : j < 20) : s_X8_giftsOf m (nI j) (-1) = nI (ct (qGj y j) (y 20 2)) := by
  unfold s_X8_giftsOf
  rw [h.eG]
  refine itr_cnt _ (fun i a hi => ?_)
  have hb := h.ci.2.2.1 i hi
  unfold f_X8_giftsOf_5_3 qGj
  rw [if_neg (nI_pos (by omega)), (h.g.2.1 i hi).1, if_pos (show (-1 : Int32) < 0 by decide)]
  by_cases e : y 6 i = j
  · rw [if_pos (by rw [e]), decide_eq_true e, if_pos rfl]
  · rw [if_neg (fun q => e ((nIE (by omega) (by omega)).mp q)), decide_eq_false e, if_neg (by decide)]
theorem gOc (h : Rel m w x y z n) {c : Nat} (hc : c < y 20 1) : s_X8_giftsOf m (-1) (nI c) = nI (ct (qG y c) (y 20 2)) := by
  have hC := h.bC
  unfold s_X8_giftsOf
  rw [h.eG]
  refine itr_cnt _ (fun i a hi => ?_)
  have hb := h.ci.2.2.1 i hi
  unfold f_X8_giftsOf_5_3 qG
  rw [if_pos (show (-1 : Int32) < 0 by decide), if_neg (nI_pos (by omega)), (h.g.2.1 i hi).2]
  by_cases e : y 7 i = c
  · rw [if_pos (by rw [e]), decide_eq_true e, if_pos rfl]
  · rw [if_neg (fun q => e ((nIE (by omega) (by omega)).mp q)), decide_eq_false e, if_neg (by decide)]
def qGjc (y : YY) (j c : Nat) : Nat → Bool := fun g => decide (y 6 g = j) && decide (y 7 g = c)
theorem gOjc (h : Rel m w x y z n) {j c : Nat} (hj : j < 20) (hc : c < y 20 1) : s_X8_giftsOf m (nI j) (nI c) = nI (ct (qGjc y j c) (y 20 2)) := by
  have hC := h.bC
  unfold s_X8_giftsOf
  rw [h.eG]
  refine itr_cnt _ (fun i a hi => ?_)
  have hb := h.ci.2.2.1 i hi
  unfold f_X8_giftsOf_5_3 qGjc
  rw [if_neg (nI_pos (by omega)), if_neg (nI_pos (by omega)), (h.g.2.1 i hi).1, (h.g.2.1 i hi).2]
  by_cases e : y 6 i = j
  · rw [if_pos (by rw [e]), decide_eq_true e, Bool.true_and]
    by_cases e2 : y 7 i = c
    · rw [if_pos (by rw [e2]), decide_eq_true e2, if_pos rfl]
    · rw [if_neg (fun q => e2 ((nIE (by omega) (by omega)).mp q)), decide_eq_false e2, if_neg (by decide)]
  · rw [if_neg (fun q => e ((nIE (by omega) (by omega)).mp q)), decide_eq_false e, Bool.false_and, if_neg (by decide)]
theorem gNo (h : Rel m w x y z n) {j c : Nat} (hj : j < 20) (hc : c < y 20 1) : s_X8_giftsOf m (nI j) (nI c) = 0 ↔ ∀ g, g < y 20 2 → ¬ (y 6 g = j ∧ y 7 g = c) := by
  have hG := h.bG
  have hl := ct_le (qGjc y j c) (y 20 2)
  rw [gOjc h hj hc, show (0 : Int32) = nI 0 from rfl, nIE (by omega) (by omega), ct_0]
  refine ⟨fun q g hg => ?_, fun q g hg => ?_⟩
  · have := q g hg
    unfold qGjc at this
    simpa using this
  · have := q g hg
    unfold qGjc
    simpa using this
theorem vOc (h : Rel m w x y z n) {c : Nat} (hc : c < y 20 1) : s_X8_votesOf m c = nI (ct (qV m c (tmc y c)) (nV m)) := by
  have hC := h.bC
  unfold s_X8_votesOf
  refine itr_cnt _ (fun i a hi => ?_)
  have hb := h.v.2.2.1 i hi
  unfold f_X8_votesOf_4_2 qV
  rw [tmO h hc, hb.2.1.1, hb.2.2.1.1]
  have ht : tmc y c < 2 := by unfold tmc; split <;> omega
  by_cases e : vC m i = c
  · rw [if_pos (by rw [e]), decide_eq_true e, Bool.true_and]
    by_cases e2 : vT m i = tmc y c
    · rw [if_pos (by rw [e2]), decide_eq_true e2, if_pos rfl]
    · rw [if_neg (fun q => e2 ((nIE (by omega) (by omega)).mp q)), decide_eq_false e2, if_neg (by decide)]
  · rw [if_neg (fun q => e ((nIE (by omega) (by omega)).mp q)), decide_eq_false e, Bool.false_and, if_neg (by decide)]
theorem tm_lt (y : YY) (c : Nat) : tmc y c < 2 := by unfold tmc; split <;> omega
theorem tm_lv (y : YY) (c : Nat) : tmc y c = 0 ∨ y 4 c ≠ 0 := by
  unfold tmc
  by_cases e : y 4 c = 0
  · rw [if_pos e]; exact Or.inl rfl
  · exact Or.inr e
/-- votes and gifts of a case now, on both sides -/
theorem want (h : Rel m w x y z n) {c : Nat} (hc : c < y 20 1) : s_X0_wantsJudges x y c = (if (m 19 c) ≤ ((s_X8_votesOf m c) + (s_X8_giftsOf m (-1) (nI c))) then 0 else 1 : Int32) := by
  unfold s_X0_wantsJudges s_X2_votes s_X0_giftsOut
  rw [tm_hh, (h.hh c (tmc y c) hc (tm_lt y c) (tm_lv y c)).1, (h.g.2.2.2.1 c hc).1, vOc h hc, gOc h hc, (h.c.2 c hc).2.2.2.2.2.2.2.1]
theorem held (h : Rel m w x y z n) {j c : Nat} (hj : j < 20) (hc : c < y 20 1) : s_X0_isHeldBy x c j = 0 ↔ ∀ g, g < y 20 2 → ¬ (y 6 g = j ∧ y 7 g = c) := by
  have hb := (h.g.2.2.2.1 c hc).2 j (by omega)
  unfold s_X0_isHeldBy
  have e : ((x 21 c) &&& ((1 : Int32) <<< (nI j &&& 31))) = 0 ↔ bt (x 21 c) j = false := and_bit (by omega)
  by_cases q : bt (x 21 c) j = true
  · rw [if_neg (fun k => by rw [e.mp k] at q; cases q)]
    obtain ⟨g, g1, g2, g3⟩ := hb.mp q
    exact ⟨fun k => absurd k (by decide), fun k => absurd ⟨g3, g2⟩ (k g g1)⟩
  · rw [if_pos (e.mpr (by simpa using q))]
    exact ⟨fun _ g g1 g2 => q (hb.mpr ⟨g, g1, g2.2, g2.1⟩), fun _ => rfl⟩
theorem vtr (h : Rel m w x y z n) {j c t : Nat} (hj : j < 20) (hc : c < y 20 1) (ht : t < 2) (hl : t = 0 ∨ y 4 c ≠ 0) : s_X2_hasVoter x (2 * c + t) j = 0 ↔ ∀ v, v < nV m → ¬ (vJ m v = j ∧ vC m v = c ∧ vT m v = t) := by
  have hb := (h.hh c t hc ht hl).2.1 j (by omega)
  unfold s_X2_hasVoter
  have e : ((x 24 (2 * c + t)) &&& ((1 : Int32) <<< (nI j &&& 31))) = 0 ↔ bt (x 24 (2 * c + t)) j = false := and_bit (by omega)
  by_cases q : bt (x 24 (2 * c + t)) j = true
  · rw [if_neg (fun k => by rw [e.mp k] at q; cases q)]
    obtain ⟨v, g1, g2, g3, g4⟩ := hb.mp q
    exact ⟨fun k => absurd k (by decide), fun k => absurd ⟨g4, g2, g3⟩ (k v g1)⟩
  · rw [if_pos (e.mpr (by simpa using q))]
    exact ⟨fun _ g g1 g2 => q (hb.mpr ⟨g, g1, g2.2.1, g2.2.2, g2.1⟩), fun _ => rfl⟩
theorem voted (h : Rel m w x y z n) {j c : Nat} (hj : j < 20) (hc : c < y 20 1) : s_X0_hasVoteOf x y c j = 0 ↔ ∀ v, v < nV m → ¬ (vJ m v = j ∧ vC m v = c) := by
  unfold s_X0_hasVoteOf
  have h0 := vtr h hj hc (t := 0) (by decide) (Or.inl rfl)
  rw [Nat.add_zero] at h0
  have hT : ∀ v, v < nV m → vT m v < 2 ∧ (vT m v = 1 → y 4 (vC m v) ≠ 0) := fun v hv => ⟨(h.v.2.2.1 v hv).2.2.1.2, (h.v.2.2.1 v hv).2.2.2.1⟩
  by_cases a : s_X2_hasVoter x (2 * c) j = 0
  · rw [if_pos a]
    have a0 := h0.mp a
    by_cases b : y 4 c = 0
    · rw [if_pos b]
      refine ⟨fun _ v hv q => ?_, fun _ => rfl⟩
      have := hT v hv
      rcases (show vT m v = 0 ∨ vT m v = 1 by omega) with r | r
      · exact a0 v hv ⟨q.1, q.2, r⟩
      · exact this.2 r (by rw [q.2]; exact b)
    · rw [if_neg b]
      have h1 := vtr h hj hc (t := 1) (by decide) (Or.inr b)
      by_cases a1 : s_X2_hasVoter x (2 * c + 1) j = 0
      · rw [if_pos a1]
        refine ⟨fun _ v hv q => ?_, fun _ => rfl⟩
        have := hT v hv
        rcases (show vT m v = 0 ∨ vT m v = 1 by omega) with r | r
        · exact a0 v hv ⟨q.1, q.2, r⟩
        · exact h1.mp a1 v hv ⟨q.1, q.2, r⟩
      · rw [if_neg a1]
        exact ⟨fun k => absurd k (by decide), fun k => absurd (h1.mpr (fun v hv q => k v hv ⟨q.1, q.2.1⟩)) a1⟩
  · rw [if_neg a]
    exact ⟨fun k => absurd k (by decide), fun k => absurd (h0.mpr (fun v hv q => k v hv ⟨q.1, q.2.1⟩)) a⟩
theorem and1_32 (a : Int32) : a &&& 1 = 0 ∨ a &&& 1 = 1 := by
  have h : (a &&& 1).toBitVec.toNat = a.toBitVec.toNat % 2 := by
    rw [Int32.toBitVec_and, BitVec.toNat_and]
    exact Nat.and_one_is_mod _
  rcases Nat.mod_two_eq_zero_or_one a.toBitVec.toNat with q | q
  · left; exact Int32.toBitVec_inj.mp (BitVec.eq_of_toNat_eq (by rw [h, q]; rfl))
  · right; exact Int32.toBitVec_inj.mp (BitVec.eq_of_toNat_eq (by rw [h, q]; rfl))
theorem e_mh (h : Rel m w x y z n) {j c : Nat} (hj : j < 20) (hc : c < y 20 1) : s_X7_mayHave x y z j c = s_X8_mayHave m w j c := by
  have hw := h.wz
  have hC := h.bC; have hP := h.bP; have hG := h.bG
  have ra := h.a.2.2.2.2.2 j hj
  have rc := h.c.2 c hc
  have ci := h.ci.1 c hc
  have hx12 : m 8 (tn (m 13 c)) = x 12 (y 2 c) := by rw [rc.1, tn_nI (by omega)]; exact (h.p.2.1 _ ci.1).1
  unfold s_X7_mayHave s_X8_mayHave
  rw [asO h hc, want h hc, rc.2.1, hx12, ra.1, ra.2.1, ra.2.2.2.1, hw]
  by_cases c1 : s_X0_isUndecided x c = 0
  · rw [if_pos c1, if_pos c1]
  rw [if_neg c1, if_neg c1]
  have hs : s_X3_isSkilledIn x j (nI (y 3 c)) = 0 ↔ (((x 6 j) >>> ((nI (y 3 c)) &&& 31)) &&& 1) = 0 := by
    unfold s_X3_isSkilledIn
    rcases and1_32 ((x 6 j) >>> ((nI (y 3 c)) &&& 31)) with q | q <;> rw [q] <;> decide
  have hk : s_X3_isKinOf z j (x 12 (y 2 c)) = 0 ↔ ¬ (lg_cmp (((z j) >>> ((x 12 (y 2 c)).toInt64 &&& 63)) &&& (1)) (1)) = 0 := by
    unfold s_X3_isKinOf
    by_cases q : (lg_cmp (((z j) >>> ((x 12 (y 2 c)).toInt64 &&& 63)) &&& (1)) (1)) = 0
    · rw [if_pos q]; exact ⟨fun k => absurd k (by decide), fun k => absurd q k⟩
    · rw [if_neg q]; exact ⟨fun _ => q, fun _ => rfl⟩
  have hf : s_X3_isFree x j = 0 ↔ ¬ (x 9 j = 0 ∧ ¬ x 7 j ≤ s_X8_giftsOf m (nI j) (-1)) := by
    unfold s_X3_isFree
    rw [gOj h hj, (h.g.2.2.2.2 j hj).1]
    by_cases q : x 9 j = 0
    · rw [if_pos q]
      by_cases r : x 7 j ≤ nI (ct (qGj y j) (y 20 2))
      · rw [if_pos r]; simp [r]
      · rw [if_neg r]; simp [q, r]
    · rw [if_neg q]; simp [q]
  have hh := held h hj hc
  have hv := voted h hj hc
  have hq : hasv (q_X8_mayHave_64 m j c) (nV m) = true ↔ ¬ s_X0_hasVoteOf x y c j = 0 := by
    rw [hv, hasv_iff]
    constructor
    · rintro ⟨v, h1, h2⟩ k
      have b := h.v.2.2.1 v h1
      unfold q_X8_mayHave_64 at h2
      by_cases e1 : m 37 v = nI j
      · rw [if_pos e1] at h2
        by_cases e2 : m 38 v = nI c
        · exact k v h1 ⟨by show tn (m 37 v) = j; rw [e1, tn_nI (by omega)], by show tn (m 38 v) = c; rw [e2, tn_nI (by omega)]⟩
        · rw [if_neg e2] at h2; cases h2
      · rw [if_neg e1] at h2; cases h2
    · intro k
      rcases Classical.em (∃ v, v < nV m ∧ vJ m v = j ∧ vC m v = c) with ⟨v, h1, h2, h3⟩ | q
      · have b := h.v.2.2.1 v h1
        refine ⟨v, h1, ?_⟩
        unfold q_X8_mayHave_64
        rw [if_pos (by rw [b.1.1, h2]), if_pos (by rw [b.2.1.1, h3])]
      · exact absurd (fun v h1 h2 => q ⟨v, h1, h2.1, h2.2⟩) k
  have hg : s_X8_giftsOf m (nI j) (nI c) = 0 ↔ s_X0_isHeldBy x c j = 0 := (gNo h hj hc).trans hh.symm
  by_cases a1 : x 9 j = 0
  · rw [if_pos a1]
    by_cases a2 : (((x 6 j) >>> ((nI (y 3 c)) &&& 31)) &&& 1) = 0
    · rw [if_pos a2, if_pos (hs.mpr a2)]
      repeat' split
      all_goals rfl
    · rw [if_neg a2, if_neg (show ¬ s_X3_isSkilledIn x j (nI (y 3 c)) = 0 from fun q => a2 (hs.mp q))]
      by_cases a3 : (lg_cmp (((z j) >>> ((x 12 (y 2 c)).toInt64 &&& 63)) &&& (1)) (1)) = 0
      · rw [if_pos a3, if_neg (show ¬ s_X3_isKinOf z j (x 12 (y 2 c)) = 0 from fun q => hk.mp q a3)]
        repeat' split
        all_goals rfl
      · rw [if_neg a3, if_pos (hk.mpr a3)]
        by_cases a4 : s_X0_hasVoteOf x y c j = 0
        · rw [if_neg (fun q => hq.mp q a4), if_pos a4]
          by_cases a5 : s_X0_isHeldBy x c j = 0
          · rw [if_pos a5, if_pos (hg.mpr a5)]
            by_cases a6 : x 7 j ≤ s_X8_giftsOf m (nI j) (-1)
            · rw [if_pos a6, if_pos (hf.mpr (fun q => q.2 a6))]
              split <;> rfl
            · rw [if_neg a6, if_neg (show ¬ s_X3_isFree x j = 0 from fun q => hf.mp q ⟨a1, a6⟩)]
              split
              · rename_i q; rw [if_pos rfl]
              · rename_i q; rw [if_neg (by decide)]
          · rw [if_neg a5, if_neg (fun q => a5 (hg.mp q))]
            repeat' split
            all_goals rfl
        · rw [if_pos (hq.mpr a4), if_neg a4]
          repeat' split
          all_goals rfl
  · rw [if_neg a1, if_pos (hf.mpr (fun q => a1 q.1))]
    split <;> rfl
end R4
