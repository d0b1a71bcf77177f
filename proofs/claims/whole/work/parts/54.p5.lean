section R5
variable {m : XX} {w : Nat → Int64} {x : XX} {y : YY} {z : Nat → Int64} {n : Nat}
theorem e_may (h : Rel m w x y z n) (j c : Int32) : s_X7_may x y z j c = s_X8_may m w j c := by
  unfold s_X7_may s_X8_may
  rw [is_j, is_c h]
  by_cases c1 : s_X7_within j 0 19 = 0
  · rw [if_pos c1, if_pos c1]
  · rw [if_neg c1, if_neg c1]
    by_cases c2 : s_X7_within c 0 ((nI (y 20 1)) - 1) = 0
    · rw [if_pos c2, if_pos c2]
    · rw [if_neg c2, if_neg c2, e_mh h (judge_tn c1).2 (case_tn h c2).2]
      rfl
theorem hurg (h : Rel m w x y z n) {c : Nat} (hc : c < y 20 1) : (m 2 (tn (m 14 c))) * (m 10 (tn (m 13 c))) = (x 4 (y 3 c)) * (x 13 (y 2 c)) := by
  have rc := h.c.2 c hc
  have ci := h.ci.1 c hc
  have hP := h.bP
  rw [rc.1, rc.2.1, tn_nI (by omega), tn_nI (by omega), (h.a.2.1 _ ci.2.1).2.1, (h.p.2.1 _ ci.1).2.2.1]
theorem urg_pos (h : Rel m w x y z n) {c : Nat} (hc : c < y 20 1) : ¬ (x 4 (y 3 c)) * (x 13 (y 2 c)) ≤ 0 := by
  have ci := h.ci.1 c hc
  have r := (h.a.2.1 _ ci.2.1).2.2.2.2
  have p := (h.p.2.1 _ ci.1).2.2.2.2.1
  obtain ⟨e1, a1, b1⟩ := one_sig (b := 100) (by decide) r.1 r.2
  obtain ⟨e2, a2, b2⟩ := one_sig (b := 1000) (by decide) p.1 p.2
  rw [e1, e2, nI_mulE rfl rfl, show (0 : Int32) = nI 0 from rfl]
  have hm : tn (x 4 (y 3 c)) * tn (x 13 (y 2 c)) ≤ 100 * 1000 := Nat.mul_le_mul b1 b2
  have hp : 0 < tn (x 4 (y 3 c)) * tn (x 13 (y 2 c)) := Nat.mul_pos a1 a2
  rw [nI_leI (by omega) (by decide)]
  omega
theorem next_inv (h : Rel m w x y z n) {j : Nat} (hj : j < 20) : ∀ k, k ≤ y 20 1 → ((itrG (f_X7_nextFor_7 x z j y) (0, 0) k = (0, 0) ∧ itr (f_X8_nextOf_5_2 m w j) (-4) k = -4) ∨ ∃ c, c < k ∧ itrG (f_X7_nextFor_7 x z j y) (0, 0) k = (c + 1, (x 4 (y 3 c)) * (x 13 (y 2 c))) ∧ itr (f_X8_nextOf_5_2 m w j) (-4) k = nI c)
  | 0, _ => Or.inl ⟨rfl, rfl⟩
  | k + 1, hk => by
    have hC := h.bC
    have ih := next_inv h hj k (by omega)
    have e1 : ∀ s, f_X7_nextFor_7 x z j y k s = (if ((x 4 (y 3 k)) * (x 13 (y 2 k))) ≤ (s.2) then (s.1, s.2) else (if (s_X7_mayHave x y z j k) = 0 then (s.1, s.2) else (k + 1, (x 4 (y 3 k)) * (x 13 (y 2 k))))) := fun s => rfl
    have e2 : ∀ a, f_X8_nextOf_5_2 m w j k a = (if (s_X7_mayHave x y z j k) = 0 then a else (if (a) < 0 then nI k else (if ((x 4 (y 3 k)) * (x 13 (y 2 k))) ≤ ((m 2 (tn (m 14 (tn (a))))) * (m 10 (tn (m 13 (tn (a)))))) then a else nI k : Int32) : Int32) : Int32) := fun a => by
      unfold f_X8_nextOf_5_2
      rw [e_mh h hj (by omega), hurg h (by omega)]
    show (f_X7_nextFor_7 x z j y k (itrG (f_X7_nextFor_7 x z j y) (0, 0) k) = (0, 0) ∧ f_X8_nextOf_5_2 m w j k (itr (f_X8_nextOf_5_2 m w j) (-4) k) = -4) ∨ ∃ c, c < k + 1 ∧ f_X7_nextFor_7 x z j y k (itrG (f_X7_nextFor_7 x z j y) (0, 0) k) = (c + 1, (x 4 (y 3 c)) * (x 13 (y 2 c))) ∧ f_X8_nextOf_5_2 m w j k (itr (f_X8_nextOf_5_2 m w j) (-4) k) = nI c
    rw [e1, e2]
    rcases ih with ⟨i1, i2⟩ | ⟨c, hc, i1, i2⟩
    · rw [i1, i2]
      show ((if ((x 4 (y 3 k)) * (x 13 (y 2 k))) ≤ 0 then ((0, 0) : Nat × Int32) else _) = _ ∧ _) ∨ _
      rw [if_neg (urg_pos h (by omega))]
      by_cases c1 : s_X7_mayHave x y z j k = 0
      · rw [if_pos c1, if_pos c1]; exact Or.inl ⟨rfl, rfl⟩
      · rw [if_neg c1, if_neg c1, if_pos (by decide)]
        exact Or.inr ⟨k, by omega, rfl, rfl⟩
    · rw [i1, i2]
      have ec : m 2 (tn (m 14 (tn (nI c)))) * m 10 (tn (m 13 (tn (nI c)))) = (x 4 (y 3 c)) * (x 13 (y 2 c)) := by
        rw [tn_nI (by omega)]; exact hurg h (by omega)
      rw [ec]
      refine Or.inr ?_
      show ∃ q, q < k + 1 ∧ (if ((x 4 (y 3 k)) * (x 13 (y 2 k))) ≤ (x 4 (y 3 c)) * (x 13 (y 2 c)) then (c + 1, (x 4 (y 3 c)) * (x 13 (y 2 c))) else _) = _ ∧ _
      by_cases c0 : ((x 4 (y 3 k)) * (x 13 (y 2 k))) ≤ (x 4 (y 3 c)) * (x 13 (y 2 c))
      · rw [if_pos c0, if_pos c0]
        refine ⟨c, by omega, rfl, ?_⟩
        rw [if_neg (nI_pos (by omega))]
        split <;> rfl
      · rw [if_neg c0, if_neg c0]
        by_cases c1 : s_X7_mayHave x y z j k = 0
        · rw [if_pos c1, if_pos c1]; exact ⟨c, by omega, rfl, rfl⟩
        · rw [if_neg c1, if_neg c1, if_neg (nI_pos (by omega))]
          exact ⟨k, by omega, rfl, rfl⟩
theorem next_eq (h : Rel m w x y z n) {j : Nat} (hj : j < 20) : (i_X7_nextFor x y z j = 0 ∧ s_X8_nextOf m w j = -4) ∨ ∃ c, c < y 20 1 ∧ i_X7_nextFor x y z j = c + 1 ∧ s_X8_nextOf m w j = nI c := by
  unfold i_X7_nextFor s_X8_nextOf
  rw [h.eC]
  rcases next_inv h hj (y 20 1) (Nat.le_refl _) with ⟨i1, i2⟩ | ⟨c, hc, i1, i2⟩
  · rw [i1, i2]; exact Or.inl ⟨rfl, rfl⟩
  · rw [i1, i2]
    exact Or.inr ⟨c, hc, rfl, rfl⟩
theorem e_next (h : Rel m w x y z n) (j : Int32) : s_X7_next x y z j = s_X8_next m w j := by
  unfold s_X7_next s_X8_next
  rw [is_j]
  by_cases c1 : s_X7_within j 0 19 = 0
  · rw [if_pos c1, if_pos c1]
  · rw [if_neg c1, if_neg c1]
    rcases next_eq h (judge_tn c1).2 with ⟨i1, i2⟩ | ⟨c, hc, i1, i2⟩
    · rw [i1, i2]; rfl
    · rw [i1, i2, if_neg (by omega)]; rfl
theorem e_lb (h : Rel m w x y z n) {c : Nat} (hc : c < y 20 1) : s_X7_lateBy x c = s_X8_lateBy m c := by
  have rc := h.c.2 c hc
  have g := rc.2.2.2.2.2.2.2.2.2.1
  unfold s_X7_lateBy s_X8_lateBy
  rw [asO h hc, rc.2.2.2.2.1, rc.2.2.2.2.2.1, h.a.1.1, h.a.2.2.1 _ g.2]
  by_cases c1 : s_X0_isUndecided x c = 0
  · rw [if_pos c1, if_pos c1]
  · rw [if_neg c1, if_neg c1, if_neg (by rw [g.1]; exact within_in (n := 3) (by decide) g.2 (by decide))]
    by_cases c2 : ((x 0 0) - (x 17 c)) - (x 45 (tn (x 16 c))) ≤ 0
    · rw [if_pos c2, if_neg (Int32.not_lt.mpr c2)]
    · rw [if_neg c2, if_pos (Int32.not_le.mp c2)]
theorem late_inv (h : Rel m w x y z n) : ∀ k, k ≤ y 20 1 → ((itrG (f_X7_late_7 x) ((-4), 0) k = ((-4), 0) ∧ itr (f_X8_late_5_1 m) (-4) k = -4) ∨ ∃ c, c < k ∧ itrG (f_X7_late_7 x) ((-4), 0) k = (nI c, s_X7_lateBy x c) ∧ 0 < s_X7_lateBy x c ∧ itr (f_X8_late_5_1 m) (-4) k = nI c)
  | 0, _ => Or.inl ⟨rfl, rfl⟩
  | k + 1, hk => by
    have hC := h.bC
    have ih := late_inv h k (by omega)
    have e1 : ∀ s, f_X7_late_7 x k s = ((if (s_X7_lateBy x k) ≤ (s.2) then s.1 else nI k : Int32), (if (s_X7_lateBy x k) ≤ (s.2) then s.2 else s_X7_lateBy x k : Int32)) := fun s => rfl
    have e2 : ∀ a, f_X8_late_5_1 m k a = (if (s_X7_lateBy x k) ≤ 0 then a else (if (a) < 0 then nI k else (if (s_X7_lateBy x k) ≤ (s_X8_lateBy m (tn (a))) then a else nI k : Int32) : Int32) : Int32) := fun a => by
      unfold f_X8_late_5_1
      rw [e_lb h (by omega)]
    show (f_X7_late_7 x k (itrG (f_X7_late_7 x) ((-4), 0) k) = ((-4), 0) ∧ f_X8_late_5_1 m k (itr (f_X8_late_5_1 m) (-4) k) = -4) ∨ ∃ c, c < k + 1 ∧ f_X7_late_7 x k (itrG (f_X7_late_7 x) ((-4), 0) k) = (nI c, s_X7_lateBy x c) ∧ 0 < s_X7_lateBy x c ∧ f_X8_late_5_1 m k (itr (f_X8_late_5_1 m) (-4) k) = nI c
    rw [e1, e2]
    rcases ih with ⟨i1, i2⟩ | ⟨c, hc, i1, i3, i2⟩
    · rw [i1, i2]
      by_cases c0 : s_X7_lateBy x k ≤ 0
      · refine Or.inl ⟨?_, if_pos c0⟩
        show ((if (s_X7_lateBy x k) ≤ 0 then (-4) else nI k : Int32), (if (s_X7_lateBy x k) ≤ 0 then 0 else s_X7_lateBy x k : Int32)) = _
        rw [if_pos c0, if_pos c0]
      · refine Or.inr ⟨k, by omega, ?_, Int32.not_le.mp c0, (if_neg c0).trans (if_pos (by decide))⟩
        show ((if (s_X7_lateBy x k) ≤ 0 then (-4) else nI k : Int32), (if (s_X7_lateBy x k) ≤ 0 then 0 else s_X7_lateBy x k : Int32)) = _
        rw [if_neg c0, if_neg c0]
    · rw [i1, i2, tn_nI (by omega), ← e_lb h (show c < y 20 1 by omega), if_neg (nI_pos (by omega))]
      refine Or.inr ?_
      by_cases c0 : s_X7_lateBy x k ≤ s_X7_lateBy x c
      · refine ⟨c, by omega, ?_, i3, ?_⟩
        · show ((if (s_X7_lateBy x k) ≤ s_X7_lateBy x c then nI c else nI k : Int32), (if (s_X7_lateBy x k) ≤ s_X7_lateBy x c then s_X7_lateBy x c else s_X7_lateBy x k : Int32)) = _
          rw [if_pos c0, if_pos c0]
        · rw [if_pos c0]; split <;> rfl
      · have c1 : ¬ s_X7_lateBy x k ≤ 0 := fun q => c0 (Int32.le_trans q (Int32.le_of_lt i3))
        refine ⟨k, by omega, ?_, Int32.not_le.mp c1, ?_⟩
        · show ((if (s_X7_lateBy x k) ≤ s_X7_lateBy x c then nI c else nI k : Int32), (if (s_X7_lateBy x k) ≤ s_X7_lateBy x c then s_X7_lateBy x c else s_X7_lateBy x k : Int32)) = _
          rw [if_neg c0, if_neg c0]
        · rw [if_neg c1, if_neg c0]
theorem e_late (h : Rel m w x y z n) : s_X7_late x y = s_X8_late m := by
  unfold s_X7_late s_X8_late
  rw [h.eC]
  rcases late_inv h (y 20 1) (Nat.le_refl _) with ⟨i1, i2⟩ | ⟨c, hc, i1, -, i2⟩
  · rw [i1, i2]
  · rw [i1, i2]
theorem e_hid (h : Rel m w x y z n) {p : Nat} (hp : p < y 20 0) : s_X5_isHidden x y p = s_X8_isHidden m (nI p) := by
  have hP := h.bP
  have key : ∀ k, k ≤ y 20 1 → itr (f_X8_isHidden_4_2 m (nI p)) 0 k = (if hasv (q_X5_isHidden_5 x p y) k = true then 1 else 0 : Int32) := by
    intro k
    induction k with
    | zero => intro _; rfl
    | succ k ih =>
      intro hk
      have rc := h.c.2 k (by omega)
      have ci := h.ci.1 k (by omega)
      show f_X8_isHidden_4_2 m (nI p) k (itr (f_X8_isHidden_4_2 m (nI p)) 0 k) = _
      rw [ih (by omega)]
      unfold f_X8_isHidden_4_2
      rw [rc.1, stO h (by omega)]
      have eh : hasv (q_X5_isHidden_5 x p y) (k + 1) = (hasv (q_X5_isHidden_5 x p y) k || q_X5_isHidden_5 x p y k) := rfl
      rw [eh]
      cases hasv (q_X5_isHidden_5 x p y) k
      · unfold q_X5_isHidden_5
        by_cases e : y 2 k = p
        · rw [if_pos (by decide), if_pos (by rw [e]), if_pos e]
          by_cases e2 : s_X0_guiltStands x k = 0
          · rw [if_pos e2, if_pos e2]; decide
          · rw [if_neg e2, if_neg e2]; decide
        · rw [if_pos (by decide), if_neg (fun q => e ((nIE (by omega) (by omega)).mp q)), if_neg e]; decide
      · simp
  unfold s_X5_isHidden s_X8_isHidden
  rw [h.eC, key _ (Nat.le_refl _)]
theorem e_hidden (h : Rel m w x y z n) (p : Int32) : s_X7_hidden x y p = s_X8_hidden m p := by
  have hP := h.bP
  unfold s_X7_hidden s_X8_hidden
  rw [wi_n (by omega), h.p.1]
  by_cases c1 : p < 0
  · rw [if_pos c1, if_pos c1, if_pos rfl]
  · rw [if_neg c1, if_neg c1]
    by_cases c2 : nI (y 20 0) ≤ p
    · rw [if_pos c2, if_pos c2, if_pos rfl]
    · rw [if_neg c2, if_neg c2, if_neg (by decide)]
      have c3 : ¬ s_X7_within p 0 ((nI (y 20 0)) - 1) = 0 := by rw [wi_n (by omega), if_neg c1, if_neg c2]; decide
      obtain ⟨k, hk, e⟩ := withinN (n := y 20 0) c3 (by omega)
      rw [e, tn_nI (by omega), e_hid h hk]
      rfl
theorem e_count (h : Rel m w x y z n) (q : Int32) : s_X7_count x y q = s_X8_count m q := by
  unfold s_X7_count s_X8_count
  rw [h.p.1, h.c.1, h.g.1, h.a.1.1, h.a.2.2.2.2.1.2]
  have e : s_X7_undecidedCases x y = itr (f_X8_count_52_2 m) 0 (nC m) := by
    unfold s_X7_undecidedCases
    rw [h.eC]
    refine itr_cg _ (fun i b hi => ?_)
    unfold f_X7_undecidedCases_4_1 f_X8_count_52_2
    rw [asO h hi]
    rfl
  rw [e]
end R5
