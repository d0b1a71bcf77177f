section R6b
variable {m : XX} {w : Nat → Int64} {x : XX} {y : YY} {z : Nat → Int64} {n : Nat}
-- like
theorem marks_bc (h : Rel m w x y z n) {c k : Nat} (hc : c < y 20 1) (hk : k < y 20 1) : itr (f_X8_likeOnes_105_9 m c k) 0 8 = s_bitCount ((x 14 (y 2 k)) ^^^ (x 14 (y 2 c))) := by
  have hP := h.bP
  have cc := h.ci.1 c hc; have ck := h.ci.1 k hk
  have pc := h.p.2.1 _ cc.1; have pk := h.p.2.1 _ ck.1
  have e1 : m 11 (tn (m 13 c)) = x 14 (y 2 c) := by rw [(h.c.2 c hc).1, tn_nI (by omega)]; exact pc.2.2.2.1
  have e2 : m 11 (tn (m 13 k)) = x 14 (y 2 k) := by rw [(h.c.2 k hk).1, tn_nI (by omega)]; exact pk.2.2.2.1
  obtain ⟨a1, b1⟩ := tn_of (k := 255) (by decide) pc.2.2.2.2.2.1.1 pc.2.2.2.2.2.1.2
  obtain ⟨a2, b2⟩ := tn_of (k := 255) (by decide) pk.2.2.2.2.2.1.1 pk.2.2.2.2.2.1.2
  have ex : x 14 (y 2 k) ^^^ x 14 (y 2 c) = nI (tn (x 14 (y 2 k)) ^^^ tn (x 14 (y 2 c))) := by
    rw [a1, a2]
    apply Int32.toBitVec_inj.1
    rw [Int32.toBitVec_xor]
    show BitVec.ofNat 32 _ ^^^ BitVec.ofNat 32 _ = BitVec.ofNat 32 _
    rw [tn_nI (by omega), tn_nI (by omega)]
    apply BitVec.eq_of_getLsbD_eq
    intro i hi
    simp [hi]
  have ex2 : x 14 (y 2 c) ^^^ x 14 (y 2 k) = x 14 (y 2 k) ^^^ x 14 (y 2 c) := by
    apply Int32.toBitVec_inj.1
    rw [Int32.toBitVec_xor, Int32.toBitVec_xor, BitVec.xor_comm]
  have hl : tn (x 14 (y 2 k)) ^^^ tn (x 14 (y 2 c)) < 2 ^ 8 := Nat.xor_lt_two_pow (by omega) (by omega)
  rw [ex, bc_8 _ hl]
  refine itr_cg _ (fun i a hi => ?_)
  unfold f_X8_likeOnes_105_9
  rw [e1, e2, ex2, ex]
theorem like_f (h : Rel m w x y z n) {c k : Nat} (hc : c < y 20 1) (hk : k < y 20 1) (d : Int32) (g : Int32) (hg : g = 0 ∨ g = 1) (a : Int32) : f_X7_alike_6_4 x d g c y k a = f_X8_likeOnes_6_4 m d g c k a := by
  have hC := h.bC
  unfold f_X7_alike_6_4 f_X8_likeOnes_6_4 s_X0_isAlike s_X0_guiltStands s_X0_isUndecided
  have cc := h.ci.1 c hc; have ck := h.ci.1 k hk
  rw [marks_bc h hc hk, (h.c.2 k hk).2.1, (h.c.2 c hc).2.1, (h.c.2 k hk).2.2.1]
  by_cases e0 : k = c
  · rw [if_pos e0, if_pos (by rw [e0]), Int32.add_zero]
  rw [if_neg e0, if_neg (fun q => e0 ((nIE (by omega) (by omega)).mp q))]
  have en : (nI (y 3 k) = nI (y 3 c)) = (y 3 k = y 3 c) := propext (nIE (by omega) (by omega))
  simp only [en]
  generalize s_bitCount ((x 14 (y 2 k)) ^^^ (x 14 (y 2 c))) = bb
  rcases st_of h hk with ⟨q, -⟩ | ⟨q, -⟩ | ⟨q, -⟩ | ⟨q, -⟩ | ⟨q, -⟩ | ⟨q, -⟩ <;> rw [q] <;> rcases hg with r | r <;> subst r <;> by_cases e1 : y 3 k = y 3 c <;> by_cases e2 : d < bb <;> simp [e1, e2]
theorem like_g (h : Rel m w x y z n) {c : Nat} (hc : c < y 20 1) (d : Int32) (g : Int32) (hg : g = 0 ∨ g = 1) : s_X7_alike x y c d g = s_X8_likeOnes m c d g := by
  unfold s_X7_alike s_X8_likeOnes
  rw [h.eC]
  exact itr_cg _ (fun i a hi => like_f h hc hi d g hg a)
theorem like_sum (h : Rel m w x y z n) {c : Nat} (hc : c < y 20 1) (d : Int32) : s_X8_likeOnes m c d 0 + s_X8_likeOnes m c d 1 = s_X8_likeOnes m c d (-1) := by
  unfold s_X8_likeOnes
  rw [h.eC]
  have key : ∀ k, k ≤ y 20 1 → itr (f_X8_likeOnes_6_4 m d 0 c) 0 k + itr (f_X8_likeOnes_6_4 m d 1 c) 0 k = itr (f_X8_likeOnes_6_4 m d (-1) c) 0 k := by
    intro k
    induction k with
    | zero => intro _; rfl
    | succ k ih =>
      intro hk
      have ih := ih (by omega)
      show f_X8_likeOnes_6_4 m d 0 c k (itr (f_X8_likeOnes_6_4 m d 0 c) 0 k) + f_X8_likeOnes_6_4 m d 1 c k (itr (f_X8_likeOnes_6_4 m d 1 c) 0 k) = f_X8_likeOnes_6_4 m d (-1) c k (itr (f_X8_likeOnes_6_4 m d (-1) c) 0 k)
      rw [← ih]
      generalize itr (f_X8_likeOnes_6_4 m d 0 c) 0 k = A
      generalize itr (f_X8_likeOnes_6_4 m d 1 c) 0 k = B
      have comb : ∀ a b e : Int32, a + b = e → (A + a) + (B + b) = (A + B) + e := by
        intro a b e he
        rw [← he, Int32.add_assoc, ← Int32.add_assoc a B b, Int32.add_comm a B, Int32.add_assoc B a b, ← Int32.add_assoc A B]
      unfold f_X8_likeOnes_6_4
      apply comb
      rw [(h.c.2 k (by omega)).2.2.1]
      generalize itr (f_X8_likeOnes_105_9 m c k) 0 8 = bb
      by_cases e0 : nI k = nI c
      · rw [if_pos e0, if_pos e0, if_pos e0]; rfl
      · rw [if_neg e0, if_neg e0, if_neg e0]
        by_cases e1 : m 14 k = m 14 c
        · rw [if_pos e1, if_pos e1, if_pos e1]
          by_cases e2 : d < bb
          · rw [if_pos e2]
            repeat' split
            all_goals rfl
          · rw [if_neg e2]
            rcases st_of h (show k < y 20 1 by omega) with ⟨q, -⟩ | ⟨q, -⟩ | ⟨q, -⟩ | ⟨q, -⟩ | ⟨q, -⟩ | ⟨q, -⟩ <;> rw [q] <;> decide
        · rw [if_neg e1, if_neg e1, if_neg e1]; rfl
  exact key _ (Nat.le_refl _)
theorem e_like (h : Rel m w x y z n) (c d : Int32) : s_X7_like x y c d = s_X8_like m c d := by
  unfold s_X7_like s_X8_like
  rw [is_c h, wi_e]
  by_cases c1 : s_X7_within c 0 ((nI (y 20 1)) - 1) = 0
  · rw [if_pos c1, if_pos c1]
  · rw [if_neg c1, if_neg c1]
    by_cases c2 : s_X7_within d 0 8 = 0
    · rw [if_pos c2, if_pos c2]
    · rw [if_neg c2, if_neg c2]
      have hc := (case_tn h c1).2
      rw [like_g h hc d 0 (Or.inl rfl), like_g h hc d 1 (Or.inr rfl), like_sum h hc]
theorem e_unlike (h : Rel m w x y z n) (c d : Int32) : s_X7_unlike x y c d = s_X8_unlike m c d := by
  unfold s_X7_unlike s_X8_unlike
  rw [is_c h, wi_e]
  by_cases c1 : s_X7_within c 0 ((nI (y 20 1)) - 1) = 0
  · rw [if_pos c1, if_pos c1]
  · rw [if_neg c1, if_neg c1]
    by_cases c2 : s_X7_within d 0 8 = 0
    · rw [if_pos c2, if_pos c2]
    · rw [if_neg c2, if_neg c2]
      have hc := (case_tn h c1).2
      rw [like_g h hc d 0 (Or.inl rfl), like_g h hc d 1 (Or.inr rfl)]
      generalize s_X8_likeOnes m (tn c) d 0 = A
      generalize s_X8_likeOnes m (tn c) d 1 = B
      by_cases e : A = B
      · rw [if_pos e, if_pos e.symm]
      · rw [if_neg e, if_neg (show ¬ B = A from fun q => e q.symm)]
        by_cases e2 : B < A
        · rw [if_pos e2, if_neg (show ¬ A ≤ B from Int32.not_le.mpr e2)]
        · rw [if_neg e2, if_pos (show A ≤ B from Int32.not_lt.mp e2)]
end R6b
