section R3
variable {m : XX} {w : Nat → Int64} {x : XX} {y : YY} {z : Nat → Int64} {n : Nat}
theorem one_sig {b : Nat} (h : b < 2 ^ 31) {v : Int32} (h1 : 1 ≤ v) (h2 : v ≤ nI b) : v = nI (tn v) ∧ 1 ≤ tn v ∧ tn v ≤ b := by
  have h0 : (0 : Int32) ≤ v := Int32.le_trans (by decide) h1
  obtain ⟨e, hb⟩ := tn_of h h0 h2
  refine ⟨e, ?_, hb⟩
  rw [e, show (1 : Int32) = nI 1 from rfl, nI_leI (by decide) (by omega)] at h1
  exact h1
theorem e_tick (h : Rel m w x y z n) (t : Int32) : s_X7_tick x t = s_X8_tick m t ∧ Rel (sx_X8_tick m t) w (sx_X7_tick x t) y z n := by
  obtain ⟨a0, a1, a2⟩ := h.a.1
  obtain ⟨ea, ba⟩ := tn_of (k := 1000000) (by decide) a1 a2
  unfold s_X7_tick s_X8_tick sx_X8_tick sx_X7_tick
  rw [wi_e, a0]
  by_cases c1 : s_X7_within t 1 1000 = 0
  · rw [if_pos c1, if_pos c1, if_pos c1, if_pos c1]; exact ⟨rfl, h⟩
  · rw [if_neg c1, if_neg c1, if_neg c1, if_neg c1]
    obtain ⟨et, b1, b2⟩ := one_sig (b := 1000) (by decide) (wi_r c1).1 (wi_r c1).2
    have e1 : (t ≤ 1000000 - x 0 0) ↔ tn t ≤ 1000000 - tn (x 0 0) := by
      rw [ea, et, show (1000000 : Int32) = nI 1000000 from rfl, pk_sub (by omega), nI_leI (by omega) (by omega), tn_nI (by omega), tn_nI (by omega)]
    have e2 : (x 0 0 + t ≤ 1000000) ↔ tn (x 0 0) + tn t ≤ 1000000 := by
      rw [ea, et, show (1000000 : Int32) = nI 1000000 from rfl, nI_add, nI_leI (by omega) (by omega), tn_nI (by omega), tn_nI (by omega)]
    by_cases c2 : t ≤ 1000000 - x 0 0
    · have c3 : x 0 0 + t ≤ 1000000 := e2.mpr (by have := e1.mp c2; omega)
      rw [if_pos c2, if_pos c3, if_pos c3, if_pos c2]
      have l1 : x 0 0 ≤ x 0 0 + t := by
        rw [ea, et, nI_add, nI_leI (by omega) (by omega)]; omega
      refine ⟨rfl, h.wz, ⟨⟨rfl, Int32.le_trans a1 l1, c3⟩, h.a.2⟩, ⟨h.p.1, fun p hp => ?_, h.p.2.2⟩, h.c, h.s, h.g, h.v, h.hh, h.q, h.ci, h.cl, h.y1, h.n512⟩
      obtain ⟨g1, g2, g3, g4, g5, g6, g7, g8⟩ := h.p.2.1 p hp
      exact ⟨g1, g2, g3, g4, g5, g6, g7, Int32.le_trans g8 l1⟩
    · have c3 : ¬ x 0 0 + t ≤ 1000000 := fun q => c2 (e1.mpr (by have := e2.mp q; omega))
      rw [if_neg c2, if_neg c3, if_neg c3, if_neg c2]; exact ⟨rfl, h⟩
theorem e_rule (h : Rel m w x y z n) (r g hm f : Int32) : s_X7_rule r g hm f = s_X8_rule r g hm f ∧ Rel (sx_X8_rule m r g hm f) w (sx_X7_rule x r g hm f) y z n := by
  refine ⟨rfl, ?_⟩
  unfold sx_X8_rule sx_X7_rule
  rw [wi_e, wi_e, wi_e, wi_e]
  by_cases c1 : s_X7_within r 0 7 = 0
  · rw [if_pos c1, if_pos c1]; exact h
  · rw [if_neg c1, if_neg c1]
    by_cases c2 : s_X7_within g 0 2 = 0
    · rw [if_pos c2, if_pos c2]; exact h
    · rw [if_neg c2, if_neg c2]
      by_cases c3 : s_X7_within hm 1 100 = 0
      · rw [if_pos c3, if_pos c3]; exact h
      · rw [if_neg c3, if_neg c3]
        by_cases c4 : s_X7_within f 0 2 = 0
        · rw [if_pos c4, if_pos c4]; exact h
        · rw [if_neg c4, if_neg c4]
          have hg := wi_tn (k := 2) (by decide) c2
          refine ⟨h.wz, ⟨h.a.1, fun q hq => ?_, h.a.2.2⟩, h.p, h.c, h.s, h.g, h.v, h.hh, h.q, h.ci, h.cl, h.y1, h.n512⟩
          by_cases e : q = tn r
          · subst e
            have h8 : g = g ∧ hm = hm ∧ f = f ∧ (g = nI (tn g) ∧ tn g < 3) ∧ (1 ≤ hm ∧ hm ≤ 100) := ⟨rfl, rfl, rfl, ⟨hg.1, by omega⟩, wi_r c3⟩
            simpa [up2, upd] using h8
          · have h9 := h.a.2.1 q hq
            simpa [up2, upd, e] using h9
theorem e_ladder (h : Rel m w x y z n) (f q : Int32) : s_X7_ladder f q = s_X8_ladder f q ∧ Rel (sx_X8_ladder m f q) w (sx_X7_ladder x f q) y z n := by
  refine ⟨rfl, ?_⟩
  unfold sx_X8_ladder sx_X7_ladder
  rw [wi_e, wi_e]
  by_cases c1 : s_X7_within f 1 10000 = 0
  · rw [if_pos c1, if_pos c1]; exact h
  · rw [if_neg c1, if_neg c1]
    by_cases c2 : s_X7_within q 1 10000 = 0
    · rw [if_pos c2, if_pos c2]; exact h
    · rw [if_neg c2, if_neg c2]
      exact ⟨h.wz, ⟨h.a.1, h.a.2.1, h.a.2.2.1, ⟨rfl, rfl, wi_r c1, wi_r c2⟩, h.a.2.2.2.2⟩, h.p, h.c, h.s, h.g, h.v, h.hh, h.q, h.ci, h.cl, h.y1, h.n512⟩
theorem e_due (h : Rel m w x y z n) (g t : Int32) : s_X7_due x g t = s_X8_due m g t ∧ Rel (sx_X8_due m g t) w (sx_X7_due x g t) y z n := by
  unfold s_X7_due s_X8_due sx_X8_due sx_X7_due
  rw [wi_e, wi_e]
  by_cases c1 : s_X7_within g 0 2 = 0
  · rw [if_pos c1, if_pos c1, if_pos c1, if_pos c1]; exact ⟨rfl, h⟩
  · rw [if_neg c1, if_neg c1, if_neg c1, if_neg c1]
    by_cases c2 : s_X7_within t 1 1000 = 0
    · rw [if_pos c2, if_pos c2, if_pos c2, if_pos c2]; exact ⟨rfl, h⟩
    · rw [if_neg c2, if_neg c2, if_neg c2, if_neg c2]
      have hg := wi_tn (k := 2) (by decide) c1
      refine ⟨(h.a.2.2.1 _ (by omega)).symm, h.wz, ⟨h.a.1, h.a.2.1, fun q hq => ?_, h.a.2.2.2⟩, h.p, h.c, h.s, h.g, h.v, h.hh, h.q, h.ci, h.cl, h.y1, h.n512⟩
      by_cases e : q = tn g
      · subst e; simp [up2, upd]
      · have h9 := h.a.2.2.1 q hq
        simpa [up2, upd, e] using h9
theorem e_limit (h : Rel m w x y z n) (p : Int32) : s_X7_limit x p = s_X8_limit m p ∧ Rel (sx_X8_limit m p) w (sx_X7_limit x p) y z n := by
  unfold s_X7_limit s_X8_limit sx_X8_limit sx_X7_limit
  rw [wi_e]
  by_cases c1 : s_X7_within p 0 100 = 0
  · rw [if_pos c1, if_pos c1, if_pos c1, if_pos c1]; exact ⟨rfl, h⟩
  · rw [if_neg c1, if_neg c1, if_neg c1, if_neg c1]
    exact ⟨h.a.2.2.2.2.1.1.symm, h.wz, ⟨h.a.1, h.a.2.1, h.a.2.2.1, h.a.2.2.2.1, ⟨rfl, h.a.2.2.2.2.1.2⟩, h.a.2.2.2.2.2⟩, h.p, h.c, h.s, h.g, h.v, h.hh, h.q, h.ci, h.cl, h.y1, h.n512⟩
theorem e_judge (h : Rel m w x y z n) (j s ld wt : Int32) : s_X7_judge j s ld wt = s_X8_judge j s ld wt ∧ Rel (sx_X8_judge m j s ld wt) w (sx_X7_judge x j s ld wt) y z n := by
  unfold s_X7_judge s_X8_judge sx_X8_judge sx_X7_judge
  rw [wi_e, wi_e, wi_e, is_j]
  by_cases c1 : s_X7_within j 0 19 = 0
  · rw [if_pos c1, if_pos c1, if_pos c1]; exact ⟨rfl, h⟩
  · rw [if_neg c1, if_neg c1, if_neg c1]
    by_cases c2 : s_X7_within s 0 255 = 0
    · rw [if_pos c2, if_pos c2, if_pos c2]; exact ⟨rfl, h⟩
    · rw [if_neg c2, if_neg c2, if_neg c2]
      by_cases c3 : s_X7_within ld 0 20 = 0
      · rw [if_pos c3, if_pos c3, if_pos c3]; exact ⟨rfl, h⟩
      · rw [if_neg c3, if_neg c3, if_neg c3]
        by_cases c4 : s_X7_within wt 1 10 = 0
        · rw [if_pos c4, if_pos c4, if_pos c4]; exact ⟨rfl, h⟩
        · rw [if_neg c4, if_neg c4, if_neg c4]
          refine ⟨rfl, h.wz, ⟨h.a.1, h.a.2.1, h.a.2.2.1, h.a.2.2.2.1, h.a.2.2.2.2.1, fun q hq => ?_⟩, h.p, h.c, h.s, h.g, h.v, h.hh, h.q, h.ci, h.cl, h.y1, h.n512⟩
          have h9 := h.a.2.2.2.2.2 q hq
          by_cases e : q = tn j
          · subst e
            have h8 := (wi_r c3).2
            have h7 : s = s ∧ ld = ld ∧ wt = wt ∧ m 33 (tn j) = x 9 (tn j) ∧ ld ≤ 20 ∧ (x 9 (tn j) = 0 ∨ x 9 (tn j) = 1) := ⟨rfl, rfl, rfl, h9.2.2.2.1, h8, h9.2.2.2.2.2⟩
            simpa [up2, upd] using h7
          · simpa [up2, upd, e] using h9
theorem and1_64 (a : Int64) : a &&& 1 = 0 ∨ a &&& 1 = 1 := by
  have h : (a &&& 1).toBitVec.toNat = a.toBitVec.toNat % 2 := by
    rw [Int64.toBitVec_and, BitVec.toNat_and]
    exact Nat.and_one_is_mod _
  rcases Nat.mod_two_eq_zero_or_one a.toBitVec.toNat with q | q
  · left; exact Int64.toBitVec_inj.mp (BitVec.eq_of_toNat_eq (by rw [h, q]; rfl))
  · right; exact Int64.toBitVec_inj.mp (BitVec.eq_of_toNat_eq (by rw [h, q]; rfl))
theorem kin_ans (a : Int64) (s : Int64) : s_X7_asNumber (if (lg_cmp ((a >>> s) &&& (1)) (1)) = 0 then 1 else 0 : Int32) = ((a >>> s) &&& (1)).toInt32 := by
  rcases and1_64 (a >>> s) with q | q <;> rw [q] <;> decide
theorem or_clr64 (a b : Int64) : (a &&& (b ^^^ (-1))) ||| b = a ||| b := by
  apply Int64.toBitVec_inj.mp
  apply BitVec.eq_of_getLsbD_eq
  intro i hi
  have e : (-1 : Int64).toBitVec = BitVec.allOnes 64 := by decide
  rw [Int64.toBitVec_or, Int64.toBitVec_and, Int64.toBitVec_xor, Int64.toBitVec_or, e]
  simp only [BitVec.getLsbD_or, BitVec.getLsbD_and, BitVec.getLsbD_xor, BitVec.getLsbD_allOnes, hi, decide_true, Bool.xor_true]
  cases a.toBitVec.getLsbD i <;> cases b.toBitVec.getLsbD i <;> rfl
theorem or_064 (a s : Int64) : a ||| ((0 : Int32).toInt64 <<< s) = a := by
  have e : (0 : Int32).toInt64 <<< s = 0 := by
    apply Int64.toBitVec_inj.mp
    rw [Int64.toBitVec_shiftLeft]
    show (0#64) <<< _ = 0#64
    exact BitVec.zero_shiftLeft _
  rw [e]
  apply Int64.toBitVec_inj.mp
  rw [Int64.toBitVec_or]
  exact BitVec.or_zero
theorem e_kin (h : Rel m w x y z n) (j wr is : Int32) : s_X7_kin z j wr is = s_X8_kin w j wr is ∧ Rel (sx_X8_kin m) (sz_X8_kin w j wr is) x y (sz_X7_kin z j wr is) n := by
  have hw := h.wz
  subst hw
  unfold s_X7_kin s_X8_kin sx_X8_kin sz_X8_kin sz_X7_kin
  rw [wi_e, wi_e, is_j]
  by_cases c1 : s_X7_within j 0 19 = 0
  · rw [if_pos c1, if_pos c1, if_pos c1, if_pos c1]; exact ⟨rfl, h⟩
  · rw [if_neg c1, if_neg c1, if_neg c1, if_neg c1]
    by_cases c2 : s_X7_within wr 0 39 = 0
    · rw [if_pos c2, if_pos c2, if_pos c2, if_pos c2]; exact ⟨rfl, h⟩
    · rw [if_neg c2, if_neg c2, if_neg c2, if_neg c2]
      by_cases c3 : s_X7_within is 0 1 = 0
      · rw [if_pos c3, if_pos c3, if_pos c3, if_pos c3]; exact ⟨rfl, h⟩
      · rw [if_neg c3, if_neg c3, if_neg c3, if_neg c3]
        refine ⟨kin_ans _ _, ?_⟩
        have hi := wi_tn (k := 1) (by decide) c3
        have ez : vp_updL w (tn j) (((w (tn j)) &&& (((1) <<< (wr.toInt64 &&& 63)) ^^^ ((-1)))) ||| (((is).toInt64) <<< (wr.toInt64 &&& 63))) = sz_X3_setKin w (tn j) wr (if is = 1 then 1 else 0 : Int32) := by
          unfold sz_X3_setKin
          rcases (show tn is = 0 ∨ tn is = 1 by omega) with q | q
          · have e0 : is = 0 := by rw [hi.1, q]; rfl
            subst e0
            rw [if_neg (show ¬ (0 : Int32) = 1 by decide), if_pos rfl, or_064]
          · have e1 : is = 1 := by rw [hi.1, q]; rfl
            subst e1
            rw [if_pos rfl, if_neg (show ¬ (1 : Int32) = 0 by decide)]
            congr 1
            exact or_clr64 _ _
        rw [ez]
        exact ⟨rfl, h.2⟩
-- counting
theorem itr_cnt {f : Nat → Int32 → Int32} {q : Nat → Bool} : ∀ k, (∀ i a, i < k → f i a = a + (if q i = true then 1 else 0 : Int32)) → itr f 0 k = nI (ct q k)
  | 0, _ => rfl
  | k + 1, hf => by
    show f k (itr f 0 k) = nI (ct q k + (if q k = true then 1 else 0))
    rw [hf k _ (by omega), itr_cnt k (fun i a hi => hf i a (by omega))]
    by_cases e : q k = true
    · rw [if_pos e, if_pos e, nI_1]
    · rw [if_neg e, if_neg e, Int32.add_zero]; rfl
theorem itr_cg {f g : Nat → Int32 → Int32} {a : Int32} : ∀ k, (∀ i b, i < k → f i b = g i b) → itr f a k = itr g a k
  | 0, _ => rfl
  | k + 1, hf => by
    show f k (itr f a k) = g k (itr g a k)
    rw [itr_cg k (fun i b hi => hf i b (by omega)), hf k _ (by omega)]
theorem ct_cg {p q : Nat → Bool} : ∀ {k : Nat}, (∀ i, i < k → p i = q i) → ct p k = ct q k
  | 0, _ => rfl
  | k + 1, h => by
    show ct p k + (if p k = true then 1 else 0) = ct q k + (if q k = true then 1 else 0)
    rw [ct_cg (fun i hi => h i (by omega)), h k (by omega)]
theorem ct_0 {q : Nat → Bool} : ∀ {k : Nat}, ct q k = 0 ↔ ∀ i, i < k → q i = false
  | 0 => ⟨fun _ i hi => absurd hi (by omega), fun _ => rfl⟩
  | k + 1 => by
    show ct q k + (if q k = true then 1 else 0) = 0 ↔ _
    constructor
    · intro h i hi
      rcases Nat.lt_or_ge i k with r | r
      · exact (ct_0 (k := k)).mp (by omega) i r
      · rw [show i = k by omega]
        by_cases e : q k = true
        · rw [if_pos e] at h; omega
        · simpa using e
    · intro h
      rw [(ct_0 (k := k)).mpr (fun i hi => h i (by omega)), if_neg (by rw [h k (by omega)]; decide)]
theorem ct_pos {q : Nat → Bool} {k i : Nat} (hi : i < k) (h : q i = true) : 0 < ct q k := by
  rcases Nat.eq_zero_or_pos (ct q k) with e | e
  · have := ct_0.mp e i hi
    rw [h] at this; cases this
  · exact e
/-- at most one: a count of 0 or 1 -/
theorem ct_one {q : Nat → Bool} : ∀ {k : Nat}, (∀ i i', i < k → i' < k → q i = true → q i' = true → i = i') → ct q k ≤ 1
  | 0, _ => Nat.zero_le 1
  | k + 1, h => by
    show ct q k + (if q k = true then 1 else 0) ≤ 1
    by_cases e : q k = true
    · have h0 : ct q k = 0 := ct_0.mpr (fun i hi => by
        by_cases r : q i = true
        · exact absurd (h i k (by omega) (by omega) r e) (by omega)
        · simpa using r)
      rw [h0, if_pos e]; decide
    · rw [if_neg e]
      exact ct_one (fun i i' h1 h2 => h i i' (by omega) (by omega))
end R3
