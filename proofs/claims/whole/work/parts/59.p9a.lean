section R9
variable {m : XX} {w : Nat → Int64} {x : XX} {y : YY} {z : Nat → Int64} {n : Nat}
theorem hasv_cg {p q : Nat → Bool} : ∀ {k : Nat}, (∀ i, i < k → p i = q i) → hasv p k = hasv q k
  | 0, _ => rfl
  | k + 1, h => by
    show (hasv p k || p k) = (hasv q k || q k)
    rw [hasv_cg (fun i hi => h i (by omega)), h k (by omega)]
theorem fstv_cg {p q : Nat → Bool} : ∀ {k : Nat}, (∀ i, i < k → p i = q i) → fstv p k = fstv q k
  | 0, _ => rfl
  | k + 1, h => by
    show (if hasv p k = true then fstv p k else if p k = true then k else k + 1) = (if hasv q k = true then fstv q k else if q k = true then k else k + 1)
    rw [hasv_cg (fun i hi => h i (by omega)), h k (by omega), fstv_cg (fun i hi => h i (by omega))]
theorem acY_ne (y : YY) (p c : Nat) {k : Nat} (h0 : k ≠ 0) (h1 : k ≠ 1) (h5 : k ≠ 5) : acY y p c k = y k := by
  unfold acY
  funext i
  split <;> simp [upY, h0, h1, h5]
theorem ct_no {q : Nat → Bool} {k : Nat} (h : ∀ i, i < k → q i = false) : ct q k = 0 := ct_0.mpr h
theorem itr_stay {f : Nat → Int32 → Int32} {a : Int32} : ∀ k, (∀ i b, i < k → f i b = b) → itr f a k = a
  | 0, _ => rfl
  | k + 1, h => by
    show f k (itr f a k) = a
    rw [h k _ (by omega), itr_stay k (fun i b hi => h i b (by omega))]
theorem rel_more (h : Rel m w x y z n) {c : Nat} (hc : c < y 20 1) : Rel (up2 m 16 c ((m 16 c) + 1)) w (up2 x 18 c ((x 18 c) + 1)) y z n := by
  refine ⟨h.wz, h.a, h.p, ⟨h.c.1, fun k hk => ?_⟩, h.s, h.g, h.v, h.hh, h.q, h.ci, h.cl, h.y1, h.n512⟩
  have h8 := h.c.2 k hk
  by_cases e : k = c
  · subst e
    have h4 : m 16 k + 1 = x 18 k + 1 := by rw [h8.2.2.2.1]
    have e1 : up2 m 16 k (m 16 k + 1) 16 k = m 16 k + 1 := by simp [up2, upd]
    have e2 : up2 x 18 k (x 18 k + 1) 18 k = x 18 k + 1 := by simp [up2, upd]
    exact ⟨h8.1, h8.2.1, h8.2.2.1, by rw [e1, e2, h4], h8.2.2.2.2⟩
  · have e1 : up2 m 16 c (m 16 c + 1) 16 k = m 16 k := by simp [up2, upd, e]
    have e2 : up2 x 18 c (x 18 c + 1) 18 k = x 18 k := by simp [up2, upd, e]
    exact ⟨h8.1, h8.2.1, h8.2.2.1, by rw [e1, e2]; exact h8.2.2.2.1, h8.2.2.2.2⟩
theorem up2_o {x : XX} {k j k' j' : Nat} {v : Int32} (h : ¬ (k' = k ∧ j' = j)) : up2 x k j v k' j' = x k' j' := by
  unfold up2
  by_cases e : k' = k
  · rw [if_pos e]; unfold upd; rw [if_neg (fun q => h ⟨e, q⟩), e]
  · rw [if_neg e]
theorem up2_at {x : XX} {k j k' j' : Nat} {v : Int32} : up2 x k j v k' j' = if k' = k ∧ j' = j then v else x k' j' := by
  by_cases e : k' = k ∧ j' = j
  · rw [if_pos e, e.1, e.2]; simp [up2, upd]
  · rw [if_neg e]; exact up2_o e
def cmX (m : XX) (nC : Nat) (pp r g t : Int32) : XX := (up2 (up2 (up2 (up2 (up2 (up2 (up2 (up2 (up2 (up2 (up2 (up2 (up2 m 13 nC pp) 14 nC r) 15 nC 0) 16 nC 1) 17 nC g) 18 nC t) 19 nC ((2 * g) + 1)) 20 nC 0) 21 nC 0) 22 nC (-1)) 23 (2 * nC) (-1)) 23 ((2 * nC) + 1) (-1)) 27 0 ((m 27 0) + 1))
theorem cmX_o (m : XX) (nC : Nat) (pp r g t : Int32) {k c : Nat} (h : c ≠ nC ∨ k < 13 ∨ 22 < k) (h3 : k ≠ 23) (h7 : k ≠ 27) : cmX m nC pp r g t k c = m k c := by
  unfold cmX
  rw [up2_o (by omega), up2_o (by omega), up2_o (by omega), up2_o (by omega), up2_o (by omega), up2_o (by omega), up2_o (by omega), up2_o (by omega), up2_o (by omega), up2_o (by omega), up2_o (by omega), up2_o (by omega), up2_o (by omega)]
theorem cmX_23 (m : XX) (nC : Nat) (pp r g t : Int32) {c : Nat} (h : c < 2 * nC) : cmX m nC pp r g t 23 c = m 23 c := by
  unfold cmX
  rw [up2_o (by omega), up2_o (by omega), up2_o (by omega), up2_o (by omega), up2_o (by omega), up2_o (by omega), up2_o (by omega), up2_o (by omega), up2_o (by omega), up2_o (by omega), up2_o (by omega), up2_o (by omega), up2_o (by omega)]
theorem caX_o (x : XX) (n : Nat) (g si : Int32) {k c : Nat} (h : (c ≠ n ∧ k < 22) ∨ k < 16 ∨ (c ≠ 2 * n ∧ 22 ≤ k) ∨ 28 < k) (h6 : k ≠ 36) : caX x n g si k c = x k c := by
  unfold caX
  rw [up2_o (by omega), up2_o (by omega), up2_o (by omega), up2_o (by omega), up2_o (by omega), up2_o (by omega), up2_o (by omega), up2_o (by omega), up2_o (by omega), up2_o (by omega), up2_o (by omega), up2_o (by omega), up2_o (by omega), up2_o (by omega)]
/-- the chain with one case more -/
theorem ca_cl {y : YY} {cp p r : Nat} (hI : CI y) (hL : CL y) (hS : LSt y) (hp : p < y 20 0) : CL (acY (caY y cp p r) p (y 20 1)) ∧ LSt (acY (caY y cp p r) p (y 20 1)) ∧ (∀ q, q < y 20 0 → acY (caY y cp p r) p (y 20 1) 0 q ≤ y 20 1 + 1 ∧ acY (caY y cp p r) p (y 20 1) 1 q ≤ y 20 1 + 1) ∧ (∀ c, c < y 20 1 + 1 → acY (caY y cp p r) p (y 20 1) 5 c ≤ y 20 1 + 1) := by
  have Yk : ∀ k, k ≠ 0 → k ≠ 1 → k ≠ 5 → acY (caY y cp p r) p (y 20 1) k = caY y cp p r k := fun k a b c => acY_ne _ _ _ a b c
  have Y0 : ∀ q, acY (caY y cp p r) p (y 20 1) 0 q = if q = p ∧ y 1 p = 0 then y 20 1 + 1 else y 0 q := fun q => by
    have e1 : caY y cp p r 1 p = y 1 p := rfl
    have e0 : caY y cp p r 0 q = y 0 q := rfl
    unfold acY
    rw [e1]
    by_cases a : y 1 p = 0
    · rw [if_pos a]; simp [upY, a, e0]
    · rw [if_neg a]; simp [upY, a, e0]
  have Y1 : ∀ q, acY (caY y cp p r) p (y 20 1) 1 q = if q = p then y 20 1 + 1 else y 1 q := fun q => by
    have e1 : caY y cp p r 1 p = y 1 p := rfl
    have e0 : caY y cp p r 1 q = y 1 q := rfl
    unfold acY
    rw [e1]
    by_cases a : y 1 p = 0
    · rw [if_pos a]; simp [upY, e0]
    · rw [if_neg a]; simp [upY, e0]
  have Y5 : ∀ c, acY (caY y cp p r) p (y 20 1) 5 c = if c = y 1 p - 1 ∧ y 1 p ≠ 0 then y 20 1 + 1 else if c = y 20 1 then 0 else y 5 c := fun c => by
    have e1 : caY y cp p r 1 p = y 1 p := rfl
    have e0 : caY y cp p r 5 c = if c = y 20 1 then 0 else y 5 c := by simp [caY, upY]
    unfold acY
    rw [e1]
    by_cases a : y 1 p = 0
    · rw [if_pos a]; simp [upY, a, e0]
    · rw [if_neg a]; simp [upY, a, e0]
  generalize acY (caY y cp p r) p (y 20 1) = y' at *
  have y2 : ∀ c, y' 2 c = if c = y 20 1 then p else y 2 c := fun c => by rw [Yk 2 (by decide) (by decide) (by decide)]; simp [caY, upY]
  have y200 : y' 20 0 = y 20 0 := by rw [Yk 20 (by decide) (by decide) (by decide)]; rfl
  have y201 : y' 20 1 = y 20 1 + 1 := by rw [Yk 20 (by decide) (by decide) (by decide)]; rfl
  have o2 : ∀ c, c < y 20 1 → y' 2 c = y 2 c := fun c hc => by rw [y2, if_neg (by omega)]
  have n2 : y' 2 (y 20 1) = p := by rw [y2, if_pos rfl]
  -- the next one, of others, and of p
  have nx : ∀ q i, i ≤ y 20 1 → nxt y q i ≠ 0 → nxt y' q i = nxt y q i := fun q i hi h => by
    obtain ⟨c, e, g1, g2, g3, g4⟩ := nxt_some h
    rw [e]
    exact nxt_is g1 (by omega) (by rw [o2 c g2]; exact g3) (fun b b1 b2 => by rw [o2 b (by omega)]; exact g4 b b1 b2)
  have nx0 : ∀ q i, q ≠ p → nxt y q i = 0 → nxt y' q i = 0 := fun q i hq h => nxt_zero (fun c c1 c2 => by
    by_cases e : c = y 20 1
    · rw [e, n2]; exact fun k => hq k.symm
    · rw [o2 c (by omega)]; exact nxt_none h c c1 (by omega))
  have nxp : ∀ i, i ≤ y 20 1 → nxt y p i = 0 → nxt y' p i = y 20 1 + 1 := fun i hi h => nxt_is hi (by omega) n2 (fun b b1 b2 => by rw [o2 b b2]; exact nxt_none h b b1 b2)
  refine ⟨⟨fun q hq => ?_, fun c hc => ?_⟩, fun q hq => ?_, fun q hq => ?_, fun c hc => ?_⟩
  · rw [y200] at hq
    rw [Y0]
    have h0 := hL.1 q hq
    by_cases e : q = p
    · subst e
      rcases hS q hq with ⟨a, b⟩ | ⟨c, a, b, d, -⟩
      · rw [if_pos ⟨rfl, a⟩, nxp 0 (Nat.zero_le _) (nxt_zero (fun c _ hc => b c hc))]
      · rw [if_neg (fun k => by omega), h0, nx q 0 (Nat.zero_le _) (fun k => nxt_none k c (Nat.zero_le _) b d)]
    · rw [if_neg (fun k => e k.1), h0]
      by_cases k : nxt y q 0 = 0
      · rw [k, nx0 q 0 e k]
      · rw [nx q 0 (Nat.zero_le _) k]
  · rw [y201] at hc
    rw [Y5]
    by_cases en : c = y 20 1
    · subst en
      rw [n2]
      have : nxt y' p (y 20 1 + 1) = 0 := nxt_zero (fun b b1 b2 => by omega)
      rw [this, if_neg (fun k => by
        rcases hS p hp with ⟨a, -⟩ | ⟨d, a, b, -⟩ <;> omega), if_pos rfl]
    · have hc' : c < y 20 1 := by omega
      have h5 := hL.2 c hc'
      rw [o2 c hc', if_neg en]
      by_cases e : y 2 c = p
      · rcases hS p hp with ⟨a, b⟩ | ⟨d, a, b, e2, e3⟩
        · exact absurd e (b c hc')
        · by_cases ed : c = d
          · subst ed
            rw [if_pos ⟨by omega, by omega⟩, e, nxp (c + 1) (by omega) (nxt_zero (fun b b1 b2 => e3 b (by omega) b2))]
          · rw [if_neg (fun k => by omega), h5, e]
            have hcd : c < d := by
              rcases Nat.lt_or_ge c d with k | k
              · exact k
              · exact absurd e (e3 c (by omega) hc')
            rw [nx p (c + 1) (by omega) (fun k => nxt_none k d (by omega) b e2)]
      · rw [if_neg (fun k => by
          rcases hS p hp with ⟨a, b⟩ | ⟨d, a, b, e2, e3⟩
          · exact k.2 a
          · have : c = d := by omega
            subst this; exact e e2), h5]
        by_cases k : nxt y (y 2 c) (c + 1) = 0
        · rw [k, nx0 _ _ e k]
        · rw [nx _ _ (by omega) k]
  · rw [y200] at hq
    rw [Y1, y201]
    by_cases e : q = p
    · subst e
      rw [if_pos rfl]
      exact Or.inr ⟨y 20 1, rfl, by omega, n2, fun b b1 b2 => by omega⟩
    · rw [if_neg e]
      rcases hS q hq with ⟨a, b⟩ | ⟨d, a, b, e2, e3⟩
      · refine Or.inl ⟨a, fun c hc => ?_⟩
        by_cases ec : c = y 20 1
        · rw [ec, n2]; exact fun k => e k.symm
        · rw [o2 c (by omega)]; exact b c (by omega)
      · refine Or.inr ⟨d, a, by omega, by rw [o2 d b]; exact e2, fun c c1 c2 => ?_⟩
        by_cases ec : c = y 20 1
        · rw [ec, n2]; exact fun k => e k.symm
        · rw [o2 c (by omega)]; exact e3 c c1 (by omega)
  · have := hI.2.1 q hq
    rw [Y0, Y1]
    constructor
    · split <;> omega
    · split <;> omega
  · rw [Y5]
    by_cases e : c = y 20 1
    · repeat' split
      all_goals omega
    · have := (hI.1 c (by omega)).2.2
      repeat' split
      all_goals omega
end R9
