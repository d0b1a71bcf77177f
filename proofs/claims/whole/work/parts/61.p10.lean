section R10
variable {m : XX} {w : Nat → Int64} {x : XX} {y : YY} {z : Nat → Int64} {n : Nat}
def apM (m : XX) (c : Nat) (a t : Int32) : XX := (up2 (up2 (up2 (up2 m 15 c 3) 19 c (if 9 ≤ (a + 2) then 9 else a + 2 : Int32)) 20 c 0) 18 c t)
theorem apM_o (m : XX) (c : Nat) (a t : Int32) {k i : Nat} (h : i ≠ c ∨ (k ≠ 15 ∧ k ≠ 18 ∧ k ≠ 19 ∧ k ≠ 20)) : apM m c a t k i = m k i := by
  unfold apM
  rw [up2_o (by omega), up2_o (by omega), up2_o (by omega), up2_o (by omega)]
theorem haX_o (x : XX) (c : Nat) (t : Int32) {k i : Nat} (h : (k ≠ 17 ∧ k ≠ 19 ∧ (k < 22 ∨ 28 < k)) ∨ (k < 22 ∧ i ≠ c) ∨ (22 ≤ k ∧ i ≠ 2 * c + 1)) : haX x c t k i = x k i := by
  unfold haX heX
  rw [up2_o (by omega), up2_o (by omega), up2_o (by omega), up2_o (by omega), up2_o (by omega), up2_o (by omega), up2_o (by omega), up2_o (by omega), up2_o (by omega)]
theorem rel_appeal (h : Rel m w x y z n) {c : Nat} (hc : c < y 20 1) (hs : x 19 c = 2) : Rel (apM m c (m 19 c) (m 0 0)) w (haX x c (x 0 0)) (upY y 4 c 1) z n := by
  have hC := h.bC; have hG := h.bG
  have rc0 := h.c.2 c hc
  have q0 := h.q c hc
  obtain ⟨b4, o1, t21, r23, r231, la⟩ : y 4 c = 0 ∧ x 28 (2 * c) = 1 ∧ m 21 c = 1 ∧ m 23 (2 * c) = fnd x (2 * c) ∧ m 23 (2 * c + 1) = -1 ∧ LA m x c (2 * c) := by
    rcases h.s c hc with ⟨a, -⟩ | ⟨-, b⟩ | ⟨a, -⟩ | ⟨a, -⟩
    · rw [hs] at a; exact absurd a (by decide)
    · exact b
    · rw [hs] at a; exact absurd a (by decide)
    · rw [hs] at a; rcases a with a | a <;> exact absurd a (by decide)
  have y4 : ∀ i, (upY y 4 c 1) 4 i = if i = c then 1 else y 4 i := fun i => by simp [upY]
  have tmo : ∀ i, i ≠ c → tmc (upY y 4 c 1) i = tmc y i := fun i e => by unfold tmc; rw [y4, if_neg e]
  have tmn : tmc (upY y 4 c 1) c = 1 := by unfold tmc; rw [y4, if_pos rfl]; rfl
  have tm0 : tmc y c = 0 := by unfold tmc; rw [if_pos b4]
  rw [tm0, Nat.add_zero] at rc0 q0
  have mo : ∀ k i, (i ≠ c ∨ (k ≠ 15 ∧ k ≠ 18 ∧ k ≠ 19 ∧ k ≠ 20)) → (apM m c (m 19 c) (m 0 0)) k i = m k i := fun k i a => apM_o _ _ _ _ a
  have xo : ∀ k i, ((k ≠ 17 ∧ k ≠ 19 ∧ (k < 22 ∨ 28 < k)) ∨ (k < 22 ∧ i ≠ c) ∨ (22 ≤ k ∧ i ≠ 2 * c + 1)) → (haX x c (x 0 0)) k i = x k i := fun k i a => haX_o _ _ _ a
  have no1 : ∀ v, v < nV m → ¬ (vC m v = c ∧ vT m v = 1) := fun v hv k => (h.v.2.2.1 v hv).2.2.2.1 k.2 (by rw [k.1]; exact b4)
  have n0V : ct (qV m c 1) (nV m) = 0 := ct_no (fun v hv => by
    unfold qV
    by_cases e : vC m v = c
    · rw [decide_eq_false (fun k => no1 v hv ⟨e, k⟩), Bool.and_false]
    · rw [decide_eq_false e, Bool.false_and])
  have n0W : ∀ b, itr (gW m c 1 b) 0 (nV m) = 0 := fun b => itr_stay _ (fun v a hv => by unfold gW; rw [if_neg (fun k => no1 v hv ⟨k.1, k.2.1⟩)])
  have n0G : ct (qG y c) (y 20 2) = 0 := q0.2.2 (by rw [hs]; decide)
  have v15 : (apM m c (m 19 c) (m 0 0)) 15 c = 3 := by simp [apM, up2_at]
  have v18 : (apM m c (m 19 c) (m 0 0)) 18 c = m 0 0 := by simp [apM, up2_at]
  have v19 : (apM m c (m 19 c) (m 0 0)) 19 c = (if 9 ≤ (m 19 c + 2) then 9 else m 19 c + 2 : Int32) := by simp [apM, up2_at]
  have v20 : (apM m c (m 19 c) (m 0 0)) 20 c = 0 := by simp [apM, up2_at]
  have u17 : (haX x c (x 0 0)) 17 c = x 0 0 := by simp [haX, up2_at]
  have u19 : (haX x c (x 0 0)) 19 c = 3 := by simp [haX, up2_at]
  have u22 : (haX x c (x 0 0)) 22 (2 * c + 1) = (if (x 22 (2 * c)) + 2 < 9 then (x 22 (2 * c)) + 2 else 9 : Int32) := by simp [haX, heX, up2_at]
  have u23 : (haX x c (x 0 0)) 23 (2 * c + 1) = 0 := by simp [haX, heX, up2_at]
  have u24 : (haX x c (x 0 0)) 24 (2 * c + 1) = 0 := by simp [haX, heX, up2_at]
  have u25 : (haX x c (x 0 0)) 25 (2 * c + 1) = 0 := by simp [haX, heX, up2_at]
  have u26 : (haX x c (x 0 0)) 26 (2 * c + 1) = 0 := by simp [haX, heX, up2_at]
  have u27 : (haX x c (x 0 0)) 27 (2 * c + 1) = 0 := by simp [haX, heX, up2_at]
  have u28 : (haX x c (x 0 0)) 28 (2 * c + 1) = 0 := by simp [haX, heX, up2_at]
  refine ⟨h.wz, h.a, h.p, ⟨h.c.1, fun i hi => ?_⟩, fun i hi => ?_, h.g, ⟨h.v.1, h.v.2.1, fun v hv => ?_, h.v.2.2.2⟩, fun i t hi ht hl => ?_, fun i hi => ?_, h.ci, CL.cg (y := y) rfl rfl rfl rfl rfl h.cl, h.y1, h.n512⟩
  · have hi : i < y 20 1 := hi
    by_cases e : i = c
    · subst e
      rw [tmn, v15, v18, v19, v20, u17, u19, u22, u23, mo 13 i (Or.inr ⟨by decide, by decide, by decide, by decide⟩), mo 14 i (Or.inr ⟨by decide, by decide, by decide, by decide⟩), mo 16 i (Or.inr ⟨by decide, by decide, by decide, by decide⟩), mo 17 i (Or.inr ⟨by decide, by decide, by decide, by decide⟩), mo 22 i (Or.inr ⟨by decide, by decide, by decide, by decide⟩), xo 18 i (Or.inl ⟨by decide, by decide, Or.inl (by decide)⟩), xo 16 i (Or.inl ⟨by decide, by decide, Or.inl (by decide)⟩), xo 20 i (Or.inl ⟨by decide, by decide, Or.inl (by decide)⟩)]
      refine ⟨rc0.1, rc0.2.1, rfl, rc0.2.2.2.1, rc0.2.2.2.2.1, h.a.1.1, rc0.2.2.2.2.2.2.1, ?_, rfl, rc0.2.2.2.2.2.2.2.2.2⟩
      rw [rc0.2.2.2.2.2.2.2.1]
      by_cases k : x 22 (2 * i) + 2 < 9
      · rw [if_pos k, if_neg (Int32.not_le.mpr k)]
      · rw [if_neg k, if_pos (Int32.not_lt.mp k)]
    · have tl := tm_lt y i
      rw [tmo i e, mo 13 i (Or.inl e), mo 14 i (Or.inl e), mo 15 i (Or.inl e), mo 16 i (Or.inl e), mo 17 i (Or.inl e), mo 18 i (Or.inl e), mo 22 i (Or.inl e), mo 19 i (Or.inl e), mo 20 i (Or.inl e), xo 19 i (Or.inr (Or.inl ⟨by decide, e⟩)), xo 18 i (Or.inr (Or.inl ⟨by decide, e⟩)), xo 16 i (Or.inr (Or.inl ⟨by decide, e⟩)), xo 17 i (Or.inr (Or.inl ⟨by decide, e⟩)), xo 20 i (Or.inr (Or.inl ⟨by decide, e⟩)), xo 22 _ (Or.inr (Or.inr ⟨by decide, by omega⟩)), xo 23 _ (Or.inr (Or.inr ⟨by decide, by omega⟩))]
      exact h.c.2 i hi
  · have hi : i < y 20 1 := hi
    by_cases e : i = c
    · subst e
      refine Or.inr (Or.inr (Or.inl ⟨u19, by rw [y4, if_pos rfl]; decide, ?_, u28, t21, ?_, r231, ?_⟩))
      · rw [xo 28 _ (Or.inr (Or.inr ⟨by decide, by omega⟩))]; exact o1
      · show m 23 (2 * i) = _
        unfold fnd
        rw [xo 26 _ (Or.inr (Or.inr ⟨by decide, by omega⟩)), xo 27 _ (Or.inr (Or.inr ⟨by decide, by omega⟩))]; exact r23
      · unfold LA
        rw [xo 24 _ (Or.inr (Or.inr ⟨by decide, by omega⟩)), xo 26 _ (Or.inr (Or.inr ⟨by decide, by omega⟩)), xo 27 _ (Or.inr (Or.inr ⟨by decide, by omega⟩))]; exact la
    · have f1 : ∀ t, t < 2 → fnd (haX x c (x 0 0)) (2 * i + t) = fnd x (2 * i + t) := fun t ht => by
        unfold fnd
        rw [xo 26 _ (Or.inr (Or.inr ⟨by decide, by omega⟩)), xo 27 _ (Or.inr (Or.inr ⟨by decide, by omega⟩))]
      have f0 := f1 0 (by decide)
      rw [Nat.add_zero] at f0
      have la2 : ∀ t, t < 2 → LA (apM m c (m 19 c) (m 0 0)) (haX x c (x 0 0)) i (2 * i + t) = LA m x i (2 * i + t) := fun t ht => by
        unfold LA
        rw [mo 24 i (Or.inl e), mo 25 i (Or.inl e), mo 26 i (Or.inl e), xo 24 _ (Or.inr (Or.inr ⟨by decide, by omega⟩)), xo 26 _ (Or.inr (Or.inr ⟨by decide, by omega⟩)), xo 27 _ (Or.inr (Or.inr ⟨by decide, by omega⟩))]
      have la0 := la2 0 (by decide)
      rw [Nat.add_zero] at la0
      have m23 : ∀ k, (apM m c (m 19 c) (m 0 0)) 23 k = m 23 k := fun k => mo 23 k (Or.inr ⟨by decide, by decide, by decide, by decide⟩)
      rw [xo 19 i (Or.inr (Or.inl ⟨by decide, e⟩)), y4, if_neg e, xo 28 (2 * i) (Or.inr (Or.inr ⟨by decide, by omega⟩)), xo 28 (2 * i + 1) (Or.inr (Or.inr ⟨by decide, by omega⟩)), mo 21 i (Or.inl e), m23, m23, f0, f1 1 (by decide), la0, la2 1 (by decide)]
      exact h.s i hi
  · have b := h.v.2.2.1 v hv
    refine ⟨b.1, b.2.1, b.2.2.1, fun k => ?_, b.2.2.2.2⟩
    have := b.2.2.2.1 k
    show (upY y 4 c 1) 4 (vC m v) ≠ 0
    rw [y4]
    split
    · decide
    · exact this
  · have hi : i < y 20 1 := hi
    show _ = nI (ct (qV m i t) (nV m)) ∧ (∀ j, j < 32 → (_ ↔ ∃ v, v < nV m ∧ vC m v = i ∧ vT m v = t ∧ vJ m v = j)) ∧ (∀ j, j < 32 → (_ ↔ ∃ v, v < nV m ∧ vC m v = i ∧ vT m v = t ∧ vJ m v = j ∧ m 40 v = 1)) ∧ _ = itr (gW m i t 1) 0 (nV m) ∧ _ = itr (gW m i t 0) 0 (nV m)
    by_cases e : 2 * i + t = 2 * c + 1
    · have e1 : i = c := by omega
      have e2 : t = 1 := by omega
      subst e1; subst e2
      rw [u24, u25, u26, u27, n0V, bc_0, n0W, n0W]
      refine ⟨rfl, fun j hj => ?_, fun j hj => ?_, rfl, rfl⟩
      · rw [b_0]
        exact ⟨fun k => absurd k (by decide), fun ⟨v, v1, v2, v3, _⟩ => absurd ⟨v2, v3⟩ (no1 v v1)⟩
      · rw [b_0]
        exact ⟨fun k => absurd k (by decide), fun ⟨v, v1, v2, v3, _⟩ => absurd ⟨v2, v3⟩ (no1 v v1)⟩
    · have hl2 : t = 0 ∨ y 4 i ≠ 0 := by
        rcases hl with q | q
        · exact Or.inl q
        · rw [y4] at q
          by_cases ei : i = c
          · exact Or.inl (by omega)
          · rw [if_neg ei] at q; exact Or.inr q
      rw [xo 24 _ (Or.inr (Or.inr ⟨by decide, e⟩)), xo 25 _ (Or.inr (Or.inr ⟨by decide, e⟩)), xo 26 _ (Or.inr (Or.inr ⟨by decide, e⟩)), xo 27 _ (Or.inr (Or.inr ⟨by decide, e⟩))]
      exact h.hh i t hi ht hl2
  · have hi : i < y 20 1 := hi
    show (_ ∧ _) ∧ (_ → ct (qV m i _) (nV m) + ct (qG y i) (y 20 2) ≤ _) ∧ (_ → ct (qG y i) (y 20 2) = 0)
    by_cases e : i = c
    · subst e
      rw [tmn, u22, n0V, n0G]
      have b9 := q0.1.2
      have key : (if (x 22 (2 * i)) + 2 < 9 then (x 22 (2 * i)) + 2 else 9 : Int32) = nI (if tn (x 22 (2 * i)) + 2 < 9 then tn (x 22 (2 * i)) + 2 else 9) := by
        have e2 : x 22 (2 * i) + 2 = nI (tn (x 22 (2 * i)) + 2) := nI_addE (b := 2) q0.1.1 rfl
        rw [e2, show (9 : Int32) = nI 9 from rfl]
        by_cases k : tn (x 22 (2 * i)) + 2 < 9
        · rw [if_pos (by rw [nI_ltI (by omega) (by decide)]; exact k), if_pos k]
        · rw [if_neg (by rw [nI_ltI (by omega) (by decide)]; exact k), if_neg k]
      have l9 : (if tn (x 22 (2 * i)) + 2 < 9 then tn (x 22 (2 * i)) + 2 else 9) ≤ 9 := by split <;> omega
      rw [key, tn_nI (by omega)]
      exact ⟨⟨rfl, l9⟩, fun _ => by omega, fun _ => rfl⟩
    · have tl := tm_lt y i
      rw [tmo i e, xo 22 _ (Or.inr (Or.inr ⟨by decide, by omega⟩)), xo 19 i (Or.inr (Or.inl ⟨by decide, e⟩))]
      exact h.q i hi
theorem e_appeal (h : Rel m w x y z n) (c : Int32) : s_X7_appeal x y c = s_X8_appeal m c ∧ ∀ G A ad H, okA G A ad x y z c H → After G A ad (sx_X8_appeal m c) w n H := by
  unfold s_X7_appeal s_X8_appeal sx_X8_appeal
  rw [is_c h]
  by_cases c1 : s_X7_within c 0 ((nI (y 20 1)) - 1) = 0
  · rw [if_pos c1, if_pos c1, if_pos c1]
    refine ⟨rfl, fun G A ad H k => ?_⟩
    unfold okA at k; rw [if_pos c1] at k
    exact ⟨ad, x, y, z, rfl, k, h⟩
  rw [if_neg c1, if_neg c1, if_neg c1]
  have hc := (case_tn h c1).2
  rw [(h.c.2 _ hc).2.2.1]
  by_cases c2 : x 19 (tn c) = 2
  · rw [if_pos c2, if_pos c2]
    refine ⟨rfl, fun G A ad H k => ?_⟩
    unfold okA at k; rw [if_neg c1, if_pos c2] at k
    obtain ⟨ad', k1, k2⟩ := k
    exact ⟨ad', _, _, z, k1, k2, rel_appeal h hc c2⟩
  · rw [if_neg c2, if_neg c2]
    refine ⟨rfl, fun G A ad H k => ?_⟩
    unfold okA at k; rw [if_neg c1, if_neg c2] at k
    exact ⟨ad, x, y, z, rfl, k, h⟩
theorem r42 (h : Rel m w x y z n) : ∀ c, c < y 20 1 → (x 19 c) = 2 → y 4 c = 0 := fun c hc hs => by
  rcases h.s c hc with ⟨a, -⟩ | ⟨-, b, -⟩ | ⟨a, -⟩ | ⟨a, -⟩
  · rw [hs] at a; exact absurd a (by decide)
  · exact b
  · rw [hs] at a; exact absurd a (by decide)
  · rw [hs] at a; rcases a with a | a <;> exact absurd a (by decide)
end R10
