section R9b
variable {m : XX} {w : Nat → Int64} {x : XX} {y : YY} {z : Nat → Int64} {n : Nat}
theorem rel_case (h : Rel m w x y z n) {p r cp : Nat} (hp : p < y 20 0) (hr : r < 8) (hn : y 20 1 < 400) (hc1 : y 20 1 < cp) (hc2 : cp ≤ 600) : Rel (cmX m (y 20 1) (nI p) (nI r) (x 3 r) (x 0 0)) w (caX x (y 20 1) (x 3 r) (x 0 0)) (acY (caY y cp p r) p (y 20 1)) z n := by
  have hP := h.bP; have hG := h.bG
  have ra := h.a.2.1 r hr
  obtain ⟨hcl, hls, hb01, hb5⟩ := ca_cl (cp := cp) (r := r) h.ci h.cl h.y1 hp
  have Yk : ∀ k, k ≠ 0 → k ≠ 1 → k ≠ 5 → acY (caY y cp p r) p (y 20 1) k = caY y cp p r k := fun k a b c => acY_ne _ _ _ a b c
  generalize acY (caY y cp p r) p (y 20 1) = y' at *
  have y2 : ∀ c, y' 2 c = if c = y 20 1 then p else y 2 c := fun c => by rw [Yk 2 (by decide) (by decide) (by decide)]; simp [caY, upY]
  have y3 : ∀ c, y' 3 c = if c = y 20 1 then r else y 3 c := fun c => by rw [Yk 3 (by decide) (by decide) (by decide)]; simp [caY, upY]
  have y4 : ∀ c, y' 4 c = if c = y 20 1 then 0 else y 4 c := fun c => by rw [Yk 4 (by decide) (by decide) (by decide)]; simp [caY, upY]
  have y6 : y' 6 = y 6 := by rw [Yk 6 (by decide) (by decide) (by decide)]; funext i; simp [caY, upY]
  have y7 : y' 7 = y 7 := by rw [Yk 7 (by decide) (by decide) (by decide)]; funext i; simp [caY, upY]
  have y200 : y' 20 0 = y 20 0 := by rw [Yk 20 (by decide) (by decide) (by decide)]; rfl
  have y201 : y' 20 1 = y 20 1 + 1 := by rw [Yk 20 (by decide) (by decide) (by decide)]; rfl
  have y202 : y' 20 2 = y 20 2 := by rw [Yk 20 (by decide) (by decide) (by decide)]; rfl
  have y21 : ∀ l, y' 21 l = if l = 1 then cp else y 21 l := fun l => by rw [Yk 21 (by decide) (by decide) (by decide)]; simp [caY, upY]
  have tmo : ∀ c, c ≠ y 20 1 → tmc y' c = tmc y c := fun c e => by unfold tmc; rw [y4, if_neg e]
  have tmn : tmc y' (y 20 1) = 0 := by unfold tmc; rw [y4, if_pos rfl]; rfl
  have eV : nV (cmX m (y 20 1) (nI p) (nI r) (x 3 r) (x 0 0)) = nV m := by show tn _ = tn _; rw [cmX_o _ _ _ _ _ _ (Or.inr (Or.inr (by decide))) (by decide) (by decide)]
  have mo : ∀ k c, (c ≠ y 20 1 ∨ k < 13 ∨ 22 < k) → k ≠ 23 → k ≠ 27 → cmX m (y 20 1) (nI p) (nI r) (x 3 r) (x 0 0) k c = m k c := fun k c a b d => cmX_o _ _ _ _ _ _ a b d
  have xo : ∀ k c, ((c ≠ y 20 1 ∧ k < 22) ∨ k < 16 ∨ (c ≠ 2 * y 20 1 ∧ 22 ≤ k) ∨ 28 < k) → k ≠ 36 → caX x (y 20 1) (x 3 r) (x 0 0) k c = x k c := fun k c a b => caX_o _ _ _ _ a b
  have mv : ∀ k, 22 < k → k ≠ 23 → k ≠ 27 → cmX m (y 20 1) (nI p) (nI r) (x 3 r) (x 0 0) k = m k := fun k a b c => by funext i; exact mo k i (Or.inr (Or.inr a)) b c
  have evJ : vJ (cmX m (y 20 1) (nI p) (nI r) (x 3 r) (x 0 0)) = vJ m := by funext v; show tn _ = tn _; rw [mv 37 (by decide) (by decide) (by decide)]
  have evC : vC (cmX m (y 20 1) (nI p) (nI r) (x 3 r) (x 0 0)) = vC m := by funext v; show tn _ = tn _; rw [mv 38 (by decide) (by decide) (by decide)]
  have evT : vT (cmX m (y 20 1) (nI p) (nI r) (x 3 r) (x 0 0)) = vT m := by funext v; show tn _ = tn _; rw [mv 39 (by decide) (by decide) (by decide)]
  have eqV : qV (cmX m (y 20 1) (nI p) (nI r) (x 3 r) (x 0 0)) = qV m := by funext c t v; unfold qV; rw [evC, evT]
  have eqG : qG y' = qG y := by funext c g; unfold qG; rw [y7]
  have egW : gW (cmX m (y 20 1) (nI p) (nI r) (x 3 r) (x 0 0)) = gW m := by funext c t b v a; unfold gW; rw [evC, evT, mv 40 (by decide) (by decide) (by decide), mv 41 (by decide) (by decide) (by decide)]
  have vlt : ∀ v, v < nV m → vC m v ≠ y 20 1 := fun v hv => by have := (h.v.2.2.1 v hv).2.1.2; omega
  have glt : ∀ g, g < y 20 2 → y 7 g ≠ y 20 1 := fun g hg => by have := (h.ci.2.2.1 g hg).2; omega
  have n0V : ∀ t, ct (qV m (y 20 1) t) (nV m) = 0 := fun t => ct_no (fun v hv => by unfold qV; rw [decide_eq_false (vlt v hv), Bool.false_and])
  have n0G : ct (qG y (y 20 1)) (y 20 2) = 0 := ct_no (fun g hg => by unfold qG; exact decide_eq_false (glt g hg))
  have n0W : ∀ t b, itr (gW m (y 20 1) t b) 0 (nV m) = 0 := fun t b => itr_stay _ (fun v a hv => by unfold gW; rw [if_neg (fun k => vlt v hv k.1)])
  refine ⟨h.wz, h.a, ?_, ⟨?_, fun c hc => ?_⟩, fun c hc => ?_, ⟨?_, ?_, ?_, fun c hc => ?_, ?_⟩, ⟨?_, ?_, fun v hv => ?_, ?_, ?_, ?_⟩, fun c t hc ht hl => ?_, fun c hc => ?_, ?_, hcl, hls, h.n512⟩
  · unfold RP; rw [y200]; exact h.p
  · show m 27 0 + 1 = _; rw [h.c.1, nI_1, y201]
  · rw [y201] at hc
    by_cases e : c = y 20 1
    · subst e
      rw [tmn, y2, y3, if_pos rfl, if_pos rfl, Nat.add_zero]
      have h8 : nI p = nI p ∧ nI r = nI r ∧ (0 : Int32) = 0 ∧ (1 : Int32) = 1 ∧ x 3 r = x 3 r ∧ x 0 0 = x 0 0 ∧ (-1 : Int32) = -1 ∧ (2 * x 3 r) + 1 = 1 + (2 * x 3 r) ∧ (0 : Int32) = 0 ∧ (x 3 r = nI (tn (x 3 r)) ∧ tn (x 3 r) < 3) ∧ ((-1 : Int32) = -1 ∨ (-1 : Int32) = 0 ∨ (-1 : Int32) = 1) := ⟨rfl, rfl, rfl, rfl, rfl, rfl, rfl, Int32.add_comm _ _, rfl, ra.2.2.2.1, Or.inl rfl⟩
      have v13 : cmX m (y 20 1) (nI p) (nI r) (x 3 r) (x 0 0) 13 (y 20 1) = nI p := by simp [cmX, up2_at]
      have v14 : cmX m (y 20 1) (nI p) (nI r) (x 3 r) (x 0 0) 14 (y 20 1) = nI r := by simp [cmX, up2_at]
      have v15 : cmX m (y 20 1) (nI p) (nI r) (x 3 r) (x 0 0) 15 (y 20 1) = 0 := by simp [cmX, up2_at]
      have v16 : cmX m (y 20 1) (nI p) (nI r) (x 3 r) (x 0 0) 16 (y 20 1) = 1 := by simp [cmX, up2_at]
      have v17 : cmX m (y 20 1) (nI p) (nI r) (x 3 r) (x 0 0) 17 (y 20 1) = x 3 r := by simp [cmX, up2_at]
      have v18 : cmX m (y 20 1) (nI p) (nI r) (x 3 r) (x 0 0) 18 (y 20 1) = x 0 0 := by simp [cmX, up2_at]
      have v19 : cmX m (y 20 1) (nI p) (nI r) (x 3 r) (x 0 0) 19 (y 20 1) = (2 * x 3 r) + 1 := by simp [cmX, up2_at]
      have v20 : cmX m (y 20 1) (nI p) (nI r) (x 3 r) (x 0 0) 20 (y 20 1) = 0 := by simp [cmX, up2_at]
      have v22 : cmX m (y 20 1) (nI p) (nI r) (x 3 r) (x 0 0) 22 (y 20 1) = -1 := by simp [cmX, up2_at]
      have u16 : caX x (y 20 1) (x 3 r) (x 0 0) 16 (y 20 1) = x 3 r := by simp [caX, up2_at]
      have u17 : caX x (y 20 1) (x 3 r) (x 0 0) 17 (y 20 1) = x 0 0 := by simp [caX, up2_at]
      have u18 : caX x (y 20 1) (x 3 r) (x 0 0) 18 (y 20 1) = 1 := by simp [caX, up2_at]
      have u19 : caX x (y 20 1) (x 3 r) (x 0 0) 19 (y 20 1) = 0 := by simp [caX, up2_at]
      have u20 : caX x (y 20 1) (x 3 r) (x 0 0) 20 (y 20 1) = -1 := by simp [caX, up2_at]
      have u22 : caX x (y 20 1) (x 3 r) (x 0 0) 22 (2 * y 20 1) = 1 + (2 * x 3 r) := by simp [caX, up2_at]
      have u23 : caX x (y 20 1) (x 3 r) (x 0 0) 23 (2 * y 20 1) = 0 := by simp [caX, up2_at]
      rw [v13, v14, v15, v16, v17, v18, v19, v20, v22, u16, u17, u18, u19, u20, u22, u23]
      exact h8
    · rw [tmo c e, y2, y3, if_neg e, if_neg e]
      have tl := tm_lt y c
      rw [mo 13 c (Or.inl e) (by decide) (by decide), mo 14 c (Or.inl e) (by decide) (by decide), mo 15 c (Or.inl e) (by decide) (by decide), mo 16 c (Or.inl e) (by decide) (by decide), mo 17 c (Or.inl e) (by decide) (by decide), mo 18 c (Or.inl e) (by decide) (by decide), mo 22 c (Or.inl e) (by decide) (by decide), mo 19 c (Or.inl e) (by decide) (by decide), mo 20 c (Or.inl e) (by decide) (by decide), xo 19 c (Or.inl ⟨e, by decide⟩) (by decide), xo 18 c (Or.inl ⟨e, by decide⟩) (by decide), xo 16 c (Or.inl ⟨e, by decide⟩) (by decide), xo 17 c (Or.inl ⟨e, by decide⟩) (by decide), xo 20 c (Or.inl ⟨e, by decide⟩) (by decide), xo 22 _ (Or.inr (Or.inr (Or.inl ⟨by omega, by decide⟩))) (by decide), xo 23 _ (Or.inr (Or.inr (Or.inl ⟨by omega, by decide⟩))) (by decide)]
      exact h.c.2 c (by omega)
  · rw [y201] at hc
    by_cases e : c = y 20 1
    · subst e
      refine Or.inl ⟨by simp [caX, up2_at], by rw [y4, if_pos rfl], by simp [caX, up2_at], by simp [cmX, up2_at], ?_, ?_⟩
      · unfold cmX; rw [up2_o (by omega), up2_o (by omega)]; simp [up2_at]
      · unfold cmX; rw [up2_o (by omega)]; simp [up2_at]
    · have hc' : c < y 20 1 := by omega
      have h8 := h.s c hc'
      have f1 : ∀ t, t < 2 → fnd (caX x (y 20 1) (x 3 r) (x 0 0)) (2 * c + t) = fnd x (2 * c + t) := fun t ht => by
        unfold fnd
        rw [xo 26 _ (Or.inr (Or.inr (Or.inl ⟨by omega, by decide⟩))) (by decide), xo 27 _ (Or.inr (Or.inr (Or.inl ⟨by omega, by decide⟩))) (by decide)]
      have f0 := f1 0 (by decide)
      rw [Nat.add_zero] at f0
      have la : ∀ t, t < 2 → LA (cmX m (y 20 1) (nI p) (nI r) (x 3 r) (x 0 0)) (caX x (y 20 1) (x 3 r) (x 0 0)) c (2 * c + t) = LA m x c (2 * c + t) := fun t ht => by
        unfold LA
        rw [mo 24 c (Or.inl e) (by decide) (by decide), mo 25 c (Or.inl e) (by decide) (by decide), mo 26 c (Or.inl e) (by decide) (by decide), xo 24 _ (Or.inr (Or.inr (Or.inl ⟨by omega, by decide⟩))) (by decide), xo 26 _ (Or.inr (Or.inr (Or.inl ⟨by omega, by decide⟩))) (by decide), xo 27 _ (Or.inr (Or.inr (Or.inl ⟨by omega, by decide⟩))) (by decide)]
      have la0 := la 0 (by decide)
      rw [Nat.add_zero] at la0
      rw [xo 19 c (Or.inl ⟨e, by decide⟩) (by decide), y4, if_neg e, xo 28 (2 * c) (Or.inr (Or.inr (Or.inl ⟨by omega, by decide⟩))) (by decide), xo 28 (2 * c + 1) (Or.inr (Or.inr (Or.inl ⟨by omega, by decide⟩))) (by decide), mo 21 c (Or.inl e) (by decide) (by decide), cmX_23 _ _ _ _ _ _ (by omega), cmX_23 _ _ _ _ _ _ (by omega), f0, f1 1 (by decide), la0, la 1 (by decide)]
      exact h8
  · rw [mv 36 (by decide) (by decide) (by decide), y202]; exact h.g.1
  · rw [y202, mv 34 (by decide) (by decide) (by decide), mv 35 (by decide) (by decide) (by decide), y6, y7]; exact h.g.2.1
  · rw [y202, y6, y7]; exact h.g.2.2.1
  · rw [y201] at hc
    rw [eqG, y202, y6, y7]
    by_cases e : c = y 20 1
    · subst e
      have u21 : caX x (y 20 1) (x 3 r) (x 0 0) 21 (y 20 1) = 0 := by simp [caX, up2_at]
      rw [u21, n0G, bc_0]
      refine ⟨rfl, fun j hj => ?_⟩
      rw [b_0]
      exact ⟨fun k => absurd k (by decide), fun ⟨g, g1, g2, _⟩ => absurd g2 (glt g g1)⟩
    · rw [xo 21 c (Or.inl ⟨e, by decide⟩) (by decide)]
      exact h.g.2.2.2.1 c (by omega)
  · have eqj : qGj y' = qGj y := by funext j g; unfold qGj; rw [y6]
    rw [eqj, y202]
    exact h.g.2.2.2.2
  · rw [eV, mv 42 (by decide) (by decide) (by decide)]; exact h.v.1
  · rw [eV]; exact h.v.2.1
  · rw [eV] at hv
    have b := h.v.2.2.1 v hv
    rw [evJ, evC, evT, mv 37 (by decide) (by decide) (by decide), mv 38 (by decide) (by decide) (by decide), mv 39 (by decide) (by decide) (by decide), mv 40 (by decide) (by decide) (by decide), y201, y4, if_neg (vlt v hv)]
    exact ⟨b.1, ⟨b.2.1.1, by omega⟩, b.2.2⟩
  · rw [eV, evJ, evC]; exact h.v.2.2.2.1
  · rw [eV, evJ, evC, y202, y6, y7]; exact h.v.2.2.2.2.1
  · have eqj : qVj (cmX m (y 20 1) (nI p) (nI r) (x 3 r) (x 0 0)) = qVj m := by funext j v; unfold qVj; rw [evJ]
    rw [eqj, eV]
    exact h.v.2.2.2.2.2
  · rw [y201] at hc
    rw [eqV, eV, evC, evT, evJ, egW, mv 40 (by decide) (by decide) (by decide)]
    by_cases e : c = y 20 1
    · subst e
      rw [y4, if_pos rfl] at hl
      have ht0 : t = 0 := by rcases hl with q | q; exact q; exact absurd rfl q
      subst ht0
      rw [Nat.add_zero]
      have u24 : caX x (y 20 1) (x 3 r) (x 0 0) 24 (2 * y 20 1) = 0 := by simp [caX, up2_at]
      have u25 : caX x (y 20 1) (x 3 r) (x 0 0) 25 (2 * y 20 1) = 0 := by simp [caX, up2_at]
      have u26 : caX x (y 20 1) (x 3 r) (x 0 0) 26 (2 * y 20 1) = 0 := by simp [caX, up2_at]
      have u27 : caX x (y 20 1) (x 3 r) (x 0 0) 27 (2 * y 20 1) = 0 := by simp [caX, up2_at]
      rw [u24, u25, u26, u27, n0V, bc_0, n0W, n0W]
      refine ⟨rfl, fun j hj => ?_, fun j hj => ?_, rfl, rfl⟩
      · rw [b_0]
        exact ⟨fun k => absurd k (by decide), fun ⟨v, v1, v2, _⟩ => absurd v2 (vlt v v1)⟩
      · rw [b_0]
        exact ⟨fun k => absurd k (by decide), fun ⟨v, v1, v2, _⟩ => absurd v2 (vlt v v1)⟩
    · rw [y4, if_neg e] at hl
      rw [xo 24 _ (Or.inr (Or.inr (Or.inl ⟨by omega, by decide⟩))) (by decide), xo 25 _ (Or.inr (Or.inr (Or.inl ⟨by omega, by decide⟩))) (by decide), xo 26 _ (Or.inr (Or.inr (Or.inl ⟨by omega, by decide⟩))) (by decide), xo 27 _ (Or.inr (Or.inr (Or.inl ⟨by omega, by decide⟩))) (by decide)]
      exact h.hh c t (by omega) ht hl
  · rw [y201] at hc
    rw [eqV, eV, eqG, y202]
    by_cases e : c = y 20 1
    · subst e
      have u22 : caX x (y 20 1) (x 3 r) (x 0 0) 22 (2 * y 20 1) = 1 + (2 * x 3 r) := by simp [caX, up2_at]
      rw [tmn, Nat.add_zero, u22, n0V, n0G]
      have e1 : 1 + 2 * x 3 r = nI (1 + 2 * tn (x 3 r)) := by
        have := nI_addE (x := 1) (y := 2 * x 3 r) (a := 1) (b := 2 * tn (x 3 r)) rfl (nI_mulE rfl ra.2.2.2.1.1)
        exact this
      have b3 := ra.2.2.2.1.2
      rw [e1, tn_nI (by omega)]
      exact ⟨⟨rfl, by omega⟩, fun _ => by omega, fun _ => rfl⟩
    · have tl := tm_lt y c
      rw [tmo c e, xo 22 _ (Or.inr (Or.inr (Or.inl ⟨by omega, by decide⟩))) (by decide), xo 19 c (Or.inl ⟨e, by decide⟩) (by decide)]
      exact h.q c (by omega)
  · obtain ⟨i1, i2, i3, i4, i5, i6, i7⟩ := h.ci
    refine ⟨fun c hc => ?_, fun q hq => ?_, fun g hg => ?_, by rw [y200]; exact i4, by rw [y201]; omega, by rw [y202]; exact i6, fun l hl => ?_⟩
    · rw [y201] at hc ⊢
      rw [y200, y2, y3]
      refine ⟨?_, ?_, hb5 c hc⟩
      · by_cases e : c = y 20 1
        · rw [if_pos e]; exact hp
        · rw [if_neg e]; exact (i1 c (by omega)).1
      · by_cases e : c = y 20 1
        · rw [if_pos e]; exact hr
        · rw [if_neg e]; exact (i1 c (by omega)).2.1
    · rw [y200] at hq
      rw [y201]; exact hb01 q hq
    · rw [y202] at hg
      rw [y6, y7, y201]
      have := i3 g hg
      omega
    · rw [y21]
      match l, hl with
      | 0, hl => rw [y200, if_neg (by decide)]; exact i7 0 hl
      | 1, hl => rw [y201, if_pos rfl]; omega
      | 2, hl => rw [y202, if_neg (by decide)]; exact i7 2 hl
theorem e_complain (h : Rel m w x y z n) (pp r : Int32) : s_X7_complain y pp r = s_X8_complain m pp r ∧ ∀ G A ad H, okC G A ad x y z pp r H → After G A ad (sx_X8_complain m pp r) w n H := by
  have hP := h.bP; have hC := h.bC
  have ew := wi_n (v := pp) (k := y 20 0) (by omega)
  unfold s_X7_complain s_X8_complain sx_X8_complain
  rw [wi_e, h.p.1, h.c.1, h.eC]
  by_cases c0 : pp < 0
  · have c1 : s_X7_within pp 0 ((nI (y 20 0)) - 1) = 0 := by rw [ew, if_pos c0]
    rw [if_pos c1, if_pos c0, if_pos c0]
    refine ⟨rfl, fun G A ad H k => ?_⟩
    unfold okC at k; rw [if_pos c1] at k
    exact ⟨ad, x, y, z, rfl, k, h⟩
  rw [if_neg c0, if_neg c0]
  by_cases c00 : nI (y 20 0) ≤ pp
  · have c1 : s_X7_within pp 0 ((nI (y 20 0)) - 1) = 0 := by rw [ew, if_neg c0, if_pos c00]
    rw [if_pos c1, if_pos c00, if_pos c00]
    refine ⟨rfl, fun G A ad H k => ?_⟩
    unfold okC at k; rw [if_pos c1] at k
    exact ⟨ad, x, y, z, rfl, k, h⟩
  have c1 : ¬ s_X7_within pp 0 ((nI (y 20 0)) - 1) = 0 := by rw [ew, if_neg c0, if_neg c00]; decide
  rw [if_neg c1, if_neg c00, if_neg c00]
  by_cases c2 : s_X7_within r 0 7 = 0
  · rw [if_pos c2, if_pos c2, if_pos c2]
    refine ⟨rfl, fun G A ad H k => ?_⟩
    unfold okC at k; rw [if_neg c1, if_pos c2] at k
    exact ⟨ad, x, y, z, rfl, k, h⟩
  rw [if_neg c2, if_neg c2, if_neg c2]
  obtain ⟨pN, hpN, epp⟩ := withinN (n := y 20 0) c1 (by omega)
  obtain ⟨er, hr⟩ := wi_tn (k := 7) (by decide) c2
  have etp : tn pp = pN := by rw [epp, tn_nI (by omega)]
  have eq : ∀ c, c < y 20 1 → q_X8_complain_26 m pp (tn r) c = q_X5_caseUnder_5 pN (tn r) y c := fun c hc => by
    unfold q_X8_complain_26 q_X5_caseUnder_5
    have rc := h.c.2 c hc
    have ci := h.ci.1 c hc
    rw [rc.1, rc.2.1, epp]
    by_cases e : y 2 c = pN
    · rw [if_pos (by rw [e]), if_pos e]
    · rw [if_neg (fun q => e ((nIE (by omega) (by omega)).mp q)), if_neg e]
  rw [hasv_cg eq, fstv_cg eq, etp]
  have ecu : i_X5_caseUnder y pN (tn r) = (if hasv (q_X5_caseUnder_5 pN (tn r) y) (y 20 1) = true then (fstv (q_X5_caseUnder_5 pN (tn r) y) (y 20 1)) + 1 else 0) := rfl
  by_cases c3 : hasv (q_X5_caseUnder_5 pN (tn r) y) (y 20 1) = true
  · rw [if_pos c3] at ecu
    rw [if_pos c3, if_pos c3, ecu, if_neg (by omega), Nat.add_sub_cancel]
    refine ⟨rfl, fun G A ad H k => ?_⟩
    unfold okC at k
    rw [if_neg c1, if_neg c2, etp, ecu, if_neg (by omega), Nat.add_sub_cancel] at k
    exact ⟨ad, _, y, z, rfl, k, rel_more h (fstv_lt c3)⟩
  · rw [if_neg c3] at ecu
    rw [if_neg c3, if_neg c3, ecu, if_pos rfl]
    have e400 : (nI (y 20 1) = 400) ↔ ¬ (nI (y 20 1)) < 400 := by
      rw [show (400 : Int32) = nI 400 from rfl, nIE (by omega) (by decide), nI_ltI (by omega) (by decide)]
      omega
    by_cases c4 : nI (y 20 1) < 400
    · have hn : y 20 1 < 400 := lt_i (b := 400) rfl rfl (by omega) (by decide) c4
      rw [if_pos c4, if_neg (fun q => e400.mp q c4), if_neg (fun q => e400.mp q c4)]
      refine ⟨rfl, fun G A ad H k => ?_⟩
      unfold okC at k
      rw [if_neg c1, if_neg c2, etp, ecu, if_pos rfl, if_pos c4] at k
      obtain ⟨ad', cp, k1, k2, k3, k4⟩ := k
      have hR := rel_case h hpN (show tn r < 8 by omega) hn k2 k3
      have e1 : m 1 (tn r) = x 3 (tn r) := (h.a.2.1 _ (by omega)).1
      have em : cmX m (y 20 1) (nI pN) (nI (tn r)) (x 3 (tn r)) (x 0 0) = (up2 (up2 (up2 (up2 (up2 (up2 (up2 (up2 (up2 (up2 (up2 (up2 (up2 m 13 (y 20 1) pp) 14 (y 20 1) r) 15 (y 20 1) 0) 16 (y 20 1) 1) 17 (y 20 1) (m 1 (tn r))) 18 (y 20 1) (m 0 0)) 19 (y 20 1) ((2 * (m 1 (tn r))) + 1)) 20 (y 20 1) 0) 21 (y 20 1) 0) 22 (y 20 1) (-1)) 23 (2 * y 20 1) (-1)) 23 ((2 * y 20 1) + 1) (-1)) 27 0 (nI (y 20 1) + 1)) := by
        unfold cmX
        rw [← er, ← epp, e1, h.a.1.1, h.c.1]
      rw [← em]
      exact ⟨ad', _, _, z, k1, k4, hR⟩
    · rw [if_neg c4, if_pos (e400.mpr c4), if_pos (e400.mpr c4)]
      refine ⟨rfl, fun G A ad H k => ?_⟩
      unfold okC at k
      rw [if_neg c1, if_neg c2, etp, ecu, if_pos rfl, if_neg c4] at k
      exact ⟨ad, x, y, z, rfl, k, h⟩
end R9b
