section R15
variable {m : XX} {w : Nat → Int64} {x : XX} {y : YY} {z : Nat → Int64} {n : Nat}
theorem rel_ask (h : Rel m w x y z n) {c : Nat} (hc : c < y 20 1) (h7 : tn (x 22 (2 * c + tmc y c)) ≤ 7) : Rel (up2 (up2 m 20 c ((m 20 c) + 1)) 19 c ((m 19 c) + 2)) w (sx_X2_askMore x (2 * c + tmc y c)) y z n := by
  unfold sx_X2_askMore
  refine ⟨h.wz, h.a, h.p, ⟨h.c.1, fun d hd => ?_⟩, h.s, h.g, h.v, h.hh, fun d hd => ?_, h.ci, h.cl, h.y1, h.n512⟩
  · have h8 := h.c.2 d hd
    by_cases e : d = c
    · subst e
      refine ⟨h8.1, h8.2.1, h8.2.2.1, h8.2.2.2.1, h8.2.2.2.2.1, h8.2.2.2.2.2.1, h8.2.2.2.2.2.2.1, ?_, ?_, h8.2.2.2.2.2.2.2.2.2⟩
      · have e1 : up2 (up2 m 20 d (m 20 d + 1)) 19 d (m 19 d + 2) 19 d = m 19 d + 2 := by simp [up2_at]
        have e2 : up2 (up2 x 22 (2 * d + tmc y d) (x 22 (2 * d + tmc y d) + 2)) 23 (2 * d + tmc y d) (x 23 (2 * d + tmc y d) + 1) 22 (2 * d + tmc y d) = x 22 (2 * d + tmc y d) + 2 := by simp [up2_at]
        rw [e1, e2, h8.2.2.2.2.2.2.2.1]
      · have e1 : up2 (up2 m 20 d (m 20 d + 1)) 19 d (m 19 d + 2) 20 d = m 20 d + 1 := by simp [up2_at]
        have e2 : up2 (up2 x 22 (2 * d + tmc y d) (x 22 (2 * d + tmc y d) + 2)) 23 (2 * d + tmc y d) (x 23 (2 * d + tmc y d) + 1) 23 (2 * d + tmc y d) = x 23 (2 * d + tmc y d) + 1 := by simp [up2_at]
        rw [e1, e2, h8.2.2.2.2.2.2.2.2.1]
    · have t1 := tm_lt y c; have t2 := tm_lt y d
      refine ⟨h8.1, h8.2.1, h8.2.2.1, h8.2.2.2.1, h8.2.2.2.2.1, h8.2.2.2.2.2.1, h8.2.2.2.2.2.2.1, ?_, ?_, h8.2.2.2.2.2.2.2.2.2⟩
      · rw [up2_o (by omega), up2_o (by omega), up2_o (by omega), up2_o (by omega)]; exact h8.2.2.2.2.2.2.2.1
      · rw [up2_o (by omega), up2_o (by omega), up2_o (by omega), up2_o (by omega)]; exact h8.2.2.2.2.2.2.2.2.1
  · have h8 := h.q d hd
    by_cases e : d = c
    · subst e
      have e2 : up2 (up2 x 22 (2 * d + tmc y d) (x 22 (2 * d + tmc y d) + 2)) 23 (2 * d + tmc y d) (x 23 (2 * d + tmc y d) + 1) 22 (2 * d + tmc y d) = nI (tn (x 22 (2 * d + tmc y d)) + 2) := by
        rw [up2_o (by omega)]
        have : up2 x 22 (2 * d + tmc y d) (x 22 (2 * d + tmc y d) + 2) 22 (2 * d + tmc y d) = x 22 (2 * d + tmc y d) + 2 := by simp [up2_at]
        rw [this]
        exact nI_addE (b := 2) h8.1.1 rfl
      rw [e2, tn_nI (by omega)]
      refine ⟨⟨rfl, by omega⟩, fun q => ?_, h8.2.2⟩
      have := h8.2.1 q
      show ct (qV m d (tmc y d)) (nV m) + ct (qG y d) (y 20 2) ≤ _
      omega
    · have t1 := tm_lt y c; have t2 := tm_lt y d
      rw [up2_o (by omega), up2_o (by omega)]
      exact h8
def clM (m : XX) (c t : Nat) (r g o s : Int32) : XX := (up2 (up2 (up2 (up2 (up2 (up2 (up2 m 23 ((2 * c) + t) r) 24 c (m 19 c)) 25 c g) 26 c o) 21 c ((m 21 c) + 1)) 28 0 ((m 28 0) + 1)) 15 c s)
def clX (x : XX) (h c : Nat) (s : Int32) : XX := up2 (up2 (up2 x 28 h 1) 19 c s) 2 0 ((x 2 0) + 1)
def stv (x : XX) (c h : Nat) : Int32 := if (x 26 h) ≤ (x 27 h) then (if x 19 c = 3 then 4 else 1) else (if x 19 c = 3 then 5 else 2)
theorem rel_close (h : Rel m w x y z n) {c : Nat} (hc : c < y 20 1) (hu : x 19 c = 0 ∨ x 19 c = 3) (hV : ct (qV m c (tmc y c)) (nV m) = tn (x 22 (2 * c + tmc y c))) : Rel (clM m c (tmc y c) (fnd x (2 * c + tmc y c)) (x 26 (2 * c + tmc y c)) (x 27 (2 * c + tmc y c)) (stv x c (2 * c + tmc y c))) w (clX x (2 * c + tmc y c) c (stv x c (2 * c + tmc y c))) y z n := by
  have tl := tm_lt y c
  have q0 := h.q c hc
  have g0 : ct (qG y c) (y 20 2) = 0 := by have := q0.2.1 hu; omega
  have hb := (h.hh c (tmc y c) hc tl (tm_lv y c)).1
  have m19 := (h.c.2 c hc).2.2.2.2.2.2.2.1
  have sv : stv x c (2 * c + tmc y c) ≠ 0 ∧ stv x c (2 * c + tmc y c) ≠ 3 := by
    unfold stv
    repeat' split
    all_goals exact ⟨by decide, by decide⟩
  generalize hM : clM m c (tmc y c) (fnd x (2 * c + tmc y c)) (x 26 (2 * c + tmc y c)) (x 27 (2 * c + tmc y c)) (stv x c (2 * c + tmc y c)) = m' at *
  generalize hX : clX x (2 * c + tmc y c) c (stv x c (2 * c + tmc y c)) = x' at *
  have mo : ∀ k i, i ≠ c ∨ k < 15 ∨ (15 < k ∧ k < 21) ∨ k = 22 ∨ 28 < k ∨ k = 27 → k ≠ 23 → k ≠ 28 → m' k i = m k i := fun k i a b d => by
    rw [← hM]; unfold clM
    rw [up2_o (by omega), up2_o (by omega), up2_o (by omega), up2_o (by omega), up2_o (by omega), up2_o (by omega), up2_o (by omega)]
  have m23 : ∀ i, i ≠ 2 * c + tmc y c → m' 23 i = m 23 i := fun i a => by
    rw [← hM]; unfold clM
    rw [up2_o (by omega), up2_o (by omega), up2_o (by omega), up2_o (by omega), up2_o (by omega), up2_o (by omega), up2_o (by omega)]
  have mf : ∀ k, k < 15 ∨ (15 < k ∧ k < 21) ∨ k = 22 ∨ 28 < k ∨ k = 27 → m' k = m k := fun k hk => by funext i; exact mo k i (Or.inr hk) (by omega) (by omega)
  have xo : ∀ k i, k ≠ 28 → k ≠ 2 → (k ≠ 19 ∨ i ≠ c) → x' k i = x k i := fun k i a b d => by
    rw [← hX]; unfold clX
    rw [up2_o (by omega), up2_o (by omega), up2_o (by omega)]
  have xf : ∀ k, k ≠ 28 → k ≠ 2 → k ≠ 19 → x' k = x k := fun k a b d => by funext i; exact xo k i a b (Or.inl d)
  have x28 : ∀ i, x' 28 i = if i = 2 * c + tmc y c then 1 else x 28 i := fun i => by rw [← hX]; simp [clX, up2_at]
  have x19 : x' 19 c = stv x c (2 * c + tmc y c) := by rw [← hX]; simp [clX, up2_at]
  have x2 : x' 2 0 = x 2 0 + 1 := by rw [← hX]; simp [clX, up2_at]
  have v15 : m' 15 c = stv x c (2 * c + tmc y c) := by rw [← hM]; simp [clM, up2_at]
  have v21 : m' 21 c = m 21 c + 1 := by rw [← hM]; simp [clM, up2_at]
  have v23 : m' 23 (2 * c + tmc y c) = fnd x (2 * c + tmc y c) := by rw [← hM]; simp [clM, up2_at]
  have v24 : m' 24 c = m 19 c := by rw [← hM]; simp [clM, up2_at]
  have v25 : m' 25 c = x 26 (2 * c + tmc y c) := by rw [← hM]; simp [clM, up2_at]
  have v26 : m' 26 c = x 27 (2 * c + tmc y c) := by rw [← hM]; simp [clM, up2_at]
  have v28 : m' 28 0 = m 28 0 + 1 := by rw [← hM]; simp [clM, up2_at]
  have ef : fnd x' = fnd x := by funext i; unfold fnd; rw [xf 26 (by decide) (by decide) (by decide), xf 27 (by decide) (by decide) (by decide)]
  have la : LA m' x' c (2 * c + tmc y c) := by
    unfold LA
    rw [v24, v25, v26, xf 24 (by decide) (by decide) (by decide), xf 26 (by decide) (by decide) (by decide), xf 27 (by decide) (by decide) (by decide)]
    exact ⟨by rw [m19, hb, hV]; exact q0.1.1, rfl, rfl⟩
  refine ⟨h.wz, ?_, ?_, ⟨?_, fun d hd => ?_⟩, fun d hd => ?_, ?_, ?_, ?_, fun d hd => ?_, h.ci, h.cl, h.y1, h.n512⟩
  · unfold RA
    rw [mf 0 (by omega), mf 1 (by omega), mf 2 (by omega), mf 3 (by omega), mf 4 (by omega), mf 5 (by omega), mf 6 (by omega), mf 7 (by omega), mf 29 (by omega), mf 31 (by omega), mf 32 (by omega), mf 33 (by omega), xf 0 (by omega) (by decide) (by decide), xf 3 (by omega) (by decide) (by decide), xf 4 (by omega) (by decide) (by decide), xf 5 (by omega) (by decide) (by decide), xf 45 (by omega) (by decide) (by decide), xf 37 (by omega) (by decide) (by decide), xf 38 (by omega) (by decide) (by decide), xf 1 (by omega) (by decide) (by decide), xf 6 (by omega) (by decide) (by decide), xf 7 (by omega) (by decide) (by decide), xf 8 (by omega) (by decide) (by decide), xf 9 (by omega) (by decide) (by decide), v28, x2, h.a.2.2.2.2.1.2]
    exact ⟨h.a.1, h.a.2.1, h.a.2.2.1, h.a.2.2.2.1, ⟨h.a.2.2.2.2.1.1, rfl⟩, h.a.2.2.2.2.2⟩
  · unfold RP
    rw [mf 12 (by omega), mf 8 (by omega), mf 9 (by omega), mf 10 (by omega), mf 11 (by omega), xf 12 (by omega) (by decide) (by decide), xf 15 (by omega) (by decide) (by decide), xf 13 (by omega) (by decide) (by decide), xf 14 (by omega) (by decide) (by decide), xf 0 (by omega) (by decide) (by decide)]
    exact h.p
  · rw [mf 27 (by omega)]; exact h.c.1
  · have h8 := h.c.2 d hd
    rw [mf 13 (by omega), mf 14 (by omega), mf 16 (by omega), mf 17 (by omega), mf 18 (by omega), mf 22 (by omega), mf 19 (by omega), mf 20 (by omega), xf 18 (by omega) (by decide) (by decide), xf 16 (by omega) (by decide) (by decide), xf 17 (by omega) (by decide) (by decide), xf 20 (by omega) (by decide) (by decide), xf 22 (by omega) (by decide) (by decide), xf 23 (by omega) (by decide) (by decide)]
    refine ⟨h8.1, h8.2.1, ?_, h8.2.2.2⟩
    by_cases e : d = c
    · rw [e, v15, x19]
    · rw [mo 15 d (Or.inl e) (by decide) (by decide), xo 19 d (by decide) (by decide) (Or.inr e)]; exact h8.2.2.1
  · have h8 := h.s d hd
    rw [ef]
    by_cases e : d = c
    · subst e
      rw [x19, x28, x28, v21]
      rcases hu with q | q
      · rcases h8 with k | k | k | k
        · have t0 : tmc y d = 0 := by unfold tmc; rw [if_pos k.2.1]
          rw [t0, Nat.add_zero] at v23 la
          refine Or.inr (Or.inl ⟨?_, k.2.1, by rw [if_pos (by rw [t0]; rfl)], by rw [k.2.2.2.1]; decide, v23, by rw [m23 _ (by rw [t0]; omega)]; exact k.2.2.2.2.2, la⟩)
          unfold stv
          rw [q]
          split
          · exact Or.inl rfl
          · exact Or.inr rfl
        · rw [q] at k; rcases k.1 with r | r <;> exact absurd r (by decide)
        · rw [q] at k; exact absurd k.1 (by decide)
        · rw [q] at k; rcases k.1 with r | r <;> exact absurd r (by decide)
      · rcases h8 with k | k | k | k
        · rw [q] at k; exact absurd k.1 (by decide)
        · rw [q] at k; rcases k.1 with r | r <;> exact absurd r (by decide)
        · have t1 : tmc y d = 1 := by unfold tmc; rw [if_neg k.2.1]
          rw [t1] at v23 la
          refine Or.inr (Or.inr (Or.inr ⟨?_, k.2.1, by rw [if_neg (by rw [t1]; omega)]; exact k.2.2.1, by rw [if_pos (by rw [t1])], by rw [k.2.2.2.2.1]; decide, by rw [m23 _ (by rw [t1]; omega)]; exact k.2.2.2.2.2.1, v23, la⟩))
          unfold stv
          rw [q]
          split
          · exact Or.inl rfl
          · exact Or.inr rfl
        · rw [q] at k; rcases k.1 with r | r <;> exact absurd r (by decide)
    · have lo : ∀ u, LA m' x' d u = LA m x d u := fun u => by
        unfold LA
        rw [mo 24 d (Or.inl e) (by decide) (by decide), mo 25 d (Or.inl e) (by decide) (by decide), mo 26 d (Or.inl e) (by decide) (by decide), xf 24 (by decide) (by decide) (by decide), xf 26 (by decide) (by decide) (by decide), xf 27 (by decide) (by decide) (by decide)]
      rw [xo 19 d (by decide) (by decide) (Or.inr e), x28, x28, if_neg (by omega), if_neg (by omega), mo 21 d (Or.inl e) (by decide) (by decide), m23 _ (by omega), m23 _ (by omega), lo, lo]
      exact h8
  · unfold RG
    rw [mf 36 (by omega), mf 34 (by omega), mf 35 (by omega), xf 21 (by omega) (by decide) (by decide), xf 10 (by omega) (by decide) (by decide)]
    exact h.g
  · have eV : nV m' = nV m := by show tn _ = tn _; rw [mf 42 (by omega)]
    have e1 : vJ m' = vJ m := by funext v; show tn _ = tn _; rw [mf 37 (by omega)]
    have e2 : vC m' = vC m := by funext v; show tn _ = tn _; rw [mf 38 (by omega)]
    have e3 : vT m' = vT m := by funext v; show tn _ = tn _; rw [mf 39 (by omega)]
    have e4 : qVj m' = qVj m := by funext j v; unfold qVj; rw [e1]
    unfold RV
    rw [eV, e1, e2, e3, e4, mf 42 (by omega), mf 37 (by omega), mf 38 (by omega), mf 39 (by omega), mf 40 (by omega), xf 11 (by decide) (by decide) (by decide)]
    exact h.v
  · have eV : nV m' = nV m := by show tn _ = tn _; rw [mf 42 (by omega)]
    have e1 : vJ m' = vJ m := by funext v; show tn _ = tn _; rw [mf 37 (by omega)]
    have e2 : vC m' = vC m := by funext v; show tn _ = tn _; rw [mf 38 (by omega)]
    have e3 : vT m' = vT m := by funext v; show tn _ = tn _; rw [mf 39 (by omega)]
    have e4 : qV m' = qV m := by funext j t v; unfold qV; rw [e2, e3]
    have e5 : gW m' = gW m := by funext d t b v a; unfold gW; rw [e2, e3, mf 40 (by omega), mf 41 (by omega)]
    unfold RH
    rw [eV, e1, e2, e3, e4, e5, mf 40 (by omega), xf 24 (by decide) (by decide) (by decide), xf 25 (by decide) (by decide) (by decide), xf 26 (by decide) (by decide) (by decide), xf 27 (by decide) (by decide) (by decide)]
    exact h.hh
  · have eV : nV m' = nV m := by show tn _ = tn _; rw [mf 42 (by omega)]
    have e2 : vC m' = vC m := by funext v; show tn _ = tn _; rw [mf 38 (by omega)]
    have e3 : vT m' = vT m := by funext v; show tn _ = tn _; rw [mf 39 (by omega)]
    have e4 : qV m' = qV m := by funext j t v; unfold qV; rw [e2, e3]
    have h8 := h.q d hd
    rw [eV, e4, xf 22 (by decide) (by decide) (by decide)]
    by_cases e : d = c
    · subst e
      rw [x19]
      exact ⟨h8.1, fun q => q.elim (fun k => absurd k sv.1) (fun k => absurd k sv.2), fun _ => g0⟩
    · rw [xo 19 d (by decide) (by decide) (Or.inr e)]
      exact h8
theorem sumG (h : Rel m w x y z n) {c : Nat} (hc : c < y 20 1) : itr (f_X8_settle_7_2 m c) 0 (nV m) = x 26 (2 * c + tmc y c) ∧ itr (f_X8_settle_7_3 m c) 0 (nV m) = x 27 (2 * c + tmc y c) := by
  have hC := h.bC
  have tl := tm_lt y c
  have h9 := h.hh c (tmc y c) hc tl (tm_lv y c)
  rw [h9.2.2.2.1, h9.2.2.2.2]
  refine ⟨itr_cg _ (fun v a hv => ?_), itr_cg _ (fun v a hv => ?_)⟩
  · have b := h.v.2.2.1 v hv
    unfold f_X8_settle_7_2 gW
    rw [tmO h hc]
    have e1 : (m 38 v = nI c) = (vC m v = c) := by rw [b.2.1.1]; exact propext (nIE (by omega) (by omega))
    have e2 : (m 39 v = nI (tmc y c)) = (vT m v = tmc y c) := by rw [b.2.2.1.1]; exact propext (nIE (by omega) (by omega))
    simp only [e1, e2]
    by_cases p : vC m v = c <;> by_cases q : vT m v = tmc y c <;> by_cases r : m 40 v = 1 <;> simp [p, q, r]
  · have b := h.v.2.2.1 v hv
    unfold f_X8_settle_7_3 gW
    rw [tmO h hc]
    have e1 : (m 38 v = nI c) = (vC m v = c) := by rw [b.2.1.1]; exact propext (nIE (by omega) (by omega))
    have e2 : (m 39 v = nI (tmc y c)) = (vT m v = tmc y c) := by rw [b.2.2.1.1]; exact propext (nIE (by omega) (by omega))
    simp only [e1, e2]
    by_cases p : vC m v = c <;> by_cases q : vT m v = tmc y c <;> by_cases r : m 40 v = 0 <;> simp [p, q, r]
theorem close_eq (x : XX) (y : YY) (c : Nat) : up2 (sx_X0_close x y c) 2 0 (((sx_X0_close x y c) 2 0) + 1) = clX x (2 * c + tmc y c) c (stv x c (2 * c + tmc y c)) := by
  have e2 : sx_X0_close x y c 2 0 = x 2 0 := by unfold sx_X0_close; split <;> rfl
  rw [e2]
  unfold clX
  congr 1
  unfold sx_X0_close stv
  rw [tm_hh]
  have ef : s_X2_findsGuilty (up2 x 28 (2 * c + tmc y c) 1) (2 * c + tmc y c) = (if (x 26 (2 * c + tmc y c)) ≤ (x 27 (2 * c + tmc y c)) then 0 else 1) := rfl
  rw [ef]
  by_cases a : x 19 c = 3
  · rw [if_pos a]
    by_cases b : (x 26 (2 * c + tmc y c)) ≤ (x 27 (2 * c + tmc y c))
    · simp only [if_pos a, if_pos b, if_true]
    · simp only [if_pos a, if_neg b]; rfl
  · rw [if_neg a]
    by_cases b : (x 26 (2 * c + tmc y c)) ≤ (x 27 (2 * c + tmc y c))
    · simp only [if_neg a, if_pos b, if_true]
    · simp only [if_neg a, if_neg b]; rfl
theorem e_settle (h : Rel m w x y z n) {c : Nat} (hc : c < y 20 1) (hu : x 19 c = 0 ∨ x 19 c = 3) : Rel (if s_X8_votesOf m c = m 19 c then sx_X8_settle m c else m) w (sx_X7_settle x y c) (sy_X7_settle x y c) z n := by
  have hV := h.bV; have hG := h.bG
  have tl := tm_lt y c
  have q0 := h.q c hc
  have rc := h.c.2 c hc
  have hle := q0.2.1 hu
  have lV := ct_le (qV m c (tmc y c)) (nV m)
  have hb := (h.hh c (tmc y c) hc tl (tm_lv y c)).1
  unfold sx_X7_settle sy_X7_settle
  rw [tm_hh, vOc h hc, rc.2.2.2.2.2.2.2.1]
  have ev : s_X2_votes x (2 * c + tmc y c) = nI (ct (qV m c (tmc y c)) (nV m)) := hb
  rw [ev]
  have c1 : (x 22 (2 * c + tmc y c) ≤ nI (ct (qV m c (tmc y c)) (nV m))) ↔ ct (qV m c (tmc y c)) (nV m) = tn (x 22 (2 * c + tmc y c)) := by
    rw [q0.1.1, nI_leI (by omega) (by omega), tn_nI (by omega)]
    omega
  have c2 : (nI (ct (qV m c (tmc y c)) (nV m)) = x 22 (2 * c + tmc y c)) ↔ ct (qV m c (tmc y c)) (nV m) = tn (x 22 (2 * c + tmc y c)) := by
    rw [q0.1.1, nIE (by omega) (by omega), tn_nI (by omega)]
  by_cases a : ct (qV m c (tmc y c)) (nV m) = tn (x 22 (2 * c + tmc y c))
  · rw [if_pos (c2.mpr a), if_pos (c1.mpr a), if_pos (c1.mpr a)]
    obtain ⟨s1, s2⟩ := sumG h hc
    have hcl := rel_close h hc hu a
    have hrd := e_rd hcl
    rw [← close_eq] at hrd
    have eM : (up2 (up2 (up2 (up2 (up2 (up2 (up2 m 23 ((2 * c) + (tn (s_X8_timeOf m c))) (if (itr (f_X8_settle_7_2 m c) 0 (nV m)) ≤ (itr (f_X8_settle_7_3 m c) 0 (nV m)) then 0 else 1 : Int32)) 24 c (m 19 c)) 25 c (itr (f_X8_settle_7_2 m c) 0 (nV m))) 26 c (itr (f_X8_settle_7_3 m c) 0 (nV m))) 21 c ((m 21 c) + 1)) 28 0 ((m 28 0) + 1)) 15 c (if (itr (f_X8_settle_7_2 m c) 0 (nV m)) ≤ (itr (f_X8_settle_7_3 m c) 0 (nV m)) then (if (if (m 15 c) = 3 then 1 else 0 : Int32) = 0 then 1 else 4 : Int32) else (if (if (m 15 c) = 3 then 1 else 0 : Int32) = 0 then 2 else 5 : Int32) : Int32)) = clM m c (tmc y c) (fnd x (2 * c + tmc y c)) (x 26 (2 * c + tmc y c)) (x 27 (2 * c + tmc y c)) (stv x c (2 * c + tmc y c)) := by
      rw [s1, s2, tmO h hc, tn_nI (by omega), rc.2.2.1]
      unfold clM fnd stv
      rcases hu with q | q <;> rw [q] <;> rfl
    unfold sx_X8_settle
    rw [eM, s1, s2, rc.2.2.2.2.2.2.2.2.1, rc.2.2.2.2.2.2.2.1]
    have eA : s_X2_isAgreed x (2 * c + tmc y c) = (if ((2 * (x 26 (2 * c + tmc y c))) + (2 * (x 27 (2 * c + tmc y c)))) ≤ (3 * (x 26 (2 * c + tmc y c))) then 1 else (if (3 * (x 27 (2 * c + tmc y c))) < ((2 * (x 26 (2 * c + tmc y c))) + (2 * (x 27 (2 * c + tmc y c)))) then 0 else 1 : Int32) : Int32) := rfl
    rw [← eA]
    unfold s_X2_mayAskMore
    by_cases b : s_X2_isAgreed x (2 * c + tmc y c) = 0
    · rw [if_pos b, if_pos b, if_pos b]
      by_cases b2 : 2 ≤ x 23 (2 * c + tmc y c)
      · rw [if_pos b2, if_pos b2, if_pos rfl, if_pos rfl]
        exact hrd
      · rw [if_neg b2, if_neg b2]
        by_cases b3 : 7 < x 22 (2 * c + tmc y c)
        · rw [if_pos b3, if_pos b3, if_pos rfl, if_pos rfl]
          exact hrd
        · rw [if_neg b3, if_neg b3, if_neg (by decide), if_neg (by decide)]
          have h7 : tn (x 22 (2 * c + tmc y c)) ≤ 7 := by
            rw [q0.1.1, show (7 : Int32) = nI 7 from rfl, nI_ltI (by decide) (by omega)] at b3
            omega
          have hA := rel_ask h hc h7
          rw [rc.2.2.2.2.2.2.2.1, rc.2.2.2.2.2.2.2.2.1] at hA
          exact hA
    · rw [if_neg b, if_neg b, if_neg b]
      exact hrd
  · rw [if_neg (fun q => a (c2.mp q)), if_neg (fun q => a (c1.mp q)), if_neg (fun q => a (c1.mp q))]
    exact h
end R15
