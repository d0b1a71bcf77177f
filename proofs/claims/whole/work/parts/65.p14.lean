section R14
variable {m : XX} {w : Nat → Int64} {x : XX} {y : YY} {z : Nat → Int64} {n : Nat}
theorem flt_one {α : Type} {l : List α} {Q : α → Bool} {i : Nat} {a : α} (ha : l[i]? = some a) (hn : Q a = false) (hy : ∀ k b, k ≠ i → l[k]? = some b → Q b = true) : l.eraseIdx i = l.filter Q := by
  have hi : i < l.length := (List.getElem?_eq_some_iff.mp ha).1
  have hd : l.drop i = a :: l.drop (i + 1) := by
    rw [List.drop_eq_getElem_cons hi]
    congr 1
    exact (List.getElem?_eq_some_iff.mp ha).2
  have hl : l = l.take i ++ (a :: l.drop (i + 1)) := by rw [← hd, List.take_append_drop]
  have h1 : (l.take i).filter Q = l.take i := List.filter_eq_self.mpr (fun b hb => by
    obtain ⟨k, hk⟩ := List.mem_iff_getElem?.mp hb
    rw [List.getElem?_take] at hk
    split at hk
    · rename_i q; exact hy k b (by omega) hk
    · cases hk)
  have h2 : (l.drop (i + 1)).filter Q = l.drop (i + 1) := List.filter_eq_self.mpr (fun b hb => by
    obtain ⟨k, hk⟩ := List.mem_iff_getElem?.mp hb
    rw [List.getElem?_drop] at hk
    exact hy (i + 1 + k) b (by omega) hk)
  rw [List.eraseIdx_eq_take_drop_succ]
  conv => rhs; rw [hl]
  rw [List.filter_append, h1, List.filter_cons_of_neg (by rw [hn]; decide), h2]
theorem rel_tb (h : Rel m w x y z n) {i : Nat} (hi : i < y 20 2) : Rel (gbF (fun X g => decide (¬ (X 34 g = nI (y 6 i) ∧ X 35 g = nI (y 7 i)))) m) w (tbX x y i) (tbY y i) z n := by
  have hG := h.bG; have hC := h.bC
  have bi := h.ci.2.2.1 i hi
  refine RelX.rel (RelX.cg (fun k a b c => gbF_ne a b c) (tbRel h.xx hi)) ?_
  refine gm_flt (P := fun a b => decide (¬ (a = nI (y 6 i) ∧ b = nI (y 7 i)))) (Q := fun p => !(decide (p.1 = y 6 i) && decide (p.2 = y 7 i))) h.gm hG (fun g hg => ?_) ?_
  · have b := h.ci.2.2.1 g hg
    have e1 : (nI (y 6 g) = nI (y 6 i)) = (y 6 g = y 6 i) := propext (nIE (by omega) (by omega))
    have e2 : (nI (y 7 g) = nI (y 7 i)) = (y 7 g = y 7 i) := propext (nIE (by omega) (by omega))
    simp only [e1, e2]
    by_cases a : y 6 g = y 6 i <;> by_cases b : y 7 g = y 7 i <;> simp [a, b]
  · rw [gft_tb hi]
    refine flt_one (gft_get hi) (by simp) (fun k b hk hb => ?_)
    have hl : k < y 20 2 := by
      have := (List.getElem?_eq_some_iff.mp hb).1
      rw [gft_len] at this; exact this
    rw [gft_get hl] at hb
    cases hb
    by_cases a : y 6 k = y 6 i
    · by_cases b : y 7 k = y 7 i
      · exact absurd (h.g.2.2.1 k i hl hi a b) hk
      · simp [b]
    · simp [a]
def castX (x : XX) (h j : Nat) (b : Bool) : XX := up2 (up2 (up2 (up2 x 24 h (x 24 h ||| bit j)) 25 h (if b = true then x 25 h ||| bit j else x 25 h)) 26 h (if b = true then x 26 h + x 8 j else x 26 h)) 27 h (if b = true then x 27 h else x 27 h + x 8 j)
theorem cast_eq (x : XX) (h j : Nat) (b : Bool) : sx_X2_cast x h j (if b = true then 1 else 0) = castX x h j b := by
  unfold sx_X2_cast castX
  cases b
  · rw [if_pos (by decide), if_neg (by decide), if_neg (by decide), if_neg (by decide)]
    rw [show up2 (up2 x 24 h (x 24 h ||| bit j)) 25 h (x 25 h) = up2 x 24 h (x 24 h ||| bit j) from up2_self rfl]
    rw [show up2 (up2 x 24 h (x 24 h ||| bit j)) 26 h (x 26 h) = up2 x 24 h (x 24 h ||| bit j) from up2_self rfl]
    rfl
  · rw [if_neg (by decide), if_pos rfl, if_pos rfl, if_pos rfl]
    rw [show up2 (up2 (up2 (up2 x 24 h (x 24 h ||| bit j)) 25 h (x 25 h ||| bit j)) 26 h (x 26 h + x 8 j)) 27 h (x 27 h) = up2 (up2 (up2 x 24 h (x 24 h ||| bit j)) 25 h (x 25 h ||| bit j)) 26 h (x 26 h + x 8 j) from up2_self rfl]
    rfl
theorem castX_o (x : XX) (h j : Nat) (b : Bool) {k i : Nat} (e : i ≠ h ∨ k < 24 ∨ 27 < k) : castX x h j b k i = x k i := by
  unfold castX
  rw [up2_o (by omega), up2_o (by omega), up2_o (by omega), up2_o (by omega)]
theorem voteX_o (m : XX) (j c t g wt : Int32) {k i : Nat} (e : i ≠ nV m ∨ k < 37 ∨ 41 < k) (e2 : k ≠ 42) : voteX m j c t g wt k i = m k i := by
  unfold voteX
  rw [up2_o (by omega), up2_o (by omega), up2_o (by omega), up2_o (by omega), up2_o (by omega), up2_o (by omega)]
theorem rel_cast (h : Rel m w x y z n) {j c : Nat} (hj : j < 20) (hc : c < y 20 1) (hn : n + 1 ≤ 512) (hu : x 19 c = 0 ∨ x 19 c = 3) (hv0 : ∀ v, v < nV m → ¬ (vJ m v = j ∧ vC m v = c)) (hg0 : ∀ g, g < y 20 2 → ¬ (y 6 g = j ∧ y 7 g = c)) (hcnt : ct (qV m c (tmc y c)) (nV m) + 1 + ct (qG y c) (y 20 2) ≤ tn (x 22 (2 * c + tmc y c))) (b : Bool) : Rel (voteX m (nI j) (nI c) (nI (tmc y c)) (if b = true then 1 else 0) (m 32 j)) w (castX (up2 x 11 j (x 11 j + 1)) (2 * c + tmc y c) j b) y z (n + 1) := by
  have hV := h.bV; have hC := h.bC
  have hVn := h.v.2.1
  have tl := tm_lt y c
  generalize ht : tmc y c = t at *
  generalize hM : voteX m (nI j) (nI c) (nI t) (if b = true then 1 else 0) (m 32 j) = m' at *
  generalize hX : castX (up2 x 11 j (x 11 j + 1)) (2 * c + t) j b = x' at *
  have mo : ∀ k i, (i ≠ nV m ∨ k < 37 ∨ 41 < k) → k ≠ 42 → m' k i = m k i := fun k i a b => by rw [← hM]; exact voteX_o _ _ _ _ _ _ a b
  have mf : ∀ k, k < 37 ∨ 42 < k → m' k = m k := fun k hk => by funext i; exact mo k i (by omega) (by omega)
  have xo : ∀ k i, (i ≠ 2 * c + t ∨ k < 24 ∨ 27 < k) → k ≠ 11 → x' k i = x k i := fun k i a b => by rw [← hX, castX_o _ _ _ _ a, up2_o (fun q => b q.1)]
  have xf : ∀ k, k < 24 ∨ 27 < k → k ≠ 11 → x' k = x k := fun k hk hk2 => by funext i; exact xo k i (Or.inr hk) hk2
  have n37 : m' 37 (nV m) = nI j := by rw [← hM]; simp [voteX, up2_at]
  have n38 : m' 38 (nV m) = nI c := by rw [← hM]; simp [voteX, up2_at]
  have n39 : m' 39 (nV m) = nI t := by rw [← hM]; simp [voteX, up2_at]
  have n40 : m' 40 (nV m) = (if b = true then 1 else 0) := by rw [← hM]; simp [voteX, up2_at]
  have n41 : m' 41 (nV m) = m 32 j := by rw [← hM]; simp [voteX, up2_at]
  have n42 : m' 42 0 = nI (nV m + 1) := by rw [← hM]; show m 42 0 + 1 = _; rw [h.v.1, nI_1]
  have eV : nV m' = nV m + 1 := by show tn (m' 42 0) = _; rw [n42, tn_nI (by omega)]
  have vJo : ∀ v, v < nV m → vJ m' v = vJ m v := fun v hv => by show tn _ = tn _; rw [mo 37 v (Or.inl (by omega)) (by decide)]
  have vCo : ∀ v, v < nV m → vC m' v = vC m v := fun v hv => by show tn _ = tn _; rw [mo 38 v (Or.inl (by omega)) (by decide)]
  have vTo : ∀ v, v < nV m → vT m' v = vT m v := fun v hv => by show tn _ = tn _; rw [mo 39 v (Or.inl (by omega)) (by decide)]
  have vJn : vJ m' (nV m) = j := by show tn _ = _; rw [n37, tn_nI (by omega)]
  have vCn : vC m' (nV m) = c := by show tn _ = _; rw [n38, tn_nI (by omega)]
  have vTn : vT m' (nV m) = t := by show tn _ = _; rw [n39, tn_nI (by omega)]
  have ra := h.a.2.2.2.2.2 j hj
  have ctV : ∀ d u, ct (qV m' d u) (nV m + 1) = ct (qV m d u) (nV m) + (if d = c ∧ u = t then 1 else 0) := fun d u => by
    show ct (qV m' d u) (nV m) + (if qV m' d u (nV m) = true then 1 else 0) = _
    rw [ct_cg (p := qV m' d u) (q := qV m d u) (fun v hv => by unfold qV; rw [vCo v hv, vTo v hv])]
    congr 1
    unfold qV
    rw [vCn, vTn]
    by_cases e : d = c ∧ u = t
    · rw [if_pos e, e.1, e.2, decide_eq_true rfl, decide_eq_true rfl]; rfl
    · rw [if_neg e, if_neg (by simp only [Bool.and_eq_true, decide_eq_true_eq]; exact fun q => e ⟨q.1.symm, q.2.symm⟩)]
  have sW : ∀ d u s, itr (gW m' d u s) 0 (nV m + 1) = (if d = c ∧ u = t ∧ (if b = true then 1 else 0 : Int32) = s then itr (gW m d u s) 0 (nV m) + m 32 j else itr (gW m d u s) 0 (nV m)) := fun d u s => by
    show gW m' d u s (nV m) (itr (gW m' d u s) 0 (nV m)) = _
    rw [itr_cg (f := gW m' d u s) (g := gW m d u s) _ (fun v a hv => by unfold gW; rw [vCo v hv, vTo v hv, mo 40 v (Or.inl (by omega)) (by decide), mo 41 v (Or.inl (by omega)) (by decide)])]
    generalize itr (gW m d u s) 0 (nV m) = a
    unfold gW
    rw [vCn, vTn, n40, n41]
    by_cases e : d = c ∧ u = t ∧ (if b = true then 1 else 0 : Int32) = s
    · rw [if_pos e, if_pos ⟨e.1.symm, e.2.1.symm, e.2.2⟩]
    · rw [if_neg e, if_neg (fun q => e ⟨q.1.symm, q.2.1.symm, q.2.2⟩)]
  have x24 : x' 24 (2 * c + t) = x 24 (2 * c + t) ||| bit j := by rw [← hX]; simp [castX, up2_at]
  have x25 : x' 25 (2 * c + t) = if b = true then x 25 (2 * c + t) ||| bit j else x 25 (2 * c + t) := by rw [← hX]; simp [castX, up2_at]
  have x26 : x' 26 (2 * c + t) = if b = true then x 26 (2 * c + t) + x 8 j else x 26 (2 * c + t) := by rw [← hX]; simp [castX, up2_at]
  have x27 : x' 27 (2 * c + t) = if b = true then x 27 (2 * c + t) else x 27 (2 * c + t) + x 8 j := by rw [← hX]; simp [castX, up2_at]
  have hlv : t = 0 ∨ y 4 c ≠ 0 := by rw [← ht]; exact tm_lv y c
  refine ⟨h.wz, ?_, ?_, ?_, fun d hd => ?_, ?_, ⟨by rw [eV, n42], by rw [eV]; omega, fun v hv => ?_, fun v v' hv hv' e1 e2 => ?_, fun g v hg hv e1 e2 => ?_, fun d hd => ?_⟩, fun d u hd hu2 hl => ?_, fun d hd => ?_, h.ci, h.cl, h.y1, hn⟩
  · unfold RA
    rw [mf 0 (by omega), mf 1 (by omega), mf 2 (by omega), mf 3 (by omega), mf 4 (by omega), mf 5 (by omega), mf 6 (by omega), mf 7 (by omega), mf 28 (by omega), mf 29 (by omega), mf 31 (by omega), mf 32 (by omega), mf 33 (by omega), xf 0 (by omega) (by decide), xf 3 (by omega) (by decide), xf 4 (by omega) (by decide), xf 5 (by omega) (by decide), xf 45 (by omega) (by decide), xf 37 (by omega) (by decide), xf 38 (by omega) (by decide), xf 1 (by omega) (by decide), xf 2 (by omega) (by decide), xf 6 (by omega) (by decide), xf 7 (by omega) (by decide), xf 8 (by omega) (by decide), xf 9 (by omega) (by decide)]
    exact h.a
  · unfold RP
    rw [mf 12 (by omega), mf 8 (by omega), mf 9 (by omega), mf 10 (by omega), mf 11 (by omega), xf 12 (by omega) (by decide), xf 15 (by omega) (by decide), xf 13 (by omega) (by decide), xf 14 (by omega) (by decide), xf 0 (by omega) (by decide)]
    exact h.p
  · unfold RC
    rw [mf 27 (by omega), mf 13 (by omega), mf 14 (by omega), mf 15 (by omega), mf 16 (by omega), mf 17 (by omega), mf 18 (by omega), mf 22 (by omega), mf 19 (by omega), mf 20 (by omega), xf 19 (by omega) (by decide), xf 18 (by omega) (by decide), xf 16 (by omega) (by decide), xf 17 (by omega) (by decide), xf 20 (by omega) (by decide), xf 22 (by omega) (by decide), xf 23 (by omega) (by decide)]
    exact h.c
  · have h8 := h.s d hd
    rw [xf 19 (by omega) (by decide), xf 28 (by omega) (by decide), mf 21 (by omega), mf 23 (by omega)]
    have lo : ∀ u, 2 * d + u ≠ 2 * c + t → LA m' x' d (2 * d + u) = LA m x d (2 * d + u) := fun u e => by
      unfold LA
      rw [mf 24 (by omega), mf 25 (by omega), mf 26 (by omega), xo 24 _ (Or.inl e) (by decide), xo 26 _ (Or.inl e) (by decide), xo 27 _ (Or.inl e) (by decide)]
    have fo : ∀ u, 2 * d + u ≠ 2 * c + t → fnd x' (2 * d + u) = fnd x (2 * d + u) := fun u e => by
      unfold fnd
      rw [xo 26 _ (Or.inl e) (by decide), xo 27 _ (Or.inl e) (by decide)]
    have lo0 := lo 0; have fo0 := fo 0
    rw [Nat.add_zero] at lo0 fo0
    by_cases e : d = c
    · subst e
      rcases hu with q | q
      · rcases h8 with k | k | k | k
        · exact Or.inl k
        · rw [q] at k; rcases k.1 with r | r <;> exact absurd r (by decide)
        · rw [q] at k; exact absurd k.1 (by decide)
        · rw [q] at k; rcases k.1 with r | r <;> exact absurd r (by decide)
      · rcases h8 with k | k | k | k
        · rw [q] at k; exact absurd k.1 (by decide)
        · rw [q] at k; rcases k.1 with r | r <;> exact absurd r (by decide)
        · have t1 : t = 1 := by rw [← ht]; unfold tmc; rw [if_neg k.2.1]
          rw [lo0 (by omega), fo0 (by omega)]
          exact Or.inr (Or.inr (Or.inl k))
        · rw [q] at k; rcases k.1 with r | r <;> exact absurd r (by decide)
    · rw [lo0 (by omega), fo0 (by omega), lo 1 (by omega), fo 1 (by omega)]
      exact h8
  · unfold RG
    rw [mf 36 (by omega), mf 34 (by omega), mf 35 (by omega), xf 21 (by omega) (by decide), xf 10 (by omega) (by decide)]
    exact h.g
  · rw [eV] at hv
    by_cases e : v = nV m
    · subst e
      rw [n37, n38, n39, n40, vJn, vCn, vTn]
      refine ⟨⟨rfl, hj⟩, ⟨rfl, hc⟩, ⟨rfl, tl⟩, fun q => ?_, ?_⟩
      · rcases hlv with r | r
        · omega
        · exact r
      · cases b
        · exact Or.inl rfl
        · exact Or.inr rfl
    · have hv2 : v < nV m := by omega
      rw [mo 37 v (Or.inl e) (by decide), mo 38 v (Or.inl e) (by decide), mo 39 v (Or.inl e) (by decide), mo 40 v (Or.inl e) (by decide), vJo v hv2, vCo v hv2, vTo v hv2]
      exact h.v.2.2.1 v hv2
  · rw [eV] at hv hv'
    by_cases e : v = nV m
    · by_cases f : v' = nV m
      · rw [e, f]
      · have f2 : v' < nV m := by omega
        rw [e, vJn, vJo v' f2] at e1; rw [e, vCn, vCo v' f2] at e2
        exact absurd ⟨e1.symm, e2.symm⟩ (hv0 v' f2)
    · have e3 : v < nV m := by omega
      by_cases f : v' = nV m
      · rw [f, vJn, vJo v e3] at e1; rw [f, vCn, vCo v e3] at e2
        exact absurd ⟨e1, e2⟩ (hv0 v e3)
      · have f2 : v' < nV m := by omega
        rw [vJo v e3, vJo v' f2] at e1; rw [vCo v e3, vCo v' f2] at e2
        exact h.v.2.2.2.1 v v' e3 f2 e1 e2
  · rw [eV] at hv
    by_cases e : v = nV m
    · rw [e, vJn] at e1; rw [e, vCn] at e2
      exact hg0 g hg ⟨e1, e2⟩
    · have e3 : v < nV m := by omega
      rw [vJo v e3] at e1; rw [vCo v e3] at e2
      exact h.v.2.2.2.2.1 g v hg e3 e1 e2
  · rw [eV]
    show _ = nI (ct (qVj m' d) (nV m) + (if qVj m' d (nV m) = true then 1 else 0))
    rw [ct_cg (p := qVj m' d) (q := qVj m d) (fun v hv => by unfold qVj; rw [vJo v hv])]
    have h9 := h.v.2.2.2.2.2 d hd
    have q9 : qVj m' d (nV m) = decide (j = d) := by unfold qVj; rw [vJn]
    rw [q9]
    by_cases e : d = j
    · subst e
      have vx : x' 11 d = x 11 d + 1 := by rw [← hX, castX_o _ _ _ _ (by omega)]; simp [up2_at]
      rw [vx, h9, nI_1, if_pos (decide_eq_true rfl)]
    · have vx : x' 11 d = x 11 d := by rw [← hX, castX_o _ _ _ _ (by omega), up2_o (by omega)]
      rw [vx, h9, if_neg (by simpa using fun q => e q.symm)]; rfl
  · have h9 := h.hh d u hd hu2 hl
    rw [eV, ctV, sW, sW]
    have ex : ∀ i, (∃ v, v < nV m + 1 ∧ vC m' v = d ∧ vT m' v = u ∧ vJ m' v = i) ↔ ((∃ v, v < nV m ∧ vC m v = d ∧ vT m v = u ∧ vJ m v = i) ∨ (d = c ∧ u = t ∧ i = j)) := fun i => by
      constructor
      · rintro ⟨v, v1, v2, v3, v4⟩
        by_cases e : v = nV m
        · rw [e, vCn] at v2; rw [e, vTn] at v3; rw [e, vJn] at v4
          exact Or.inr ⟨v2.symm, v3.symm, v4.symm⟩
        · have e3 : v < nV m := by omega
          rw [vCo v e3] at v2; rw [vTo v e3] at v3; rw [vJo v e3] at v4
          exact Or.inl ⟨v, e3, v2, v3, v4⟩
      · rintro (⟨v, v1, v2, v3, v4⟩ | ⟨e1, e2, e3⟩)
        · exact ⟨v, by omega, by rw [vCo v v1]; exact v2, by rw [vTo v v1]; exact v3, by rw [vJo v v1]; exact v4⟩
        · exact ⟨nV m, by omega, by rw [vCn, e1], by rw [vTn, e2], by rw [vJn, e3]⟩
    have ex1 : ∀ i, (∃ v, v < nV m + 1 ∧ vC m' v = d ∧ vT m' v = u ∧ vJ m' v = i ∧ m' 40 v = 1) ↔ ((∃ v, v < nV m ∧ vC m v = d ∧ vT m v = u ∧ vJ m v = i ∧ m 40 v = 1) ∨ (d = c ∧ u = t ∧ i = j ∧ b = true)) := fun i => by
      constructor
      · rintro ⟨v, v1, v2, v3, v4, v5⟩
        by_cases e : v = nV m
        · rw [e, vCn] at v2; rw [e, vTn] at v3; rw [e, vJn] at v4; rw [e, n40] at v5
          refine Or.inr ⟨v2.symm, v3.symm, v4.symm, ?_⟩
          cases b
          · exact absurd v5 (by decide)
          · rfl
        · have e3 : v < nV m := by omega
          rw [vCo v e3] at v2; rw [vTo v e3] at v3; rw [vJo v e3] at v4; rw [mo 40 v (Or.inl e) (by decide)] at v5
          exact Or.inl ⟨v, e3, v2, v3, v4, v5⟩
      · rintro (⟨v, v1, v2, v3, v4, v5⟩ | ⟨e1, e2, e3, e4⟩)
        · exact ⟨v, by omega, by rw [vCo v v1]; exact v2, by rw [vTo v v1]; exact v3, by rw [vJo v v1]; exact v4, by rw [mo 40 v (Or.inl (by omega)) (by decide)]; exact v5⟩
        · exact ⟨nV m, by omega, by rw [vCn, e1], by rw [vTn, e2], by rw [vJn, e3], by rw [n40, if_pos e4]⟩
    by_cases e : 2 * d + u = 2 * c + t
    · have ed : d = c := by omega
      have eu : u = t := by omega
      subst ed; subst eu
      have b0 : bt (x 24 (2 * d + u)) j = false := by
        rcases hq : bt (x 24 (2 * d + u)) j with _ | _
        · rfl
        · obtain ⟨v, v1, v2, v3, v4⟩ := (h9.2.1 j (by omega)).mp hq
          exact absurd ⟨v4, v2⟩ (hv0 v v1)
      rw [x24, x25, x26, x27, if_pos ⟨rfl, rfl⟩, ra.2.2.1]
      refine ⟨by rw [bc_or (by omega) b0, h9.1, nI_1], fun i hi => ?_, fun i hi => ?_, ?_, ?_⟩
      · rw [b_orbit (by omega) hi, Bool.or_eq_true, decide_eq_true_eq, h9.2.1 i hi, ex]
        simp
      · rw [ex1]
        cases b
        · rw [if_neg (by decide), h9.2.2.1 i hi]; simp
        · rw [if_pos rfl, b_orbit (by omega) hi, Bool.or_eq_true, decide_eq_true_eq, h9.2.2.1 i hi]; simp
      · cases b
        · rw [if_neg (by decide), if_neg (fun q => absurd q.2.2 (by decide))]; exact h9.2.2.2.1
        · rw [if_pos rfl, if_pos ⟨rfl, rfl, rfl⟩, h9.2.2.2.1]
      · cases b
        · rw [if_neg (by decide), if_pos ⟨rfl, rfl, rfl⟩, h9.2.2.2.2]
        · rw [if_pos rfl, if_neg (fun q => absurd q.2.2 (by decide))]; exact h9.2.2.2.2
    · have ne : ¬ (d = c ∧ u = t) := fun q => e (by rw [q.1, q.2])
      rw [xo 24 _ (Or.inl e) (by decide), xo 25 _ (Or.inl e) (by decide), xo 26 _ (Or.inl e) (by decide), xo 27 _ (Or.inl e) (by decide), if_neg ne, if_neg (fun q => ne ⟨q.1, q.2.1⟩), if_neg (fun q => ne ⟨q.1, q.2.1⟩), Nat.add_zero]
      refine ⟨h9.1, fun i hi => ?_, fun i hi => ?_, h9.2.2.2.1, h9.2.2.2.2⟩
      · rw [h9.2.1 i hi, ex]
        exact ⟨Or.inl, fun q => q.elim id (fun r => absurd ⟨r.1, r.2.1⟩ ne)⟩
      · rw [h9.2.2.1 i hi, ex1]
        exact ⟨Or.inl, fun q => q.elim id (fun r => absurd ⟨r.1, r.2.1⟩ ne)⟩
  · have h9 := h.q d hd
    rw [xf 22 (by omega) (by decide), xf 19 (by omega) (by decide), eV, ctV]
    refine ⟨h9.1, fun q => ?_, h9.2.2⟩
    have h7 := h9.2.1 q
    by_cases e : d = c
    · subst e
      rw [ht] at h7 ⊢
      rw [if_pos ⟨rfl, rfl⟩]; omega
    · rw [if_neg (fun k => e k.1)]; exact h7
end R14
