section R16
variable {m : XX} {w : Nat → Int64} {x : XX} {y : YY} {z : Nat → Int64} {n : Nat}
theorem fstv_q {q : Nat → Bool} : ∀ {k : Nat}, hasv q k = true → q (fstv q k) = true
  | 0, h => by cases h
  | k + 1, h => by
    show q (if hasv q k = true then fstv q k else if q k = true then k else k + 1) = true
    by_cases e : hasv q k = true
    · rw [if_pos e]; exact fstv_q e
    · have hq : q k = true := by
        unfold hasv at h
        simpa [e] using h
      rw [if_neg e, if_pos hq]; exact hq
theorem gift_at (h : Rel m w x y z n) {j c : Nat} (hj : j < 20) (hc : c < y 20 1) : (¬ (0 ≤ s_X7_giftOf y j c) ∧ s_X8_giftsOf m (nI j) (nI c) = 0) ∨ ((0 ≤ s_X7_giftOf y j c) ∧ ¬ s_X8_giftsOf m (nI j) (nI c) = 0 ∧ tn (s_X7_giftOf y j c) < y 20 2 ∧ y 6 (tn (s_X7_giftOf y j c)) = j ∧ y 7 (tn (s_X7_giftOf y j c)) = c) := by
  have hG := h.bG
  unfold s_X7_giftOf
  by_cases e : hasv (q_X7_giftOf_2 j c y) (y 20 2) = true
  · rw [if_pos e]
    have l := fstv_lt e
    have q := fstv_q e
    have hq : y 6 (fstv (q_X7_giftOf_2 j c y) (y 20 2)) = j ∧ y 7 (fstv (q_X7_giftOf_2 j c y) (y 20 2)) = c := by
      generalize fstv (q_X7_giftOf_2 j c y) (y 20 2) = i at q
      unfold q_X7_giftOf_2 at q
      by_cases a : y 6 i = j
      · rw [if_pos a] at q
        by_cases b : y 7 i = c
        · exact ⟨a, b⟩
        · rw [if_neg b] at q; cases q
      · rw [if_neg a] at q; cases q
    refine Or.inr ⟨by rw [show (0 : Int32) = nI 0 from rfl, nI_leI (by decide) (by omega)]; omega, fun k => (gNo h hj hc).mp k _ l hq, ?_⟩
    rw [tn_nI (by omega)]
    exact ⟨l, hq⟩
  · rw [if_neg e]
    refine Or.inl ⟨by decide, (gNo h hj hc).mpr (fun g hg k => e (hasv_yes hg (by unfold q_X7_giftOf_2; rw [if_pos k.1, if_pos k.2])))⟩
theorem e_vote (h : Rel m w x y z n) (hn : n + 1 ≤ 512) (j c gu : Int32) : s_X7_vote x y j c gu = s_X8_vote m j c gu ∧ Rel (sx_X8_vote m j c gu) w (sx_X7_vote x y j c gu) (sy_X7_vote x y j c gu) z (n + 1) := by
  have hG := h.bG; have hC := h.bC
  unfold s_X7_vote s_X8_vote sx_X8_vote sx_X7_vote sy_X7_vote
  rw [wi_e, is_j, is_c h]
  by_cases c1 : s_X7_within j 0 19 = 0
  · rw [if_pos c1, if_pos c1, if_pos c1, if_pos c1, if_pos c1]; exact ⟨rfl, h.up (by omega) hn⟩
  rw [if_neg c1, if_neg c1, if_neg c1, if_neg c1, if_neg c1]
  by_cases c2 : s_X7_within c 0 ((nI (y 20 1)) - 1) = 0
  · rw [if_pos c2, if_pos c2, if_pos c2, if_pos c2, if_pos c2]; exact ⟨rfl, h.up (by omega) hn⟩
  rw [if_neg c2, if_neg c2, if_neg c2, if_neg c2, if_neg c2]
  by_cases c3 : s_X7_within gu 0 1 = 0
  · rw [if_pos c3, if_pos c3, if_pos c3, if_pos c3, if_pos c3]; exact ⟨rfl, h.up (by omega) hn⟩
  rw [if_neg c3, if_neg c3, if_neg c3, if_neg c3, if_neg c3]
  obtain ⟨ej, hj⟩ := judge_tn c1
  obtain ⟨ec, hc⟩ := case_tn h c2
  generalize tn j = jN at *
  generalize tn c = cN at *
  subst ej; subst ec
  have hgu : gu = (if decide (gu = 1) = true then 1 else 0) := by
    have g2 := wi_tn (k := 1) (by decide) c3
    rcases (show tn gu = 0 ∨ tn gu = 1 by omega) with q | q
    · rw [q] at g2; rw [g2.1]; rfl
    · rw [q] at g2; rw [g2.1]; rfl
  rcases gift_at h hj hc with ⟨a, b⟩ | ⟨a, b, hi, i6, i7⟩
  · rw [if_neg a, if_neg a, if_neg a, if_pos b, if_pos b]; exact ⟨rfl, h.up (by omega) hn⟩
  rw [if_pos a, if_pos a, if_pos a, if_neg b, if_neg b]
  generalize hI : tn (s_X7_giftOf y jN cN) = i at *
  have hB := rel_tb h hi
  rw [i6, i7] at hB
  have tl := tm_lt y cN
  have q0 := h.q cN hc
  have lG : 0 < ct (qG y cN) (y 20 2) := ct_pos hi (by unfold qG; rw [i7]; exact decide_eq_true rfl)
  have hu : x 19 cN = 0 ∨ x 19 cN = 3 := by
    by_cases k : x 19 cN = 0 ∨ x 19 cN = 3
    · exact k
    · have := q0.2.2 k; omega
  have hle := q0.2.1 hu
  generalize hBd : gbF (fun X g => decide (¬ (X 34 g = nI jN ∧ X 35 g = nI cN))) m = B at *
  have bo : ∀ k, k ≠ 34 → k ≠ 35 → k ≠ 36 → B k = m k := fun k a b d => by rw [← hBd]; exact gbF_ne a b d
  have eV : nV B = nV m := by show tn _ = tn _; rw [bo 42 (by decide) (by decide) (by decide)]
  have e1 : vJ B = vJ m := by funext v; show tn _ = tn _; rw [bo 37 (by decide) (by decide) (by decide)]
  have e2 : vC B = vC m := by funext v; show tn _ = tn _; rw [bo 38 (by decide) (by decide) (by decide)]
  have e3 : vT B = vT m := by funext v; show tn _ = tn _; rw [bo 39 (by decide) (by decide) (by decide)]
  have e4 : qV B = qV m := by funext j t v; unfold qV; rw [e2, e3]
  have ht : s_X8_timeOf (up2 (up2 B 37 (nV m) (nI jN)) 38 (nV m) (nI cN)) cN = nI (tmc (tbY y i) cN) := by
    show s_X8_timeOf B cN = _
    exact tmO hB hc
  have hR := rel_cast hB (j := jN) (c := cN) hj hc hn hu (fun v hv k => by
      rw [eV] at hv; rw [e1, e2] at k
      exact h.v.2.2.2.2.1 i v hi hv (by rw [i6, k.1]) (by rw [i7, k.2])) (fun g hg k => by
      have hg2 : g < y 20 2 - 1 := hg
      have k1 : y 6 (shf i 6 g) = jN := k.1
      have k2 : y 7 (shf i 6 g) = cN := k.2
      have hs : shf i 6 g < y 20 2 ∧ shf i 6 g ≠ i := by
        unfold shf
        rw [if_pos rfl]
        split <;> omega
      exact hs.2 (h.g.2.2.1 _ i hs.1 hi (by rw [k1, i6]) (by rw [k2, i7]))) (by
      rw [eV, e4]
      have s := ct_shf (q := qG y cN) (i := i) hi
      rw [if_pos (show qG y cN i = true by unfold qG; rw [i7]; exact decide_eq_true rfl)] at s
      show ct (qV m cN (tmc y cN)) (nV m) + 1 + ct (fun g => qG y cN (shf i 6 g)) (y 20 2 - 1) ≤ tn (x 22 (2 * cN + tmc y cN))
      omega) (decide (gu = 1))
  rw [← hgu, ← cast_eq] at hR
  have hf := e_settle (c := cN) hR hc (by
    rw [cast_eq, castX_o _ _ _ _ (by omega), up2_o (by omega)]
    exact hu)
  rw [ht]
  have hdec : (if gu = 1 then 1 else 0 : Int32) = (if decide (gu = 1) = true then 1 else 0) := by simp
  rw [hdec, tm_hh]
  have yy := (se_ok (x := sx_X2_cast (up2 (tbX x y i) 11 jN (tbX x y i 11 jN + 1)) (2 * cN + tmc (tbY y i) cN) jN (if decide (gu = 1) = true then 1 else 0)) (c := cN) hB.ci).2.2.2
  have ans := (hf.c.2 cN (by rw [yy]; exact hc)).2.2.1
  refine ⟨?_, hf⟩
  refine Eq.trans ans.symm ?_
  generalize voteX B (nI jN) (nI cN) (nI (tmc (tbY y i) cN)) gu (B 32 jN) = M
  by_cases q : s_X8_votesOf M cN = M 19 cN
  · rw [if_pos q, if_pos q]
  · rw [if_neg q, if_neg q]
end R16
