section R13
variable {m : XX} {w : Nat → Int64} {x : XX} {y : YY} {z : Nat → Int64} {n : Nat}
theorem next_may (h : Rel m w x y z n) {j c : Nat} (e : i_X7_nextFor x y z j = c + 1) : ¬ s_X7_mayHave x y z j c = 0 := by
  have key : ∀ k, (itrG (f_X7_nextFor_7 x z j y) (0, 0) k).1 = 0 ∨ ∃ c, (itrG (f_X7_nextFor_7 x z j y) (0, 0) k).1 = c + 1 ∧ ¬ s_X7_mayHave x y z j c = 0 := by
    intro k
    induction k with
    | zero => exact Or.inl rfl
    | succ k ih =>
      show (f_X7_nextFor_7 x z j y k (itrG (f_X7_nextFor_7 x z j y) (0, 0) k)).1 = 0 ∨ ∃ c, (f_X7_nextFor_7 x z j y k (itrG (f_X7_nextFor_7 x z j y) (0, 0) k)).1 = c + 1 ∧ ¬ s_X7_mayHave x y z j c = 0
      generalize itrG (f_X7_nextFor_7 x z j y) (0, 0) k = s at ih ⊢
      unfold f_X7_nextFor_7
      split
      · exact ih
      · split
        · exact ih
        · rename_i q
          exact Or.inr ⟨k, rfl, q⟩
  unfold i_X7_nextFor at e
  rcases key (y 20 1) with q | ⟨d, q, r⟩
  · rw [q, if_pos rfl] at e; omega
  · rw [q, if_neg (by omega)] at e
    have : d = c := by omega
    rw [← this]; exact r
/-- what it takes to be given a case -/
theorem may_d (h : Rel m w x y z n) {j c : Nat} (hj : j < 20) (hc : c < y 20 1) (k : ¬ s_X7_mayHave x y z j c = 0) : (x 19 c = 0 ∨ x 19 c = 3) ∧ ct (qV m c (tmc y c)) (nV m) + ct (qG y c) (y 20 2) < tn (x 22 (2 * c + tmc y c)) ∧ ct (qGj y j) (y 20 2) < 20 ∧ (∀ g, g < y 20 2 → ¬ (y 6 g = j ∧ y 7 g = c)) ∧ (∀ v, v < nV m → ¬ (vJ m v = j ∧ vC m v = c)) := by
  have hG := h.bG; have hV := h.bV
  unfold s_X7_mayHave at k
  by_cases c1 : s_X0_isUndecided x c = 0
  · rw [if_pos c1] at k; exact absurd rfl k
  rw [if_neg c1] at k
  by_cases c2 : s_X0_wantsJudges x y c = 0
  · rw [if_pos c2] at k; exact absurd rfl k
  rw [if_neg c2] at k
  by_cases c3 : s_X3_isFree x j = 0
  · rw [if_pos c3] at k; exact absurd rfl k
  rw [if_neg c3] at k
  by_cases c4 : s_X3_isSkilledIn x j (nI (y 3 c)) = 0
  · rw [if_pos c4] at k; exact absurd rfl k
  rw [if_neg c4] at k
  by_cases c5 : s_X3_isKinOf z j (x 12 (y 2 c)) = 0
  · rw [if_pos c5] at k
    by_cases c6 : s_X0_isHeldBy x c j = 0
    · rw [if_pos c6] at k
      by_cases c7 : s_X0_hasVoteOf x y c j = 0
      · refine ⟨Classical.byContradiction (fun q => c1 (un_of.mpr q)), ?_, ?_, (held h hj hc).mp c6, (voted h hj hc).mp c7⟩
        · rw [want h hc, vOc h hc, gOc h hc, nI_add, (h.c.2 c hc).2.2.2.2.2.2.2.1] at c2
          have q := (h.q c hc).1
          have l1 := ct_le (qV m c (tmc y c)) (nV m)
          have l2 := ct_le (qG y c) (y 20 2)
          by_cases r : x 22 (2 * c + tmc y c) ≤ nI (ct (qV m c (tmc y c)) (nV m) + ct (qG y c) (y 20 2))
          · rw [if_pos r] at c2; exact absurd rfl c2
          · rw [q.1, nI_leI (by omega) (by omega)] at r
            omega
        · unfold s_X3_isFree at c3
          by_cases r : x 9 j = 0
          · rw [if_pos r] at c3
            by_cases r2 : x 7 j ≤ x 10 j
            · rw [if_pos r2] at c3; exact absurd rfl c3
            · have l7 := (h.a.2.2.2.2.2 j hj).2.2.2.2.1
              rw [(h.g.2.2.2.2 j hj).1] at r2
              have l3 := ct_le (qGj y j) (y 20 2)
              have r3 : nI (ct (qGj y j) (y 20 2)) < nI 20 := Int32.lt_of_lt_of_le (Int32.not_le.mp r2) l7
              rw [nI_ltI (by omega) (by decide)] at r3
              exact r3
          · rw [if_neg r] at c3; exact absurd rfl c3
      · rw [if_neg c7] at k; exact absurd rfl k
    · rw [if_neg c6] at k; exact absurd rfl k
  · rw [if_neg c5] at k; exact absurd rfl k
theorem ct_split {p q r : Nat → Bool} : ∀ {k : Nat}, (∀ i, i < k → (if r i = true then 1 else 0) = (if p i = true then 1 else 0) + (if q i = true then 1 else 0)) → ct r k = ct p k + ct q k
  | 0, _ => rfl
  | k + 1, h => by
    show ct r k + (if r k = true then 1 else 0) = (ct p k + (if p k = true then 1 else 0)) + (ct q k + (if q k = true then 1 else 0))
    rw [ct_split (fun i hi => h i (by omega)), h k (by omega)]
    omega
theorem room_g (h : Rel m w x y z n) {j : Nat} (hj : j < 20) (hl : ct (qGj y j) (y 20 2) < 20) : y 20 2 < 400 := by
  have key : ∀ J, J ≤ 20 → ct (fun g => decide (y 6 g < J)) (y 20 2) + (if j < J then 1 else 0) ≤ 20 * J := by
    intro J
    induction J with
    | zero => intro _; rw [ct_no (fun g _ => decide_eq_false (by omega)), if_neg (by omega)]; omega
    | succ J ih =>
      intro hJ
      have ih := ih (by omega)
      have e : ct (fun g => decide (y 6 g < J + 1)) (y 20 2) = ct (fun g => decide (y 6 g < J)) (y 20 2) + ct (qGj y J) (y 20 2) := ct_split (fun g _ => by
        unfold qGj
        by_cases a : y 6 g < J
        · simp [a, show y 6 g < J + 1 by omega, show y 6 g ≠ J by omega]
        · by_cases b : y 6 g = J
          · simp [b]
          · simp [a, b, show ¬ y 6 g < J + 1 by omega])
      have b := (h.g.2.2.2.2 J (by omega)).2
      rw [e]
      by_cases q : j = J
      · subst q
        rw [if_neg (by omega)] at ih
        rw [if_pos (by omega)]; omega
      · by_cases r : j < J
        · rw [if_pos r] at ih; rw [if_pos (by omega)]; omega
        · rw [if_neg r] at ih; rw [if_neg (by omega)]; omega
  have k := key 20 (Nat.le_refl _)
  rw [if_pos hj] at k
  have e : ct (fun g => decide (y 6 g < 20)) (y 20 2) = y 20 2 := by
    have all : ∀ N, (∀ g, g < N → y 6 g < 20) → ct (fun g => decide (y 6 g < 20)) N = N := by
      intro N
      induction N with
      | zero => intro _; rfl
      | succ N ih =>
        intro hN
        show ct _ N + (if decide (y 6 N < 20) = true then 1 else 0) = N + 1
        rw [ih (fun g hg => hN g (by omega)), if_pos (decide_eq_true (hN N (by omega)))]
    exact all _ (fun g hg => (h.ci.2.2.1 g hg).1)
  omega
theorem hg_give (h : Rel m w x y z n) : ∀ jN, jN < 20 → ¬ (i_X7_nextFor x y z jN) = 0 → y 20 2 < 400 := fun j hj k => by
  rcases next_eq h hj with ⟨e, -⟩ | ⟨c, hc, e, -⟩
  · exact absurd e k
  · exact room_g h hj (may_d h hj hc (next_may h e)).2.2.1
theorem hg_give8 (h : Rel m w x y z n) : ∀ jN : Nat, jN < 20 → ¬ s_X8_nextOf m w jN < 0 → nG m < 400 := fun j hj k => by
  rcases next_eq h hj with ⟨-, e⟩ | ⟨c, hc, e, -⟩
  · rw [e] at k; exact absurd (by decide) k
  · rw [h.eG]; exact room_g h hj (may_d h hj hc (next_may h e)).2.2.1
theorem rel_give (h : Rel m w x y z n) {j c cp : Nat} (hj : j < 20) (hc : c < y 20 1) (k : ¬ s_X7_mayHave x y z j c = 0) (hc1 : y 20 2 < cp) (hc2 : cp ≤ 600) : Rel (up2 (up2 (up2 m 34 (y 20 2) (nI j)) 35 (y 20 2) (nI c)) 36 0 ((m 36 0) + 1)) w (gvX x j c) (giY y cp j c) z n := by
  obtain ⟨k1, k2, k3, k4, k5⟩ := may_d h hj hc k
  have h400 := room_g h hj k3
  have y6 : ∀ g, giY y cp j c 6 g = if g = y 20 2 then j else y 6 g := fun g => by simp [giY, upY]
  have y7 : ∀ g, giY y cp j c 7 g = if g = y 20 2 then c else y 7 g := fun g => by simp [giY, upY]
  have en : giY y cp j c 20 2 = y 20 2 + 1 := rfl
  have o6 : ∀ g, g < y 20 2 → giY y cp j c 6 g = y 6 g := fun g hg => by rw [y6, if_neg (by omega)]
  have o7 : ∀ g, g < y 20 2 → giY y cp j c 7 g = y 7 g := fun g hg => by rw [y7, if_neg (by omega)]
  have ctG : ∀ d, ct (qG (giY y cp j c) d) (y 20 2 + 1) = ct (qG y d) (y 20 2) + (if d = c then 1 else 0) := fun d => by
    show ct (qG (giY y cp j c) d) (y 20 2) + (if qG (giY y cp j c) d (y 20 2) = true then 1 else 0) = _
    rw [ct_cg (p := qG (giY y cp j c) d) (q := qG y d) (fun g hg => by unfold qG; rw [o7 g hg])]
    congr 1
    unfold qG
    rw [y7, if_pos rfl]
    by_cases e : d = c
    · rw [e, decide_eq_true rfl, if_pos rfl, if_pos rfl]
    · rw [decide_eq_false (fun q => e q.symm), if_neg (by decide), if_neg e]
  have ctGj : ∀ d, ct (qGj (giY y cp j c) d) (y 20 2 + 1) = ct (qGj y d) (y 20 2) + (if d = j then 1 else 0) := fun d => by
    show ct (qGj (giY y cp j c) d) (y 20 2) + (if qGj (giY y cp j c) d (y 20 2) = true then 1 else 0) = _
    rw [ct_cg (p := qGj (giY y cp j c) d) (q := qGj y d) (fun g hg => by unfold qGj; rw [o6 g hg])]
    congr 1
    unfold qGj
    rw [y6, if_pos rfl]
    by_cases e : d = j
    · rw [e, decide_eq_true rfl, if_pos rfl, if_pos rfl]
    · rw [decide_eq_false (fun q => e q.symm), if_neg (by decide), if_neg e]
  refine ⟨h.wz, h.a, h.p, h.c, h.s, ⟨?_, fun g hg => ?_, fun g g' hg hg' e6 e7 => ?_, fun d hd => ?_, fun d hd => ?_⟩, ⟨h.v.1, h.v.2.1, h.v.2.2.1, h.v.2.2.2.1, fun g v hg hv e6 e7 => ?_, h.v.2.2.2.2.2⟩, h.hh, fun d hd => ?_, ?_, CL.cg (y := y) rfl rfl rfl rfl rfl h.cl, h.y1, h.n512⟩
  · show m 36 0 + 1 = nI (y 20 2 + 1)
    rw [h.g.1, nI_1]
  · rw [en] at hg
    rw [y6, y7]
    by_cases e : g = y 20 2
    · subst e; rw [if_pos rfl, if_pos rfl]; simp [up2_at]
    · rw [if_neg e, if_neg e]
      have := h.g.2.1 g (by omega)
      simpa [up2_at, e] using this
  · rw [en] at hg hg'
    rw [y6, y6] at e6; rw [y7, y7] at e7
    by_cases a : g = y 20 2
    · by_cases b : g' = y 20 2
      · rw [a, b]
      · rw [if_pos a, if_neg b] at e6 e7
        exact absurd ⟨e6.symm, e7.symm⟩ (k4 g' (by omega))
    · by_cases b : g' = y 20 2
      · rw [if_neg a, if_pos b] at e6 e7
        exact absurd ⟨e6, e7⟩ (k4 g (by omega))
      · rw [if_neg a, if_neg b] at e6 e7
        exact h.g.2.2.1 g g' (by omega) (by omega) e6 e7
  · have hb := h.g.2.2.2.1 d hd
    rw [en, ctG]
    have ex : ∀ i, (∃ g, g < y 20 2 + 1 ∧ giY y cp j c 7 g = d ∧ giY y cp j c 6 g = i) ↔ ((∃ g, g < y 20 2 ∧ y 7 g = d ∧ y 6 g = i) ∨ (d = c ∧ i = j)) := fun i => by
      constructor
      · rintro ⟨g, g1, g2, g3⟩
        by_cases e : g = y 20 2
        · rw [y7, if_pos e] at g2; rw [y6, if_pos e] at g3
          exact Or.inr ⟨g2.symm, g3.symm⟩
        · rw [y7, if_neg e] at g2; rw [y6, if_neg e] at g3
          exact Or.inl ⟨g, by omega, g2, g3⟩
      · rintro (⟨g, g1, g2, g3⟩ | ⟨e1, e2⟩)
        · exact ⟨g, by omega, by rw [o7 g g1]; exact g2, by rw [o6 g g1]; exact g3⟩
        · exact ⟨y 20 2, by omega, by rw [y7, if_pos rfl, e1], by rw [y6, if_pos rfl, e2]⟩
    by_cases e : d = c
    · subst e
      have vx : gvX x j d 21 d = x 21 d ||| bit j := by simp [gvX, up2_at]; rfl
      have b0 : bt (x 21 d) j = false := by
        rcases hq : bt (x 21 d) j with _ | _
        · rfl
        · obtain ⟨g, g1, g2, g3⟩ := (hb.2 j (by omega)).mp hq
          exact absurd ⟨g3, g2⟩ (k4 g g1)
      rw [vx, if_pos rfl]
      refine ⟨by rw [bc_or (by omega) b0, hb.1, nI_1], fun i hi => ?_⟩
      rw [b_orbit (by omega) hi, Bool.or_eq_true, decide_eq_true_eq, hb.2 i hi, ex]
      simp
    · have vx : gvX x j c 21 d = x 21 d := by simp [gvX, up2_at, e]
      rw [vx, if_neg e, Nat.add_zero]
      refine ⟨hb.1, fun i hi => ?_⟩
      rw [hb.2 i hi, ex]
      simp [e]
  · have hb := h.g.2.2.2.2 d hd
    rw [en, ctGj]
    by_cases e : d = j
    · subst e
      have vx : gvX x d c 10 d = x 10 d + 1 := by simp [gvX, up2_at]
      rw [vx, if_pos rfl, hb.1, nI_1]
      exact ⟨rfl, by omega⟩
    · have vx : gvX x j c 10 d = x 10 d := by simp [gvX, up2_at, e]
      rw [vx, if_neg e, Nat.add_zero]
      exact hb
  · rw [en] at hg
    rw [y6] at e6; rw [y7] at e7
    by_cases e : g = y 20 2
    · rw [if_pos e] at e6 e7
      exact k5 v hv ⟨e6.symm, e7.symm⟩
    · rw [if_neg e] at e6 e7
      exact h.v.2.2.2.2.1 g v (by omega) hv e6 e7
  · have h8 := h.q d hd
    refine ⟨h8.1, fun q => ?_, fun q => ?_⟩
    · have h9 := h8.2.1 q
      show ct (qV m d (tmc y d)) (nV m) + ct (qG (giY y cp j c) d) (y 20 2 + 1) ≤ tn (x 22 (2 * d + tmc y d))
      rw [ctG]
      by_cases e : d = c
      · subst e; rw [if_pos rfl]; omega
      · rw [if_neg e]; omega
    · have h9 := h8.2.2 q
      show ct (qG (giY y cp j c) d) (y 20 2 + 1) = 0
      rw [ctG]
      by_cases e : d = c
      · subst e; exact absurd k1 q
      · rw [if_neg e]; omega
  · obtain ⟨i1, i2, i3, i4, i5, i6, i7⟩ := h.ci
    refine ⟨i1, i2, fun g hg => ?_, i4, i5, by rw [en]; omega, fun l hl => ?_⟩
    · rw [en] at hg
      rw [y6, y7]
      by_cases e : g = y 20 2
      · rw [if_pos e, if_pos e]; exact ⟨hj, hc⟩
      · rw [if_neg e, if_neg e]; exact i3 g (by omega)
    · match l, hl with
      | 0, hl => exact i7 0 hl
      | 1, hl => exact i7 1 hl
      | 2, _ => show y 20 2 + 1 ≤ cp ∧ cp ≤ 600; omega
theorem e_give (h : Rel m w x y z n) (j : Int32) : s_X7_give x y z j = s_X8_give m w j ∧ ∀ G A ad H, okG G A ad x y z j H → After G A ad (sx_X8_give m w j) w n H := by
  have hC := h.bC
  unfold s_X7_give s_X8_give sx_X8_give
  rw [is_j]
  by_cases c1 : s_X7_within j 0 19 = 0
  · rw [if_pos c1, if_pos c1, if_pos c1]
    refine ⟨rfl, fun G A ad H k => ?_⟩
    unfold okG at k; rw [if_pos c1] at k
    exact ⟨ad, x, y, z, rfl, k, h⟩
  rw [if_neg c1, if_neg c1, if_neg c1]
  obtain ⟨ej, hj⟩ := judge_tn c1
  rcases next_eq h hj with ⟨e1, e2⟩ | ⟨c, hc, e1, e2⟩
  · rw [e1, e2, if_pos rfl, if_pos (by decide)]
    refine ⟨rfl, fun G A ad H k => ?_⟩
    unfold okG at k; rw [if_neg c1, if_pos e1] at k
    exact ⟨ad, x, y, z, rfl, k, h⟩
  · rw [e1, e2, if_neg (by omega), if_neg (nI_pos (by omega)), Nat.add_sub_cancel]
    refine ⟨rfl, fun G A ad H k => ?_⟩
    unfold okG at k; rw [if_neg c1, if_neg (show ¬ i_X7_nextFor x y z (tn j) = 0 by omega), e1, Nat.add_sub_cancel] at k
    obtain ⟨ad', cp, k1, k2, k3, k4⟩ := k
    have hR := rel_give h hj hc (next_may h e1) k2 k3
    rw [← ej] at hR
    rw [h.eG]
    exact ⟨ad', _, _, z, k1, k4, hR⟩
end R13
