section R12
variable {m : XX} {w : Nat → Int64} {x : XX} {y : YY} {z : Nat → Int64} {n : Nat}
/-- the reference's row of gifts, filtered, is the class's, filtered -/
theorem gm_flt {y' : YY} {P : Int32 → Int32 → Bool} {Q : Nat × Nat → Bool} (h : RGm m y) (hb : y 20 2 ≤ 400) (hQ : ∀ g, g < y 20 2 → P (nI (y 6 g)) (nI (y 7 g)) = Q (y 6 g, y 7 g)) (e : gft y' = (gft y).filter Q) : RGm (gbF (fun X g => P (X 34 g) (X 35 g)) m) y' := by
  have hm := (gm_iff m y hb).mp h
  have eG : nG m = y 20 2 := by show tn (m 36 0) = _; rw [hm.1, tn_nI (by omega)]
  have hi := (gb_inv (m := m) (P := P) (y 20 2)).1
  have hflt : (mg m (y 20 2)).filter (fun p => P p.1 p.2) = (gft y').map pI := by
    rw [hm.2, e, List.filter_map]
    congr 1
    refine List.filter_congr (fun p hp => ?_)
    obtain ⟨g, hg, rfl⟩ := List.mem_map.mp hp
    exact hQ g (List.mem_range.mp hg)
  rw [hflt] at hi
  have hlen := congrArg List.length hi
  rw [mg_len, List.length_map, gft_len] at hlen
  have hle : y' 20 2 ≤ 400 := by
    have h1 := List.length_filter_le Q (gft y)
    rw [← e, gft_len, gft_len] at h1
    omega
  have e34 : ∀ g, gbF (fun X g => P (X 34 g) (X 35 g)) m 34 g = (gbS (fun X g => P (X 34 g) (X 35 g)) m (nG m)).1 34 g := fun g => by unfold gbF; rw [up2_o (by omega)]
  have e35 : ∀ g, gbF (fun X g => P (X 34 g) (X 35 g)) m 35 g = (gbS (fun X g => P (X 34 g) (X 35 g)) m (nG m)).1 35 g := fun g => by unfold gbF; rw [up2_o (by omega)]
  rw [gm_iff _ _ hle]
  refine ⟨?_, ?_⟩
  · rw [gbF_36, eG, hlen]
  · rw [← hi]
    unfold mg
    rw [← hlen]
    refine List.map_congr_left (fun g _ => ?_)
    rw [e34, e35, eG]
theorem rel_rest (h : Rel m w x y z n) {j : Nat} (hj : j < 20) (v : Int32) (hv : v = 0 ∨ v = 1) : Rel (up2 m 33 j v) w (up2 x 9 j v) y z n := by
  refine ⟨h.wz, ⟨h.a.1, h.a.2.1, h.a.2.2.1, h.a.2.2.2.1, h.a.2.2.2.2.1, fun q hq => ?_⟩, h.p, h.c, h.s, h.g, h.v, h.hh, h.q, h.ci, h.cl, h.y1, h.n512⟩
  have h9 := h.a.2.2.2.2.2 q hq
  by_cases e : q = j
  · subst e
    have e1 : up2 m 33 q v 33 q = v := by simp [up2_at]
    have e2 : up2 x 9 q v 9 q = v := by simp [up2_at]
    rw [e1, e2]
    exact ⟨h9.1, h9.2.1, h9.2.2.1, rfl, h9.2.2.2.2.1, hv⟩
  · have e1 : up2 m 33 j v 33 q = m 33 q := by simp [up2_at, e]
    have e2 : up2 x 9 j v 9 q = x 9 q := by simp [up2_at, e]
    rw [e1, e2]
    exact h9
theorem e_lay (h : Rel m w x y z n) {j : Nat} (hj : j < 20) : Rel (sx_X8_giveBack (up2 m 33 j 1) (nI j)) w (lrS x y j).1 (lrS x y j).2 z n := by
  have hG := h.bG
  have h1 := rel_rest h hj 1 (Or.inr rfl)
  rw [sx_giveBack_eq]
  have hX : RelX (up2 m 33 j 1) w (lrS x y j).1 (lrS x y j).2 z n := lrRel (y 20 2) (up2 x 9 j 1, y) (Nat.le_refl _) h1.xx
  refine RelX.rel (RelX.cg (fun k a b c => gbF_ne a b c) hX) ?_
  have e : gft (lrS x y j).2 = (gft y).filter (fun p => !decide (p.1 = j)) := by
    have := gft_lr (j := j) (y 20 2) (up2 x 9 j 1, y) (Nat.le_refl _)
    rw [show ((up2 x 9 j 1, y) : XX × YY).2 = y from rfl] at this
    have l := gft_len y
    rw [List.take_of_length_le (by omega), List.drop_of_length_le (by omega), List.append_nil] at this
    exact this
  exact gm_flt (P := fun a _ => decide (¬ a = nI j)) h1.gm hG (fun g hg => by
    have b := h.ci.2.2.1 g hg
    show decide (¬ nI (y 6 g) = nI j) = !decide (y 6 g = j)
    by_cases q : y 6 g = j
    · rw [q]; simp
    · rw [decide_eq_true (show ¬ nI (y 6 g) = nI j from fun k => q ((nIE (by omega) (by omega)).mp k)), decide_eq_false q]; rfl) e
theorem e_rd (h : Rel m w x y z n) : Rel (sx_X8_lookAtJudges m) w (rdS x y).1 (rdS x y).2 z n := by
  have key : ∀ k, k ≤ 20 → Rel (lajS m k) w (itrG rdF (x, y) k).1 (itrG rdF (x, y) k).2 z n := by
    intro k
    induction k with
    | zero => intro _; exact h
    | succ k ih =>
      intro hk
      have ih := ih (by omega)
      show Rel (if (s_X8_doubt (lajS m k) (nI k) 0) < 5 then lajS m k else if ((s_X8_doubt (lajS m k) (nI k) 1) * 100) ≤ ((lajS m k 7 0) * (s_X8_doubt (lajS m k) (nI k) 0)) then lajS m k else sx_X8_giveBack (up2 (lajS m k) 33 k 1) (nI k)) w (rdF k (itrG rdF (x, y) k)).1 (rdF k (itrG rdF (x, y) k)).2 z n
      generalize itrG rdF (x, y) k = s at ih ⊢
      obtain ⟨x1, y1⟩ := s
      have ih : Rel (lajS m k) w x1 y1 z n := ih
      rw [← e_asked ih (by omega), ← e_alone ih (by omega), ih.a.2.2.2.2.1.1]
      by_cases c1 : s_X7_askedOf x1 y1 k < 5
      · rw [if_pos c1, rdF_a c1]; exact ih
      · rw [if_neg c1]
        by_cases c2 : (s_X7_stoodAlone x1 y1 k) * 100 ≤ (x1 1 0) * (s_X7_askedOf x1 y1 k)
        · rw [if_pos c2, rdF_b c1 c2]; exact ih
        · rw [if_neg c2, rdF_c c1 c2]; exact e_lay ih (by omega)
  exact key 20 (Nat.le_refl _)
theorem e_rest (h : Rel m w x y z n) (j is : Int32) : s_X7_rest x j is = s_X8_rest m j is ∧ Rel (sx_X8_rest m j is) w (sx_X7_rest x y j is) (sy_X7_rest x y j is) z n := by
  unfold s_X7_rest s_X8_rest sx_X8_rest sx_X7_rest sy_X7_rest
  rw [wi_e, is_j]
  by_cases c1 : s_X7_within j 0 19 = 0
  · rw [if_pos c1, if_pos c1, if_pos c1, if_pos c1, if_pos c1]; exact ⟨rfl, h⟩
  · rw [if_neg c1, if_neg c1, if_neg c1, if_neg c1, if_neg c1]
    by_cases c2 : s_X7_within is 0 1 = 0
    · rw [if_pos c2, if_pos c2, if_pos c2, if_pos c2, if_pos c2]; exact ⟨rfl, h⟩
    · rw [if_neg c2, if_neg c2, if_neg c2, if_neg c2, if_neg c2]
      obtain ⟨ej, hj⟩ := judge_tn c1
      refine ⟨by rw [(h.a.2.2.2.2.2 _ hj).2.2.2.1]; rfl, ?_⟩
      by_cases c3 : is = 1
      · rw [if_pos c3, if_pos c3, if_pos c3, if_pos c3]
        have := e_lay h hj
        rw [← ej] at this
        exact this
      · rw [if_neg c3, if_neg c3, if_neg c3, if_neg c3]
        exact rel_rest h hj 0 (Or.inl rfl)
theorem e_known (h : Rel m w x y z n) (c g : Int32) : s_X7_known x y c g = s_X8_known m c g ∧ Rel (sx_X8_known m c g) w (sx_X7_known x y c g) (sy_X7_known x y c g) z n := by
  unfold s_X7_known s_X8_known sx_X8_known sx_X7_known sy_X7_known
  rw [wi_e, is_c h]
  by_cases c1 : s_X7_within c 0 ((nI (y 20 1)) - 1) = 0
  · rw [if_pos c1, if_pos c1, if_pos c1, if_pos c1, if_pos c1]; exact ⟨rfl, h⟩
  · rw [if_neg c1, if_neg c1, if_neg c1, if_neg c1, if_neg c1]
    by_cases c2 : s_X7_within g (-1) 1 = 0
    · rw [if_pos c2, if_pos c2, if_pos c2, if_pos c2, if_pos c2]; exact ⟨rfl, h⟩
    · rw [if_neg c2, if_neg c2, if_neg c2, if_neg c2, if_neg c2]
      have hc := (case_tn h c1).2
      refine ⟨(h.c.2 _ hc).2.2.2.2.2.2.1.symm, e_rd ?_⟩
      have hg : g = -1 ∨ g = 0 ∨ g = 1 := by
        have r := wi_r c2
        have a1 := Int32.le_iff_toInt_le.mp r.1
        have a2 := Int32.le_iff_toInt_le.mp r.2
        have t1 : (-1 : Int32).toInt = -1 := rfl
        have t2 : (1 : Int32).toInt = 1 := rfl
        rw [t1] at a1; rw [t2] at a2
        rcases (show g.toInt = -1 ∨ g.toInt = 0 ∨ g.toInt = 1 by omega) with q | q | q
        · exact Or.inl (Int32.toInt_inj.mp q)
        · exact Or.inr (Or.inl (Int32.toInt_inj.mp q))
        · exact Or.inr (Or.inr (Int32.toInt_inj.mp q))
      refine ⟨h.wz, h.a, h.p, ⟨h.c.1, fun k hk => ?_⟩, h.s, h.g, h.v, h.hh, h.q, h.ci, h.cl, h.y1, h.n512⟩
      have h8 := h.c.2 k hk
      by_cases e : k = tn c
      · subst e
        have e1 : up2 m 22 (tn c) g 22 (tn c) = g := by simp [up2_at]
        have e2 : up2 x 20 (tn c) g 20 (tn c) = g := by simp [up2_at]
        rw [e1, e2]
        exact ⟨h8.1, h8.2.1, h8.2.2.1, h8.2.2.2.1, h8.2.2.2.2.1, h8.2.2.2.2.2.1, rfl, h8.2.2.2.2.2.2.2.1, h8.2.2.2.2.2.2.2.2.1, h8.2.2.2.2.2.2.2.2.2.1, hg⟩
      · have e1 : up2 m 22 (tn c) g 22 k = m 22 k := by simp [up2_at, e]
        have e2 : up2 x 20 (tn c) g 20 k = x 20 k := by simp [up2_at, e]
        rw [e1, e2]
        exact h8
theorem e_undo (h : Rel m w x y z n) : s_X7_undo y = s_X8_undo m ∧ Rel (sx_X8_undo m) w (sx_X7_undo x y) (sy_X7_undo y) z n := by
  have hG := h.bG
  unfold s_X7_undo s_X8_undo sx_X8_undo sx_X7_undo sy_X7_undo
  rw [h.g.1, h.eG]
  have e0 : (nI (y 20 2) = 0) ↔ y 20 2 = 0 := by rw [show (0 : Int32) = nI 0 from rfl]; exact nIE (by omega) (by decide)
  have e1 : (0 ≤ nI (y 20 2) - 1) ↔ 0 < y 20 2 := by
    refine ⟨fun q => nn_sub (by omega) q, fun q => ?_⟩
    rw [show nI (y 20 2) - 1 = nI (y 20 2 - 1) from pk_sub (a := y 20 2) (b := 1) q]
    exact nI_pos' (by omega)
  by_cases c : 0 < y 20 2
  · rw [if_pos (e1.mpr c), if_pos (e1.mpr c), if_pos (e1.mpr c), if_neg (fun q => by have := e0.mp q; omega), if_neg (fun q => by have := e0.mp q; omega)]
    refine ⟨(h.g.2.1 _ (by omega)).2.symm, ?_⟩
    have hX := tbRel h.xx (i := y 20 2 - 1) (by omega)
    refine RelX.rel (RelX.cg (fun k _ _ c => up2_ne c) hX) ⟨?_, fun g hg => ?_⟩
    · show nI (y 20 2) - 1 = nI (y 20 2 - 1)
      exact pk_sub (a := y 20 2) (b := 1) c
    · have hg : g < y 20 2 - 1 := hg
      have es : shf (y 20 2 - 1) 6 g = g := by unfold shf; rw [if_pos rfl, if_pos hg]
      show m 34 g = nI (y 6 (shf (y 20 2 - 1) 6 g)) ∧ m 35 g = nI (y 7 (shf (y 20 2 - 1) 6 g))
      rw [es]
      exact h.g.2.1 g (by omega)
  · rw [if_neg (fun q => c (e1.mp q)), if_neg (fun q => c (e1.mp q)), if_neg (fun q => c (e1.mp q)), if_pos (e0.mpr (by omega)), if_pos (e0.mpr (by omega))]
    exact ⟨rfl, h⟩
end R12
