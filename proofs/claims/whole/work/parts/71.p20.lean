section R20
variable {m : XX} {w : Nat → Int64} {x : XX} {y : YY} {z : Nat → Int64} {n : Nat}
theorem rel_m {m' : XX} (e : ∀ k, k ≠ 43 → k ≠ 44 → k ≠ 45 → k ≠ 46 → m' k = m k) (h : Rel m w x y z n) : Rel m' w x y z n := by
  have e2 : m' = fun k => if k = 43 then m' 43 else if k = 44 then m' 44 else if k = 45 then m' 45 else if k = 46 then m' 46 else m k := by
    funext k
    by_cases a : k = 43
    · rw [if_pos a, a]
    · by_cases b : k = 44
      · rw [if_neg a, if_pos b, b]
      · by_cases c : k = 45
        · rw [if_neg a, if_neg b, if_pos c, c]
        · by_cases d : k = 46
          · rw [if_neg a, if_neg b, if_neg c, if_pos d, d]
          · rw [if_neg a, if_neg b, if_neg c, if_neg d]; exact e k a b c d
  rw [e2]
  exact h
theorem rel_x {x' : XX} (e : ∀ k, k < 39 ∨ 44 < k → x' k = x k) (h : Rel m w x y z n) : Rel m w x' y z n := by
  have e2 : x' = fun k => if k = 39 then x' 39 else if k = 40 then x' 40 else if k = 41 then x' 41 else if k = 42 then x' 42 else if k = 43 then x' 43 else if k = 44 then x' 44 else x k := by
    funext k
    by_cases a : k < 39 ∨ 44 < k
    · rw [if_neg (by omega), if_neg (by omega), if_neg (by omega), if_neg (by omega), if_neg (by omega), if_neg (by omega)]; exact e k a
    · rcases (show k = 39 ∨ k = 40 ∨ k = 41 ∨ k = 42 ∨ k = 43 ∨ k = 44 by omega) with q | q | q | q | q | q <;> subst q <;> rfl
  rw [e2]
  exact h
theorem e_writer (h : Rel m w x y z n) (wr what : Int32) : s_X7_writer x y wr what = s_X8_writer m wr what ∧ Rel (sx_X8_writer m wr what) w (sx_X7_writer x y wr what) y z n := by
  unfold s_X7_writer s_X8_writer sx_X8_writer sx_X7_writer
  rw [wi_e, wi_e]
  by_cases c1 : s_X7_within wr 0 39 = 0
  · rw [if_pos c1, if_pos c1, if_pos c1, if_pos c1]; exact ⟨rfl, h⟩
  rw [if_neg c1, if_neg c1, if_neg c1, if_neg c1]
  by_cases c2 : s_X7_within what 0 6 = 0
  · have ne : ∀ k : Int32, ¬ s_X7_within k 0 6 = 0 → what ≠ k := fun k a b => a (by rw [← b]; exact c2)
    have n0 := ne 0 (by decide); have n1 := ne 1 (by decide); have n2 := ne 2 (by decide); have n3 := ne 3 (by decide)
    have n4 := ne 4 (by decide); have n5 := ne 5 (by decide); have n6 := ne 6 (by decide)
    rw [if_pos c2, if_pos c2, if_neg n0, if_neg n0, if_neg n1, if_neg n1, if_neg n2, if_neg n2, if_neg n3, if_neg n3, if_neg n4, if_neg n4, if_neg n5, if_neg n5, if_neg n6, if_neg n6]
    exact ⟨rfl, h⟩
  rw [if_neg c2, if_neg c2]
  have hL := lad_all h (au := wr) (lst := 0) (fun k e => absurd e (by omega)) (y 20 0) (Nat.le_refl _)
  have eX : sx_X8_findStrikes m wr = fsP m wr (y 20 0) := by unfold sx_X8_findStrikes; rw [h.eP]
  have exs : sx_clL x y wr 0 = (clS x y wr 0 (y 20 0)).1 := rfl
  rw [eX, exs]
  generalize hXX : fsP m wr (y 20 0) = X at *
  generalize clS x y wr 0 (y 20 0) = s at *
  obtain ⟨xs, fl⟩ := s
  obtain ⟨i1, i2, i3, i4, i5⟩ := hL
  have i1 : ∀ k, k < 39 ∨ 44 < k → xs k = x k := i1
  have hfl : fl = false := by
    cases fl
    · rfl
    · obtain ⟨k, hk, -⟩ := i5 rfl; omega
  obtain ⟨⟨N, F, hl⟩, -⟩ := i4 hfl
  have hl : Lad X xs (tn (x 37 0)) (Fut x y (y 20 0)) N F := hl
  have rX : Rel X w x y z n := rel_m i2.1 h
  have rS : Rel X w xs y z n := rel_x i1 rX
  have hN : tn (X 46 0) = N := by rw [hl.2.2.1, tn_nI (by have := hl.1; omega)]
  have ra := h.a
  have d1 := tn_of (k := 10000) (by decide) (Int32.le_trans (by decide) ra.2.2.2.1.2.2.1.1) ra.2.2.2.1.2.2.1.2
  have d3 := tn_of (k := 1000000) (by decide) ra.1.2.1 ra.1.2.2
  have one : 1 ≤ tn (x 37 0) := by
    have a := ra.2.2.2.1.2.2.1.1
    rw [d1.1, show (1 : Int32) = nI 1 from rfl, nI_leI (by decide) (by omega)] at a; exact a
  show (if what = 0 then hdA xs (xs 0 0) else _) = _ ∧ Rel X w (if what = 0 then hdX xs (xs 0 0) else if what = 1 then xs else if what = 2 then xs else if what = 3 then x else if what = 4 then x else if what = 5 then x else if what = 6 then xs else x) y z n
  rw [itd_3, itd_4, itd_5, hN]
  have hP := h.bP; have hC := h.bC
  by_cases w0 : what = 0
  · rw [if_pos w0, if_pos w0, if_pos w0, i1 0 (by omega), d3.1]
    obtain ⟨-, -, f3, -⟩ := lad_hd hl ⟨one, d1.2⟩ (by rw [i1 37 (by omega)]; exact d1.1) (Or.inl rfl) d3.2
    refine ⟨?_, rel_x (x := xs) (fun k hk => ?_) rS⟩
    · rw [f3, show (0 : Int32) + nI (ct (q3 X) N) = nI (ct (q3 X) N) from Int32.zero_add _]
      congr 1
      refine ct_cg (fun i hi => ?_)
      have b := hl.2.2.2.2.2.1 i hi
      unfold hq q3
      rw [rX.a.2.2.2.1.1, rX.a.1.1, b.2.1]
      have e1 : (nI (tn (X 44 i)) + x 37 0 ≤ x 0 0) ↔ tn (X 44 i) + tn (x 37 0) ≤ tn (x 0 0) := by
        rw [nI_addE rfl d1.1]
        conv => lhs; rw [d3.1]
        exact nI_leI (by omega) (by omega)
      simp only [e1, Nat.not_le]
      rw [tn_nI (by omega)]
    · funext i
      unfold hdX
      exact up2_o (by omega)
  rw [if_neg w0, if_neg w0, if_neg w0]
  by_cases w1 : what = 1
  · rw [if_pos w1, if_pos w1, if_pos w1]
    refine ⟨?_, rS⟩
    show s_X7_asNumber (xs 42 0) = _
    rw [hl.2.2.2.2.2.2.2.2.1]
    unfold s_X7_asNumber
    cases hasv (q4 X) N <;> rfl
  rw [if_neg w1, if_neg w1, if_neg w1]
  by_cases w2 : what = 2
  · rw [if_pos w2, if_pos w2, if_pos w2]
    refine ⟨?_, rS⟩
    show s_X7_asNumber (if xs 43 0 < 0 then 0 else 1) = _
    rw [hl.2.2.2.2.2.2.2.2.2]
    unfold s_X7_asNumber
    split <;> split <;> first | rfl | (rename_i a b; exact absurd a (by decide)) | skip
    all_goals simp_all
  rw [if_neg w2, if_neg w2, if_neg w2]
  by_cases w3 : what = 3
  · rw [if_pos w3, if_pos w3, if_pos w3]
    refine ⟨?_, rX⟩
    unfold s_X7_timesWarned
    rw [h.eC]
    refine itr_cg _ (fun i a hi => ?_)
    have rc := rX.c.2 i hi
    have ci := h.ci.1 i hi
    unfold f_X7_timesWarned_4_2 f_X8_writer_180_6
    rw [rc.1, rc.2.1, tn_nI (by omega), tn_nI (by omega), (rX.p.2.1 (y 2 i) (by omega)).1, stO rX hi, (rX.a.2.1 (y 3 i) (by omega)).2.2.1]
    have e1 : ∀ v : Int32, (v < 1) ↔ v ≤ 0 := fun v => by
      rw [Int32.lt_iff_toInt_lt, Int32.le_iff_toInt_le, show (1 : Int32).toInt = 1 from rfl, show (0 : Int32).toInt = 0 from rfl]; omega
    simp only [e1]
    unfold s_X7_asNumber
    congr 1
    by_cases g1 : x 12 (y 2 i) = wr
    · simp only [if_pos g1]
      by_cases g2 : s_X0_guiltStands x i = 0
      · simp only [if_pos g2]; rfl
      · simp only [if_neg g2]
        by_cases g3 : x 5 (y 3 i) ≤ 0
        · simp only [if_pos g3]; rfl
        · simp only [if_neg g3]; rfl
    · simp only [if_neg g1]; rfl
  rw [if_neg w3, if_neg w3, if_neg w3]
  by_cases w4 : what = 4
  · rw [if_pos w4, if_pos w4, if_pos w4]
    refine ⟨?_, rX⟩
    unfold s_X7_postsOf
    rw [h.eP]
    refine itr_cg _ (fun i a hi => ?_)
    unfold f_X7_postsOf_5_3 f_X8_writer_254_7
    rw [(rX.p.2.1 i hi).1, if_pos rfl]
    congr 1
    by_cases e : x 12 i = wr
    · rw [if_pos e]; rfl
    · rw [if_neg e]; rfl
  rw [if_neg w4, if_neg w4, if_neg w4]
  by_cases w5 : what = 5
  · rw [if_pos w5, if_pos w5, if_pos w5]
    refine ⟨?_, rX⟩
    unfold s_X7_postsOf
    rw [h.eP]
    refine itr_cg _ (fun i a hi => ?_)
    unfold f_X7_postsOf_5_3 f_X8_writer_254_8
    rw [(rX.p.2.1 i hi).1, if_neg (show ¬ (1 : Int32) = 0 by decide), ← e_hid rX hi]
    congr 1
    by_cases e : x 12 i = wr
    · rw [if_pos e]
      by_cases e2 : s_X5_isHidden x y i = 0
      · rw [if_pos e2]; rfl
      · rw [if_neg e2]; rfl
    · rw [if_neg e]; rfl
  rw [if_neg w5, if_neg w5, if_neg w5]
  have w6 : what = 6 := by
    have r := wi_r c2
    have a1 := Int32.le_iff_toInt_le.mp r.1
    have a2 := Int32.le_iff_toInt_le.mp r.2
    rw [show (0 : Int32).toInt = 0 from rfl] at a1
    rw [show (6 : Int32).toInt = 6 from rfl] at a2
    have ne : ∀ k : Int32, what ≠ k → what.toInt ≠ k.toInt := fun k a b => a (Int32.toInt_inj.mp b)
    have n0 := ne 0 w0; have n1 := ne 1 w1; have n2 := ne 2 w2; have n3 := ne 3 w3; have n4 := ne 4 w4; have n5 := ne 5 w5
    rw [show (0 : Int32).toInt = 0 from rfl] at n0
    rw [show (1 : Int32).toInt = 1 from rfl] at n1
    rw [show (2 : Int32).toInt = 2 from rfl] at n2
    rw [show (3 : Int32).toInt = 3 from rfl] at n3
    rw [show (4 : Int32).toInt = 4 from rfl] at n4
    rw [show (5 : Int32).toInt = 5 from rfl] at n5
    exact Int32.toInt_inj.mp (show what.toInt = (6 : Int32).toInt by rw [show (6 : Int32).toInt = 6 from rfl]; omega)
  rw [if_pos w6, if_pos w6]
  exact ⟨hl.2.2.2.2.2.2.2.2.2, rS⟩
theorem e_level (h : Rel m w x y z n) (c : Int32) : s_X7_level x y c = s_X8_level m c ∧ Rel (sx_X8_level m c) w (sx_X7_level x y c) y z n := by
  unfold s_X7_level s_X8_level sx_X8_level sx_X7_level
  rw [is_c h]
  by_cases c1 : s_X7_within c 0 ((nI (y 20 1)) - 1) = 0
  · rw [if_pos c1, if_pos c1, if_pos c1, if_pos c1]; exact ⟨rfl, h⟩
  rw [if_neg c1, if_neg c1, if_neg c1, if_neg c1]
  obtain ⟨ec, hc⟩ := case_tn h c1
  generalize tn c = cN at *
  have hC := h.bC
  have ci := h.ci.1 cN hc
  have hP := h.bP
  have eau : m 8 (tn (m 13 cN)) = x 12 (y 2 cN) := by rw [m13 h hc]; exact (h.p.2.1 _ ci.1).1
  rw [eau]
  have fq : ∀ k, k < y 20 1 → fsQ m (y 20 0) 0 k = true := fun k hk => (fsQ_iff h hk).mpr (Or.inl (h.ci.1 k hk).1)
  have eX : sx_X8_findStrikes m (x 12 (y 2 cN)) = fsP m (x 12 (y 2 cN)) (y 20 0) := by unfold sx_X8_findStrikes; rw [h.eP]
  rw [eX]
  by_cases c2 : s_X0_bringsStrike x y cN = 0
  · rw [if_pos c2, if_pos c2]
    obtain ⟨i1, i2, i3, i4, i5⟩ := lad_all h (au := x 12 (y 2 cN)) (lst := 0) (fun k e => absurd e (by omega)) (y 20 0) (Nat.le_refl _)
    generalize fsP m (x 12 (y 2 cN)) (y 20 0) = X at *
    refine ⟨?_, rel_m i2.1 h⟩
    rw [if_neg]
    intro q
    obtain ⟨i, hi, hq⟩ := hasv_iff.mp q
    obtain ⟨k, k1, k2, k3, k4⟩ := i3 i hi
    unfold q_X8_level_27 at hq
    by_cases e : X 43 i = nI cN
    · rw [k2, nIE (by omega) (by omega)] at e
      rw [e] at k4; exact k4 c2
    · rw [if_neg e] at hq; cases hq
  · rw [if_neg c2, if_neg c2]
    obtain ⟨i1, i2, i3, i4, i5⟩ := lad_all h (au := x 12 (y 2 cN)) (lst := cN + 1) (fun k e => by rw [← show cN = k by omega]; exact c2) (y 20 0) (Nat.le_refl _)
    have exs : sx_clL x y (x 12 (y 2 cN)) (cN + 1) = (clS x y (x 12 (y 2 cN)) (cN + 1) (y 20 0)).1 := rfl
    rw [exs]
    generalize fsP m (x 12 (y 2 cN)) (y 20 0) = X at *
    generalize clS x y (x 12 (y 2 cN)) (cN + 1) (y 20 0) = s at *
    refine ⟨?_, rel_x i1 (rel_m i2.1 h)⟩
    have hs : s.2 = true := by
      by_cases f : s.2 = true
      · exact f
      · have f2 : s.2 = false := by simpa using f
        have := (i4 f2).2 cN rfl hc rfl
        rw [fq cN hc] at this; cases this
    obtain ⟨k, hk, i, h1, h2, h3, h4⟩ := i5 hs
    have ek : k = cN := by omega
    subst ek
    have hh : hasv (q_X8_level_27 X k) (tn (X 46 0)) = true := hasv_yes h1 (by unfold q_X8_level_27; rw [if_pos h2])
    rw [if_pos hh, ← h3]
    have l := fstv_q hh
    have ei : fstv (q_X8_level_27 X k) (tn (X 46 0)) = i := fstv_eq h1 (by
      rcases hb : hasv (q_X8_level_27 X k) i with _ | _
      · rfl
      · obtain ⟨j, hj, hq⟩ := hasv_iff.mp hb
        unfold q_X8_level_27 at hq
        rw [if_neg (h4 j hj)] at hq; cases hq) (by unfold q_X8_level_27; rw [if_pos h2])
    rw [ei]
end R20
