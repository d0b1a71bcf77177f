section R7
variable {m : XX} {w : Nat → Int64} {x : XX} {y : YY} {z : Nat → Int64} {n : Nat}
theorem ct_ins {r : Nat → Bool} {c0 : Nat} (h0 : r c0 = false) : ∀ {M : Nat}, ct (fun c => r c || decide (c = c0)) M = ct r M + (if c0 < M then 1 else 0)
  | 0 => by rw [if_neg (by omega)]; rfl
  | M + 1 => by
    show ct (fun c => r c || decide (c = c0)) M + (if (r M || decide (M = c0)) = true then 1 else 0) = (ct r M + (if r M = true then 1 else 0)) + (if c0 < M + 1 then 1 else 0)
    rw [ct_ins h0]
    by_cases e : M = c0
    · subst e
      rw [h0, if_neg (by omega), if_pos (by simp), if_neg (by decide), if_pos (by omega)]
    · have e1 : (r M || decide (M = c0)) = r M := by rw [decide_eq_false e, Bool.or_false]
      rw [e1]
      by_cases e2 : c0 < M
      · rw [if_pos e2, if_pos (show c0 < M + 1 by omega)]; omega
      · rw [if_neg e2, if_neg (show ¬ c0 < M + 1 by omega), Nat.add_zero, Nat.add_zero]
/-- a count of things by where they lie, one at a place at most -/
theorem ct_fib {q : Nat → Bool} {f : Nat → Nat} {M : Nat} : ∀ {N : Nat}, (∀ v, v < N → q v = true → f v < M) → (∀ v v', v < N → v' < N → q v = true → q v' = true → f v = f v' → v = v') → ct q N = ct (fun c => hasv (fun v => q v && decide (f v = c)) N) M
  | 0, _, _ => (ct_0.mpr (fun _ _ => rfl)).symm
  | N + 1, h1, h2 => by
    have ih := ct_fib (q := q) (f := f) (M := M) (N := N) (fun v hv => h1 v (by omega)) (fun v v' a b => h2 v v' (by omega) (by omega))
    show ct q N + (if q N = true then 1 else 0) = ct (fun c => hasv (fun v => q v && decide (f v = c)) N || (q N && decide (f N = c))) M
    rw [ih]
    by_cases e : q N = true
    · rw [if_pos e]
      have h0 : (fun c => hasv (fun v => q v && decide (f v = c)) N) (f N) = false := by
        show hasv (fun v => q v && decide (f v = f N)) N = false
        rcases hb : hasv (fun v => q v && decide (f v = f N)) N with _ | _
        · rfl
        · obtain ⟨v, hv, k⟩ := hasv_iff.mp hb
          simp only [Bool.and_eq_true, decide_eq_true_eq] at k
          exact absurd (h2 v N (by omega) (by omega) k.1 e k.2) (by omega)
      have h3 := ct_ins (r := fun c => hasv (fun v => q v && decide (f v = c)) N) (c0 := f N) h0 (M := M)
      rw [if_pos (h1 N (by omega) e)] at h3
      rw [← h3]
      refine ct_cg (fun c _ => ?_)
      rw [e, Bool.true_and]
      congr 1
      exact decide_eq_decide.mpr ⟨fun k => k.symm, fun k => k.symm⟩
    · rw [if_neg e]
      refine ct_cg (fun c _ => ?_)
      have e2 : q N = false := by simpa using e
      show _ = (_ || (q N && _))
      rw [e2, Bool.false_and, Bool.or_false]
theorem ovr (h : Rel m w x y z n) {c t : Nat} (hc : c < y 20 1) (ht : t < 2) (hl : t = 0 ∨ y 4 c ≠ 0) : (x 28 (2 * c + t) = 0 ∧ m 23 (2 * c + t) = -1) ∨ (x 28 (2 * c + t) = 1 ∧ m 23 (2 * c + t) = fnd x (2 * c + t)) := by
  rcases (show t = 0 ∨ t = 1 by omega) with q | q <;> subst q
  · rw [Nat.add_zero]
    rcases h.s c hc with ⟨-, b, o, t, r, -⟩ | ⟨-, b, o, t, r, -⟩ | ⟨-, b, o, o2, t, r, -⟩ | ⟨-, b, o, o2, t, r, -⟩
    · exact Or.inl ⟨o, r⟩
    · exact Or.inr ⟨o, r⟩
    · exact Or.inr ⟨o, r⟩
    · exact Or.inr ⟨o, r⟩
  · have hl : y 4 c ≠ 0 := by rcases hl with q | q; cases q; exact q
    rcases h.s c hc with ⟨-, b, -⟩ | ⟨-, b, -⟩ | ⟨-, b, o, o2, t, r, r2, -⟩ | ⟨-, b, o, o2, t, r, r2, -⟩
    · exact absurd b hl
    · exact absurd b hl
    · exact Or.inl ⟨o2, r2⟩
    · exact Or.inr ⟨o2, r2⟩
theorem fnd01 (x : XX) (h : Nat) : fnd x h = 0 ∨ fnd x h = 1 := by unfold fnd; split; exact Or.inl rfl; exact Or.inr rfl
/-- what is held against a vote -/
theorem agn (h : Rel m w x y z n) {v : Nat} (hv : v < nV m) : s_X8_against m v = (if x 20 (vC m v) = -1 then m 23 (2 * vC m v + vT m v) else x 20 (vC m v)) := by
  have b := h.v.2.2.1 v hv
  have rc := h.c.2 _ b.2.1.2
  unfold s_X8_against
  show (if m 22 (vC m v) < 0 then _ else m 22 (vC m v)) = _
  rw [rc.2.2.2.2.2.2.1]
  rcases rc.2.2.2.2.2.2.2.2.2.2 with q | q | q <;> rw [q] <;> rfl
def vval (m : XX) (v : Nat) : Int32 := if s_X8_against m v < 0 then 0 else if m 40 v = s_X8_against m v then 1 else 2
theorem st1 (h : Rel m w x y z n) {v : Nat} (hv : v < nV m) : s_X2_standAgainst x (2 * vC m v + vT m v) (vJ m v) (x 20 (vC m v)) = vval m v := by
  obtain ⟨⟨-, bj⟩, ⟨-, bc⟩, ⟨-, bt2⟩, b4, b5⟩ := h.v.2.2.1 v hv
  have rc := h.c.2 _ bc
  have hl : vT m v = 0 ∨ y 4 (vC m v) ≠ 0 := by
    rcases (show vT m v = 0 ∨ vT m v = 1 by omega) with q | q
    · exact Or.inl q
    · exact Or.inr (b4 q)
  have hnv : ¬ s_X2_hasVoter x (2 * vC m v + vT m v) (vJ m v) = 0 := fun q => (vtr h bj bc bt2 hl).mp q v hv ⟨rfl, rfl, rfl⟩
  have hb := (h.hh _ _ bc bt2 hl).2.2.1 (vJ m v) (by omega)
  have hs : (if ((x 25 (2 * vC m v + vT m v)) &&& ((1 : Int32) <<< (nI (vJ m v) &&& 31))) = 0 then 0 else 1 : Int32) = m 40 v := by
    have e : ((x 25 (2 * vC m v + vT m v)) &&& ((1 : Int32) <<< (nI (vJ m v) &&& 31))) = 0 ↔ bt (x 25 (2 * vC m v + vT m v)) (vJ m v) = false := and_bit (by omega)
    by_cases q : bt (x 25 (2 * vC m v + vT m v)) (vJ m v) = true
    · obtain ⟨v', g1, g2, g3, g4, g5⟩ := hb.mp q
      have ev := h.v.2.2.2.1 v' v g1 hv g4 g2
      rw [if_neg (fun k => by rw [e.mp k] at q; cases q), ← ev, g5]
    · rw [if_pos (e.mpr (by simpa using q))]
      rcases b5 with r | r
      · exact r.symm
      · exact absurd (hb.mpr ⟨v, hv, rfl, rfl, rfl, r⟩) q
  have ho := ovr h bc bt2 hl
  unfold s_X2_standAgainst vval
  rw [if_neg hnv, hs, agn h hv]
  have ef : s_X2_findsGuilty x (2 * vC m v + vT m v) = fnd x (2 * vC m v + vT m v) := rfl
  rw [ef]
  rcases rc.2.2.2.2.2.2.2.2.2.2 with q | q | q
  · rw [q, if_pos rfl, if_pos rfl, if_pos rfl]
    rcases ho with ⟨o1, o2⟩ | ⟨o1, o2⟩
    · rw [o1, o2, if_pos rfl, if_pos (by decide)]
    · rw [o1, o2, if_neg (by decide)]
      rcases fnd01 x (2 * vC m v + vT m v) with r | r <;> rw [r] <;> rw [if_neg (show ¬ _ < (0 : Int32) by decide)]
  · rw [q]; simp
  · rw [q]; simp
theorem st0 (h : Rel m w x y z n) {c t j : Nat} (hj : j < 20) (hc : c < y 20 1) (ht : t < 2) (hl : t = 0 ∨ y 4 c ≠ 0) (k : ∀ v, v < nV m → ¬ (vJ m v = j ∧ vC m v = c ∧ vT m v = t)) (kg : Int32) : s_X2_standAgainst x (2 * c + t) j kg = 0 := by
  unfold s_X2_standAgainst
  rw [if_pos ((vtr h hj hc ht hl).mpr k)]
theorem stA (h : Rel m w x y z n) {v : Nat} (hv : v < nV m) : s_X0_standOf x y (vC m v) (vJ m v) = vval m v := by
  obtain ⟨⟨-, bj⟩, ⟨-, bc⟩, ⟨-, bt2⟩, b4, b5⟩ := h.v.2.2.1 v hv
  have h1 := st1 h hv
  have uq : ∀ t, t ≠ vT m v → ∀ u, u < nV m → ¬ (vJ m u = vJ m v ∧ vC m u = vC m v ∧ vT m u = t) := fun t ht u hu q => by
    have := h.v.2.2.2.1 u v hu hv q.1 q.2.1
    subst this
    exact ht q.2.2.symm
  unfold s_X0_standOf
  rcases (show vT m v = 0 ∨ vT m v = 1 by omega) with q | q
  · rw [q, Nat.add_zero] at h1
    rw [h1]
    by_cases e : vval m v = 0
    · rw [if_pos e]
      by_cases e4 : y 4 (vC m v) = 0
      · rw [if_pos e4]
      · rw [if_neg e4, st0 h bj bc (t := 1) (by decide) (Or.inr e4) (uq 1 (by omega)), e]
    · rw [if_neg e]
  · rw [q] at h1
    have h0 := st0 h bj bc (t := 0) (by decide) (Or.inl rfl) (uq 0 (by omega)) (x 20 (vC m v))
    rw [Nat.add_zero] at h0
    rw [h0, if_pos rfl, if_neg (b4 q), h1]
theorem stB (h : Rel m w x y z n) {c j : Nat} (hj : j < 20) (hc : c < y 20 1) (k : ∀ v, v < nV m → ¬ (vJ m v = j ∧ vC m v = c)) : s_X0_standOf x y c j = 0 := by
  unfold s_X0_standOf
  have h0 := st0 h hj hc (t := 0) (by decide) (Or.inl rfl) (fun v hv q => k v hv ⟨q.1, q.2.1⟩) (x 20 c)
  rw [Nat.add_zero] at h0
  rw [h0, if_pos rfl]
  by_cases e4 : y 4 c = 0
  · rw [if_pos e4]
  · rw [if_neg e4, st0 h hj hc (t := 1) (by decide) (Or.inr e4) (fun v hv q => k v hv ⟨q.1, q.2.1⟩)]
/-- counts over cases are counts over votes -/
theorem dbt (h : Rel m w x y z n) {j : Nat} (hj : j < 20) (p : Int32 → Bool) (hp : p 0 = false) : ct (fun c => p (s_X0_standOf x y c j)) (y 20 1) = ct (fun v => decide (vJ m v = j) && p (vval m v)) (nV m) := by
  rw [ct_fib (q := fun v => decide (vJ m v = j) && p (vval m v)) (f := vC m) (M := y 20 1) (fun v hv _ => (h.v.2.2.1 v hv).2.1.2) (fun v v' hv hv' a b e => by
    simp only [Bool.and_eq_true, decide_eq_true_eq] at a b
    exact h.v.2.2.2.1 v v' hv hv' (a.1.trans b.1.symm) e)]
  refine ct_cg (fun c hc => ?_)
  rcases Classical.em (∃ v, v < nV m ∧ vJ m v = j ∧ vC m v = c) with ⟨v, hv, e1, e2⟩ | q
  · have ev := stA h hv
    rw [e1, e2] at ev
    rw [ev]
    by_cases r : p (vval m v) = true
    · rw [r]
      exact (hasv_yes hv (by simp [e1, e2, r])).symm
    · have r2 : p (vval m v) = false := by simpa using r
      rw [r2]
      rcases hb : hasv (fun v => (decide (vJ m v = j) && p (vval m v)) && decide (vC m v = c)) (nV m) with _ | _
      · rfl
      · obtain ⟨u, hu, k⟩ := hasv_iff.mp hb
        simp only [Bool.and_eq_true, decide_eq_true_eq] at k
        have := h.v.2.2.2.1 u v hu hv (k.1.1.trans e1.symm) (k.2.trans e2.symm)
        subst this
        rw [r2] at k; exact absurd k.1.2 (by decide)
  · rw [stB h hj hc (fun v hv k => q ⟨v, hv, k.1, k.2⟩), hp]
    rcases hb : hasv (fun v => (decide (vJ m v = j) && p (vval m v)) && decide (vC m v = c)) (nV m) with _ | _
    · rfl
    · obtain ⟨u, hu, k⟩ := hasv_iff.mp hb
      simp only [Bool.and_eq_true, decide_eq_true_eq] at k
      exact absurd ⟨u, hu, k.1.1, k.2⟩ q
theorem e_asked (h : Rel m w x y z n) {j : Nat} (hj : j < 20) : s_X7_askedOf x y j = s_X8_doubt m (nI j) 0 := by
  have e1 : s_X7_askedOf x y j = nI (ct (fun c => (fun s : Int32 => !decide (s = 0)) (s_X0_standOf x y c j)) (y 20 1)) := by
    unfold s_X7_askedOf
    refine itr_cnt _ (fun i a hi => ?_)
    unfold f_X7_askedOf_4_2
    by_cases e : s_X0_standOf x y i j = 0
    · rw [e]; rfl
    · simp [e, s_X7_asNumber]
  refine (e1.trans (congrArg nI (dbt h hj (fun s : Int32 => !decide (s = 0)) (by decide)))).trans ?_
  unfold s_X8_doubt
  refine (itr_cnt _ (fun i a hi => ?_)).symm
  have b := h.v.2.2.1 i hi
  unfold f_X8_doubt_5_3 vval
  rw [b.1.1]
  by_cases e : vJ m i = j
  · rw [if_pos (by rw [e]), decide_eq_true e, Bool.true_and]
    by_cases q : s_X8_against m i < 0
    · rw [if_pos q, if_pos q]; rfl
    · rw [if_neg q, if_neg q, if_pos rfl]
      split <;> rfl
  · rw [if_neg (fun q => e ((nIE (by omega) (by omega)).mp q)), decide_eq_false e, Bool.false_and]; rfl
theorem e_alone (h : Rel m w x y z n) {j : Nat} (hj : j < 20) : s_X7_stoodAlone x y j = s_X8_doubt m (nI j) 1 := by
  have e1 : s_X7_stoodAlone x y j = nI (ct (fun c => (fun s : Int32 => decide (s = 2)) (s_X0_standOf x y c j)) (y 20 1)) := by
    unfold s_X7_stoodAlone
    refine itr_cnt _ (fun i a hi => ?_)
    unfold f_X7_stoodAlone_4_2
    by_cases e : s_X0_standOf x y i j = 2
    · rw [e]; rfl
    · simp [e, s_X7_asNumber]
  refine (e1.trans (congrArg nI (dbt h hj (fun s : Int32 => decide (s = 2)) (by decide)))).trans ?_
  unfold s_X8_doubt
  refine (itr_cnt _ (fun i a hi => ?_)).symm
  have b := h.v.2.2.1 i hi
  unfold f_X8_doubt_5_3 vval
  rw [b.1.1]
  by_cases e : vJ m i = j
  · rw [if_pos (by rw [e]), decide_eq_true e, Bool.true_and]
    by_cases q : s_X8_against m i < 0
    · rw [if_pos q, if_pos q]; rfl
    · rw [if_neg q, if_neg q, if_neg (show ¬ (1 : Int32) = 0 by decide)]
      by_cases r : m 40 i = s_X8_against m i
      · rw [if_pos r, if_pos r]; rfl
      · rw [if_neg r, if_neg r]; rfl
  · rw [if_neg (fun q => e ((nIE (by omega) (by omega)).mp q)), decide_eq_false e, Bool.false_and]; rfl
theorem e_told (h : Rel m w x y z n) (j q : Int32) : s_X7_told x y j q = s_X8_told m j q := by
  unfold s_X7_told s_X8_told
  rw [is_j]
  by_cases c1 : s_X7_within j 0 19 = 0
  · rw [if_pos c1, if_pos c1]
  · rw [if_neg c1, if_neg c1]
    obtain ⟨ej, hj⟩ := judge_tn c1
    have ra := h.a.2.2.2.2.2 _ hj
    have e3 : x 10 (tn j) = s_X8_giftsOf m j (-1) := by
      have := gOj h hj
      rw [← ej] at this
      rw [this, (h.g.2.2.2.2 _ hj).1]
    have e5 : x 11 (tn j) = itr (f_X8_told_106_3 m (tn j)) 0 (nV m) := by
      rw [h.v.2.2.2.2.2 _ hj]
      refine (itr_cnt _ (fun i a hi => ?_)).symm
      have b := h.v.2.2.1 i hi
      unfold f_X8_told_106_3 qVj
      rw [b.1.1]
      by_cases e : vJ m i = tn j
      · rw [if_pos (by rw [e]), decide_eq_true e, if_pos rfl]
      · rw [if_neg (fun q => e ((nIE (by omega) (by omega)).mp q)), decide_eq_false e, if_neg (by decide)]
    have e6 := e_asked h hj
    have e7 := e_alone h hj
    rw [← ej] at e6 e7
    rw [ra.1, ra.2.1, ra.2.2.1, ra.2.2.2.1, e3, e5, e6, e7]
    rfl
theorem itr_1 {f : Nat → Int32 → Int32} : ∀ k, (∀ i, i < k → f i 1 = 1) → itr f 1 k = 1
  | 0, _ => rfl
  | k + 1, hf => by
    show f k (itr f 1 k) = 1
    rw [itr_1 k (fun i hi => hf i (by omega))]; exact hf k (by omega)
theorem itr_0 {f : Nat → Int32 → Int32} : ∀ k, (∀ i, i < k → f i 0 = 0) → itr f 0 k = 0
  | 0, _ => rfl
  | k + 1, hf => by
    show f k (itr f 0 k) = 0
    rw [itr_0 k (fun i hi => hf i (by omega))]; exact hf k (by omega)
theorem chk7 (h : Rel m w x y z n) : s_X7_check x y = 0 := by
  have hC := h.bC
  have a1 : itr (f_X7_check_6_1 x y) 1 (y 20 1) = 1 := itr_1 _ (fun c hc => by
    unfold f_X7_check_6_1 s_X0_staysWithinAsked s_X2_votes s_X0_giftsOut
    rw [if_neg (by decide)]
    by_cases e : s_X0_isUndecided x c = 0
    · rw [if_pos e]; rfl
    · rw [if_neg e, tm_hh, (h.hh c _ hc (tm_lt y c) (tm_lv y c)).1, (h.g.2.2.2.1 c hc).1, nI_add]
      have q := h.q c hc
      have q2 := q.2.1 (Classical.byContradiction (fun k => e (un_of.mpr k)))
      have q3 : ¬ x 22 (2 * c + tmc y c) < nI (ct (qV m c (tmc y c)) (nV m) + ct (qG y c) (y 20 2)) := by
        rw [q.1.1]; intro k; rw [nI_ltI (by omega) (by omega)] at k; omega
      rw [if_neg q3]; rfl)
  have a2 : itr (f_X7_check_88_3 x) 1 20 = 1 := itr_1 _ (fun j hj => by
    unfold f_X7_check_88_3
    have q := h.g.2.2.2.2 j hj
    rw [if_neg (by decide), q.1, if_neg (fun k => by rw [show (20 : Int32) = nI 20 from rfl, nI_ltI (by omega) (by omega)] at k; omega)])
  have a3 : itr (f_X7_check_6_2 x y) 1 (y 20 1) = 1 := itr_1 _ (fun c hc => by
    unfold f_X7_check_6_2
    have b1 := (h.g.2.2.2.1 c hc).2
    have b2 := (h.hh c 0 hc (by decide) (Or.inl rfl)).2.1
    rw [Nat.add_zero] at b2
    have ev : s_X0_everyJudgeOnce x y c = 1 := by
      unfold s_X0_everyJudgeOnce
      have z1 : ∀ t, t < 2 → (t = 0 ∨ y 4 c ≠ 0) → x 24 (2 * c + t) &&& x 21 c = 0 := fun t ht hl => b_ext (fun i hi => by
        rw [b_and, b_0]
        have b3 := (h.hh c t hc ht hl).2.1 i hi
        by_cases e : bt (x 24 (2 * c + t)) i = true
        · by_cases e2 : bt (x 21 c) i = true
          · obtain ⟨v, v1, v2, v3, v4⟩ := b3.mp e
            obtain ⟨g, g1, g2, g3⟩ := (b1 i hi).mp e2
            exact (h.v.2.2.2.2.1 g v g1 v1 (g3.trans v4.symm) (g2.trans v2.symm)).elim
          · have : bt (x 21 c) i = false := by simpa using e2
            rw [this, Bool.and_false]
        · have : bt (x 24 (2 * c + t)) i = false := by simpa using e
          rw [this, Bool.false_and])
      have z0 := z1 0 (by decide) (Or.inl rfl)
      rw [Nat.add_zero] at z0
      by_cases e4 : y 4 c = 0
      · rw [if_pos e4, Int32.and_zero, if_pos rfl, Int32.or_zero, z0, if_pos rfl]
      · rw [if_neg e4]
        have z4 : x 24 (2 * c) &&& x 24 (2 * c + 1) = 0 := b_ext (fun i hi => by
          rw [b_and, b_0]
          have b3 := (h.hh c 1 hc (by decide) (Or.inr e4)).2.1 i hi
          by_cases e : bt (x 24 (2 * c)) i = true
          · by_cases e2 : bt (x 24 (2 * c + 1)) i = true
            · obtain ⟨v, v1, v2, v3, v4⟩ := (b2 i hi).mp e
              obtain ⟨u, u1, u2, u3, u4⟩ := b3.mp e2
              have := h.v.2.2.2.1 v u v1 u1 (v4.trans u4.symm) (v2.trans u2.symm)
              subst this
              omega
            · have : bt (x 24 (2 * c + 1)) i = false := by simpa using e2
              rw [this, Bool.and_false]
          · have : bt (x 24 (2 * c)) i = false := by simpa using e
            rw [this, Bool.false_and])
        have z5 : (x 24 (2 * c) ||| x 24 (2 * c + 1)) &&& x 21 c = 0 := b_ext (fun i hi => by
          have k1 := congrArg (fun q => bt q i) z0
          have k2 := congrArg (fun q => bt q i) (z1 1 (by decide) (Or.inr e4))
          simp only [b_and, b_0] at k1 k2
          rw [b_and, b_or, b_0, Bool.and_or_distrib_right, k1, k2]; rfl)
        rw [z4, if_pos rfl, z5, if_pos rfl]
    rw [ev]; decide)
  unfold s_X7_check
  rw [a1, a2, a3]; decide
theorem chk8 (h : Rel m w x y z n) : s_X8_check m = 0 := by
  have hC := h.bC; have hG := h.bG
  have a1 : itr (f_X8_check_4_1 m) 0 (nC m) = 0 := itr_0 _ (fun c hc => by
    rw [h.eC] at hc
    unfold f_X8_check_4_1
    rw [if_pos rfl, asO h hc, vOc h hc, gOc h hc, nI_add, (h.c.2 c hc).2.2.2.2.2.2.2.1]
    by_cases e : s_X0_isUndecided x c = 0
    · rw [if_pos e]
    · have q := h.q c hc
      have q2 := q.2.1 (Classical.byContradiction (fun k => e (un_of.mpr k)))
      rw [if_neg e, q.1.1, if_pos (by rw [nI_leI (by omega) (by omega)]; omega)])
  have a2 : itr (f_X8_check_61_2 m) 0 20 = 0 := itr_0 _ (fun j hj => by
    unfold f_X8_check_61_2
    have q := h.g.2.2.2.2 j hj
    rw [if_pos rfl, gOj h hj, if_pos (by rw [show (20 : Int32) = nI 20 from rfl, nI_leI (by omega) (by omega)]; omega)])
  have a3 : itr (f_X8_check_99_3 m) 0 (nV m) = 0 := itr_0 _ (fun v hv => by
    have b := h.v.2.2.1 v hv
    unfold f_X8_check_99_3
    have e0 : s_X8_giftsOf m (m 37 v) (m 38 v) = 0 := by
      rw [b.1.1, b.2.1.1]
      exact (gNo h b.1.2 b.2.1.2).mpr (fun g hg k => h.v.2.2.2.2.1 g v hg hv k.1 k.2)
    rw [if_pos rfl, e0, if_pos (by decide)]
    exact itr_0 _ (fun u hu => by
      unfold f_X8_check_142_3
      rw [if_pos rfl]
      by_cases e1 : m 37 u = m 37 v
      · rw [if_pos e1]
        by_cases e2 : m 38 u = m 38 v
        · have := h.v.2.2.2.1 u v (by omega) hv (by show tn (m 37 u) = tn (m 37 v); rw [e1]) (by show tn (m 38 u) = tn (m 38 v); rw [e2])
          omega
        · rw [if_neg e2]
      · rw [if_neg e1]))
  unfold s_X8_check
  rw [a1, a2, a3]; decide
theorem e_check (h : Rel m w x y z n) : s_X7_check x y = s_X8_check m := (chk7 h).trans (chk8 h).symm
end R7
