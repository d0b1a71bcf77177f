/-! THE RELATION: the reference's m, w and the class's x, y, z -/
abbrev vJ (m : XX) (v : Nat) : Nat := tn (m 37 v)
abbrev vC (m : XX) (v : Nat) : Nat := tn (m 38 v)
abbrev vT (m : XX) (v : Nat) : Nat := tn (m 39 v)
def qV (m : XX) (c t : Nat) : Nat → Bool := fun v => decide (vC m v = c) && decide (vT m v = t)
def qVj (m : XX) (j : Nat) : Nat → Bool := fun v => decide (vJ m v = j)
def qG (y : YY) (c : Nat) : Nat → Bool := fun g => decide (y 7 g = c)
def qGj (y : YY) (j : Nat) : Nat → Bool := fun g => decide (y 6 g = j)
/-- which time a case is heard now -/
def tmc (y : YY) (c : Nat) : Nat := if y 4 c = 0 then 0 else 1
def gW (m : XX) (c t : Nat) (b : Int32) : Nat → Int32 → Int32 := fun v a => if vC m v = c ∧ vT m v = t ∧ m 40 v = b then a + m 41 v else a
def RA (m x : XX) : Prop := (m 0 0 = x 0 0 ∧ 0 ≤ x 0 0 ∧ x 0 0 ≤ 1000000) ∧ (∀ r, r < 8 → m 1 r = x 3 r ∧ m 2 r = x 4 r ∧ m 3 r = x 5 r ∧ (x 3 r = nI (tn (x 3 r)) ∧ tn (x 3 r) < 3) ∧ (1 ≤ x 4 r ∧ x 4 r ≤ 100)) ∧ (∀ g, g < 3 → m 4 g = x 45 g) ∧ (m 5 0 = x 37 0 ∧ m 6 0 = x 38 0 ∧ (1 ≤ x 37 0 ∧ x 37 0 ≤ 10000) ∧ (1 ≤ x 38 0 ∧ x 38 0 ≤ 10000)) ∧ (m 7 0 = x 1 0 ∧ m 28 0 = x 2 0) ∧ (∀ j, j < 20 → m 29 j = x 6 j ∧ m 31 j = x 7 j ∧ m 32 j = x 8 j ∧ m 33 j = x 9 j ∧ x 7 j ≤ 20 ∧ (x 9 j = 0 ∨ x 9 j = 1))
def RP (m x : XX) (y : YY) : Prop := m 12 0 = nI (y 20 0) ∧ (∀ p, p < y 20 0 → m 8 p = x 12 p ∧ m 9 p = x 15 p ∧ m 10 p = x 13 p ∧ m 11 p = x 14 p ∧ (1 ≤ x 13 p ∧ x 13 p ≤ 1000) ∧ (0 ≤ x 14 p ∧ x 14 p ≤ 255) ∧ (0 ≤ x 15 p ∧ x 15 p ≤ x 0 0)) ∧ (∀ p q, p ≤ q → q < y 20 0 → x 15 p ≤ x 15 q)
def RC (m x : XX) (y : YY) : Prop := m 27 0 = nI (y 20 1) ∧ (∀ c, c < y 20 1 → m 13 c = nI (y 2 c) ∧ m 14 c = nI (y 3 c) ∧ m 15 c = x 19 c ∧ m 16 c = x 18 c ∧ m 17 c = x 16 c ∧ m 18 c = x 17 c ∧ m 22 c = x 20 c ∧ m 19 c = x 22 (2 * c + tmc y c) ∧ m 20 c = x 23 (2 * c + tmc y c) ∧ (x 16 c = nI (tn (x 16 c)) ∧ tn (x 16 c) < 3) ∧ (x 20 c = -1 ∨ x 20 c = 0 ∨ x 20 c = 1))
/-- the latest judgement, as the reference keeps it -/
def LA (m x : XX) (c h : Nat) : Prop := m 24 c = s_bitCount (x 24 h) ∧ m 25 c = x 26 h ∧ m 26 c = x 27 h
def fnd (x : XX) (h : Nat) : Int32 := if (x 26 h) ≤ (x 27 h) then 0 else 1
def RS (m x : XX) (y : YY) : Prop := ∀ c, c < y 20 1 →
  (x 19 c = 0 ∧ y 4 c = 0 ∧ x 28 (2 * c) = 0 ∧ m 21 c = 0 ∧ m 23 (2 * c) = -1 ∧ m 23 (2 * c + 1) = -1) ∨
  ((x 19 c = 1 ∨ x 19 c = 2) ∧ y 4 c = 0 ∧ x 28 (2 * c) = 1 ∧ m 21 c = 1 ∧ m 23 (2 * c) = fnd x (2 * c) ∧ m 23 (2 * c + 1) = -1 ∧ LA m x c (2 * c)) ∨
  (x 19 c = 3 ∧ y 4 c ≠ 0 ∧ x 28 (2 * c) = 1 ∧ x 28 (2 * c + 1) = 0 ∧ m 21 c = 1 ∧ m 23 (2 * c) = fnd x (2 * c) ∧ m 23 (2 * c + 1) = -1 ∧ LA m x c (2 * c)) ∨
  ((x 19 c = 4 ∨ x 19 c = 5) ∧ y 4 c ≠ 0 ∧ x 28 (2 * c) = 1 ∧ x 28 (2 * c + 1) = 1 ∧ m 21 c = 2 ∧ m 23 (2 * c) = fnd x (2 * c) ∧ m 23 (2 * c + 1) = fnd x (2 * c + 1) ∧ LA m x c (2 * c + 1))
def RG (m x : XX) (y : YY) : Prop := m 36 0 = nI (y 20 2) ∧ (∀ g, g < y 20 2 → m 34 g = nI (y 6 g) ∧ m 35 g = nI (y 7 g)) ∧ (∀ g g', g < y 20 2 → g' < y 20 2 → y 6 g = y 6 g' → y 7 g = y 7 g' → g = g') ∧ (∀ c, c < y 20 1 → s_bitCount (x 21 c) = nI (ct (qG y c) (y 20 2)) ∧ ∀ j, j < 32 → (bt (x 21 c) j = true ↔ ∃ g, g < y 20 2 ∧ y 7 g = c ∧ y 6 g = j)) ∧ (∀ j, j < 20 → x 10 j = nI (ct (qGj y j) (y 20 2)) ∧ ct (qGj y j) (y 20 2) ≤ 20)
def RV (m x : XX) (y : YY) (n : Nat) : Prop := m 42 0 = nI (nV m) ∧ nV m ≤ n ∧ (∀ v, v < nV m → (m 37 v = nI (vJ m v) ∧ vJ m v < 20) ∧ (m 38 v = nI (vC m v) ∧ vC m v < y 20 1) ∧ (m 39 v = nI (vT m v) ∧ vT m v < 2) ∧ (vT m v = 1 → y 4 (vC m v) ≠ 0) ∧ (m 40 v = 0 ∨ m 40 v = 1)) ∧ (∀ v v', v < nV m → v' < nV m → vJ m v = vJ m v' → vC m v = vC m v' → v = v') ∧ (∀ g v, g < y 20 2 → v < nV m → y 6 g = vJ m v → y 7 g = vC m v → False) ∧ (∀ j, j < 20 → x 11 j = nI (ct (qVj m j) (nV m)))
def RH (m x : XX) (y : YY) : Prop := ∀ c t, c < y 20 1 → t < 2 → (t = 0 ∨ y 4 c ≠ 0) → s_bitCount (x 24 (2 * c + t)) = nI (ct (qV m c t) (nV m)) ∧ (∀ j, j < 32 → (bt (x 24 (2 * c + t)) j = true ↔ ∃ v, v < nV m ∧ vC m v = c ∧ vT m v = t ∧ vJ m v = j)) ∧ (∀ j, j < 32 → (bt (x 25 (2 * c + t)) j = true ↔ ∃ v, v < nV m ∧ vC m v = c ∧ vT m v = t ∧ vJ m v = j ∧ m 40 v = 1)) ∧ x 26 (2 * c + t) = itr (gW m c t 1) 0 (nV m) ∧ x 27 (2 * c + t) = itr (gW m c t 0) 0 (nV m)
def RQ (m x : XX) (y : YY) : Prop := ∀ c, c < y 20 1 → (x 22 (2 * c + tmc y c) = nI (tn (x 22 (2 * c + tmc y c))) ∧ tn (x 22 (2 * c + tmc y c)) ≤ 9) ∧ ((x 19 c = 0 ∨ x 19 c = 3) → ct (qV m c (tmc y c)) (nV m) + ct (qG y c) (y 20 2) ≤ tn (x 22 (2 * c + tmc y c))) ∧ (¬ (x 19 c = 0 ∨ x 19 c = 3) → ct (qG y c) (y 20 2) = 0)
/-- a post's last case -/
def LSt (y : YY) : Prop := ∀ p, p < y 20 0 → (y 1 p = 0 ∧ ∀ c, c < y 20 1 → y 2 c ≠ p) ∨ ∃ c, y 1 p = c + 1 ∧ c < y 20 1 ∧ y 2 c = p ∧ ∀ b, c < b → b < y 20 1 → y 2 b ≠ p
def Rel (m : XX) (w : Nat → Int64) (x : XX) (y : YY) (z : Nat → Int64) (n : Nat) : Prop := w = z ∧ RA m x ∧ RP m x y ∧ RC m x y ∧ RS m x y ∧ RG m x y ∧ RV m x y n ∧ RH m x y ∧ RQ m x y ∧ CI y ∧ CL y ∧ LSt y ∧ n ≤ 512
section RR
variable {m : XX} {w : Nat → Int64} {x : XX} {y : YY} {z : Nat → Int64} {n : Nat}
theorem Rel.wz (h : Rel m w x y z n) : w = z := h.1
theorem Rel.a (h : Rel m w x y z n) : RA m x := h.2.1
theorem Rel.p (h : Rel m w x y z n) : RP m x y := h.2.2.1
theorem Rel.c (h : Rel m w x y z n) : RC m x y := h.2.2.2.1
theorem Rel.s (h : Rel m w x y z n) : RS m x y := h.2.2.2.2.1
theorem Rel.g (h : Rel m w x y z n) : RG m x y := h.2.2.2.2.2.1
theorem Rel.v (h : Rel m w x y z n) : RV m x y n := h.2.2.2.2.2.2.1
theorem Rel.hh (h : Rel m w x y z n) : RH m x y := h.2.2.2.2.2.2.2.1
theorem Rel.q (h : Rel m w x y z n) : RQ m x y := h.2.2.2.2.2.2.2.2.1
theorem Rel.ci (h : Rel m w x y z n) : CI y := h.2.2.2.2.2.2.2.2.2.1
theorem Rel.cl (h : Rel m w x y z n) : CL y := h.2.2.2.2.2.2.2.2.2.2.1
theorem Rel.y1 (h : Rel m w x y z n) : LSt y := h.2.2.2.2.2.2.2.2.2.2.2.1
theorem Rel.n512 (h : Rel m w x y z n) : n ≤ 512 := h.2.2.2.2.2.2.2.2.2.2.2.2
theorem Rel.bP (h : Rel m w x y z n) : y 20 0 ≤ 300 := h.ci.2.2.2.1
theorem Rel.bC (h : Rel m w x y z n) : y 20 1 ≤ 400 := h.ci.2.2.2.2.1
theorem Rel.bG (h : Rel m w x y z n) : y 20 2 ≤ 400 := h.ci.2.2.2.2.2.1
theorem Rel.bV (h : Rel m w x y z n) : nV m ≤ 512 := Nat.le_trans h.v.2.1 h.n512
theorem Rel.eP (h : Rel m w x y z n) : nP m = y 20 0 := by show tn (m 12 0) = _; rw [h.p.1, tn_nI (by have := h.bP; omega)]
theorem Rel.eC (h : Rel m w x y z n) : nC m = y 20 1 := by show tn (m 27 0) = _; rw [h.c.1, tn_nI (by have := h.bC; omega)]
theorem Rel.eG (h : Rel m w x y z n) : nG m = y 20 2 := by show tn (m 36 0) = _; rw [h.g.1, tn_nI (by have := h.bG; omega)]
theorem Rel.mi (h : Rel m w x y z n) : MI m := by
  have bP := h.bP; have bC := h.bC; have bG := h.bG; have bV := h.bV
  refine ⟨⟨by rw [h.eP]; exact h.p.1, by rw [h.eP]; omega⟩, ⟨by rw [h.eC]; exact h.c.1, by rw [h.eC]; omega⟩, ⟨by rw [h.eG]; exact h.g.1, by rw [h.eG]; omega⟩, ⟨h.v.1, by omega⟩, fun c hc => ?_, fun v hv => ?_⟩
  · rw [h.eC] at hc
    have q := h.c.2 c hc
    have i := h.ci.1 c hc
    refine ⟨?_, ?_, ?_⟩
    · rw [q.1, tn_nI (by omega), h.eP]; exact ⟨rfl, i.1⟩
    · rw [q.2.1, tn_nI (by omega)]; exact ⟨rfl, i.2.1⟩
    · rw [q.2.2.2.2.1]; exact q.2.2.2.2.2.2.2.2.2.1
  · have q := h.v.2.2.1 v hv
    exact ⟨by rw [h.eC]; exact q.2.1, q.2.2.1⟩
theorem Rel.up (h : Rel m w x y z n) {n' : Nat} (k : n ≤ n') (k2 : n' ≤ 512) : Rel m w x y z n' := ⟨h.1, h.2.1, h.2.2.1, h.2.2.2.1, h.2.2.2.2.1, h.2.2.2.2.2.1, ⟨h.v.1, Nat.le_trans h.v.2.1 k, h.v.2.2⟩, h.2.2.2.2.2.2.2.1, h.2.2.2.2.2.2.2.2.1, h.ci, h.cl, h.y1, k2⟩
theorem tm_hh (c : Nat) : i_X0_hearing y c = 2 * c + tmc y c := by
  unfold i_X0_hearing tmc
  split <;> omega
-- tests of numbers
theorem wi_n {v : Int32} {k : Nat} (hk : k ≤ 1000) : s_X7_within v 0 (nI k - 1) = (if v < 0 then 0 else if nI k ≤ v then 0 else 1 : Int32) := by
  unfold s_X7_within
  have h := nIm1 hk
  by_cases h1 : v < 0
  · rw [if_pos h1, if_pos h1]
  · rw [if_neg h1, if_neg h1]
    have e : (nI k - 1 < v) ↔ nI k ≤ v := by
      rw [Int32.lt_iff_toInt_lt, Int32.le_iff_toInt_le, nI_toInt (by omega)]
      omega
    by_cases h2 : nI k ≤ v
    · rw [if_pos (e.mpr h2), if_pos h2]
    · rw [if_neg (fun q => h2 (e.mp q)), if_neg h2]
theorem is_j (j : Int32) : s_X8_isJudge j = s_X7_within j 0 19 := (wi_n (v := j) (k := 20) (by decide)).symm
theorem is_c (h : Rel m w x y z n) (c : Int32) : s_X8_isCase m c = s_X7_within c 0 ((nI (y 20 1)) - 1) := by
  rw [wi_n (by have := h.bC; omega)]
  unfold s_X8_isCase
  rw [h.c.1]
theorem wi_e (v a b : Int32) : s_X8_within v a b = s_X7_within v a b := rfl
theorem wi_r {v a b : Int32} (h : ¬ s_X7_within v a b = 0) : a ≤ v ∧ v ≤ b := by
  unfold s_X7_within at h
  by_cases h1 : v < a
  · rw [if_pos h1] at h; exact absurd rfl h
  · rw [if_neg h1] at h
    by_cases h2 : b < v
    · rw [if_pos h2] at h; exact absurd rfl h
    · exact ⟨Int32.not_lt.mp h1, Int32.not_lt.mp h2⟩
theorem tn_of {v : Int32} {k : Nat} (hk : k < 2 ^ 31) (h0 : 0 ≤ v) (h1 : v ≤ nI k) : v = nI (tn v) ∧ tn v ≤ k := by
  obtain ⟨j, hj, e⟩ := nI_of2 (nI_toInt hk) (Int32.not_lt.mpr h0) h1
  rw [e, tn_nI (by omega)]
  exact ⟨rfl, hj⟩
theorem wi_tn {v : Int32} {k : Nat} (hk : k < 2 ^ 31) (h : ¬ s_X7_within v 0 (nI k) = 0) : v = nI (tn v) ∧ tn v ≤ k := tn_of hk (wi_r h).1 (wi_r h).2
theorem case_tn (h : Rel m w x y z n) {c : Int32} (hc : ¬ s_X7_within c 0 ((nI (y 20 1)) - 1) = 0) : c = nI (tn c) ∧ tn c < y 20 1 := by
  obtain ⟨k, hk, e⟩ := withinN (n := y 20 1) hc (by have := h.bC; omega)
  rw [e, tn_nI (by have := h.bC; omega)]
  exact ⟨rfl, hk⟩
theorem judge_tn {j : Int32} (hj : ¬ s_X7_within j 0 19 = 0) : j = nI (tn j) ∧ tn j < 20 := by
  have := wi_tn (k := 19) (by decide) hj
  exact ⟨this.1, by omega⟩
end RR
