/-! THE REFERENCE'S WORLD: one object, its arrays behind it; x k j: place j of array k (fields by their number), a scalar k is x k 0; z: kin -/
def up2 (x : Nat → Nat → Int32) (k j : Nat) (v : Int32) : Nat → Nat → Int32 := fun k' => if k' = k then upd (x k) j v else x k'
def rkL : List Nat := [0, 0, 1, 2, 3, 0, 0, 0, 4, 5, 6, 7, 0, 8, 9, 10, 11, 12, 13, 14, 15, 16, 17, 18, 19, 20, 21, 0, 0, 22, 23, 24, 25, 26, 27, 28, 0, 29, 30, 31, 32, 33, 0, 34, 35, 36, 0]
def lnL : List Nat := [0, 8, 8, 8, 3, 0, 0, 0, 300, 300, 300, 300, 0, 400, 400, 400, 400, 400, 400, 400, 400, 400, 400, 800, 400, 400, 400, 0, 0, 20, 20, 20, 20, 20, 400, 400, 0, 8000, 8000, 8000, 8000, 8000, 0, 400, 400, 400, 0]
def inL : List Bool := [false, true, true, true, true, false, false, false, true, true, true, true, false, true, true, true, true, true, true, true, true, true, true, true, true, true, true, false, false, true, false, true, true, false, true, true, false, true, true, true, true, true, false, true, true, true, false]
def am (m0 k : Nat) : Nat := m0 + 1 + rkL.getD k 0
def ln (k : Nat) : Nat := lnL.getD k 0
def isI (k : Nat) : Bool := inL.getD k false
def MA (m0 : Nat) : Nat → Prop := fun q => m0 ≤ q ∧ q < m0 + 38
def mfs (m0 : Nat) (x : Nat → Nat → Int32) : List Value := [.int (x 0 0), .ref (am m0 1), .ref (am m0 2), .ref (am m0 3), .ref (am m0 4), .int (x 5 0), .int (x 6 0), .int (x 7 0), .ref (am m0 8), .ref (am m0 9), .ref (am m0 10), .ref (am m0 11), .int (x 12 0), .ref (am m0 13), .ref (am m0 14), .ref (am m0 15), .ref (am m0 16), .ref (am m0 17), .ref (am m0 18), .ref (am m0 19), .ref (am m0 20), .ref (am m0 21), .ref (am m0 22), .ref (am m0 23), .ref (am m0 24), .ref (am m0 25), .ref (am m0 26), .int (x 27 0), .int (x 28 0), .ref (am m0 29), .ref (am m0 30), .ref (am m0 31), .ref (am m0 32), .ref (am m0 33), .ref (am m0 34), .ref (am m0 35), .int (x 36 0), .ref (am m0 37), .ref (am m0 38), .ref (am m0 39), .ref (am m0 40), .ref (am m0 41), .int (x 42 0), .ref (am m0 43), .ref (am m0 44), .ref (am m0 45), .int (x 46 0)]
def MWd (G : GG) (m0 : Nat) (x : Nat → Nat → Int32) (z : Nat → Int64) (H : Heap) : Prop :=
  va_at G.1 vwCl (m0, .inr (9, mfs m0 x)) H ∧ (∀ k, isI k = true → va_at G.1 vwCl (am m0 k, .inl (G.2 0, ln k, .inl (x k))) H) ∧ va_at G.1 vwCl (am m0 30, .inl (G.2 1, 20, .inr (.inl z))) H ∧ va_at G.1 vwCl (am m0 33, .inl (G.2 2, 20, .inl (x 33))) H
def isAr (k : Nat) : Bool := isI k || k == 30 || k == 33
theorem am_inj0 : (List.range 47).all (fun k => (List.range 47).all (fun k' => !(isAr k) || !(isAr k') || k' == k || !(rkL.getD k' 0 == rkL.getD k 0))) = true := by decide +kernel
theorem isAr_of {k : Nat} (h : isI k = true ∨ k = 30 ∨ k = 33) : isAr k = true := by
  rcases h with h | h | h
  · simp [isAr, h]
  · subst h; rfl
  · subst h; rfl
theorem am_inj (k : Nat) (hk : k < 47) (k' : Nat) (hk' : k' < 47) (h1 : isI k = true ∨ k = 30 ∨ k = 33) (h2 : isI k' = true ∨ k' = 30 ∨ k' = 33) (n : k' ≠ k) : rkL.getD k' 0 ≠ rkL.getD k 0 := by
  have h := List.all_eq_true.mp (List.all_eq_true.mp am_inj0 k (List.mem_range.mpr hk)) k' (List.mem_range.mpr hk')
  simpa [isAr_of h1, isAr_of h2, n] using h
theorem isI_lt {k : Nat} (h : isI k = true) : k < 47 := by
  rcases Nat.lt_or_ge k 47 with q | q
  · exact q
  · have e : inL.getD k false = false := by
      unfold inL
      rw [List.getD_eq_getElem?_getD, List.getElem?_eq_none (by simpa using q)]
      rfl
    unfold isI at h
    rw [e] at h
    cases h
theorem am_ne {m0 k k' : Nat} (hk : isI k = true ∨ k = 30 ∨ k = 33) (hk' : isI k' = true ∨ k' = 30 ∨ k' = 33) (n : k' ≠ k) : am m0 k' ≠ am m0 k := by
  have l1 : k < 47 := by rcases hk with h | h | h; exact isI_lt h; omega; omega
  have l2 : k' < 47 := by rcases hk' with h | h | h; exact isI_lt h; omega; omega
  have h := am_inj k l1 k' l2 hk hk' n
  unfold am
  omega
theorem am_rk : ∀ k, k < 47 → rkL.getD k 0 < 37 := by decide
theorem am_A {m0 k : Nat} (hk : isI k = true ∨ k = 30 ∨ k = 33) : MA m0 (am m0 k) := by
  have l1 : k < 47 := by rcases hk with h | h | h; exact isI_lt h; omega; omega
  have h := am_rk k l1
  unfold MA am
  omega
theorem am_m0 {m0 k : Nat} : am m0 k ≠ m0 := by unfold am; omega
theorem MA_0 {m0 : Nat} : MA m0 m0 := by unfold MA; omega
theorem up2_ne {x : Nat → Nat → Int32} {k j k' : Nat} {v : Int32} (h : k' ≠ k) : up2 x k j v k' = x k' := by unfold up2; rw [if_neg h]
theorem up2_eq {x : Nat → Nat → Int32} {k j : Nat} {v : Int32} : up2 x k j v k = upd (x k) j v := by unfold up2; rw [if_pos rfl]
section MWS
variable {G : GG} {m0 : Nat} {x : Nat → Nat → Int32} {z : Nat → Int64} {H H1 : Heap}
theorem MWd.kept (h : MWd G m0 x z H) (o : ∀ q, MA m0 q → H1[q]? = H[q]?) : MWd G m0 x z H1 :=
  ⟨h.1.kept (o _ MA_0), fun k hk => (h.2.1 k hk).kept (o _ (am_A (Or.inl hk))), h.2.2.1.kept (o _ (am_A (Or.inr (Or.inl rfl)))), h.2.2.2.kept (o _ (am_A (Or.inr (Or.inr rfl))))⟩
theorem MWd.putS (k : Nat) {v : Int32} (h : MWd G m0 x z H) (e : va_at G.1 vwCl (m0, .inr (9, (mfs m0 x).set k (.int v))) H1) (o : ∀ q, q ≠ m0 → H1[q]? = H[q]?) (hs : (mfs m0 x).set k (.int v) = mfs m0 (up2 x k 0 v)) (hk : isI k = false) (hk2 : (33 : Nat) ≠ k) : MWd G m0 (up2 x k 0 v) z H1 := by
  refine ⟨by rw [← hs]; exact e, fun k' hk' => ?_, h.2.2.1.kept (o _ am_m0), ?_⟩
  · rw [up2_ne (fun e => by rw [e, hk] at hk'; cases hk')]
    exact (h.2.1 k' hk').kept (o _ am_m0)
  · rw [up2_ne hk2]
    exact h.2.2.2.kept (o _ am_m0)
theorem MWd.putA (k : Nat) {j : Nat} {v : Int32} (h : MWd G m0 x z H) (hk : isI k = true) (e : va_at G.1 vwCl (am m0 k, .inl (G.2 0, ln k, .inl (upd (x k) j v))) H1) (o : ∀ q, q ≠ am m0 k → H1[q]? = H[q]?) (hs : mfs m0 (up2 x k j v) = mfs m0 x) (hk2 : (33 : Nat) ≠ k) (hk3 : (30 : Nat) ≠ k) : MWd G m0 (up2 x k j v) z H1 := by
  refine ⟨by rw [hs]; exact h.1.kept (o _ (Ne.symm am_m0)), fun k' hk' => ?_, h.2.2.1.kept (o _ (am_ne (Or.inl hk) (Or.inr (Or.inl rfl)) hk3)), ?_⟩
  · by_cases q : k' = k
    · subst q
      rw [up2_eq]
      exact e
    · rw [up2_ne q]
      exact (h.2.1 k' hk').kept (o _ (am_ne (Or.inl hk) (Or.inl hk') q))
  · rw [up2_ne hk2]
    exact h.2.2.2.kept (o _ (am_ne (Or.inl hk) (Or.inr (Or.inr rfl)) hk2))
theorem MWd.putZ {j : Nat} {v : Int32} (h : MWd G m0 x z H) (e : va_at G.1 vwCl (am m0 33, .inl (G.2 2, 20, .inl (upd (x 33) j v))) H1) (o : ∀ q, q ≠ am m0 33 → H1[q]? = H[q]?) : MWd G m0 (up2 x 33 j v) z H1 := by
  refine ⟨h.1.kept (o _ (Ne.symm am_m0)), fun k' hk' => ?_, h.2.2.1.kept (o _ (am_ne (Or.inr (Or.inr rfl)) (Or.inr (Or.inl rfl)) (by decide))), e⟩
  have q : k' ≠ 33 := fun q => by rw [q] at hk'; cases hk'
  rw [up2_ne q]
  exact (h.2.1 k' hk').kept (o _ (am_ne (Or.inr (Or.inr rfl)) (Or.inl hk') q))
theorem MWd.putL {j : Nat} {v : Int64} (h : MWd G m0 x z H) (e : va_at G.1 vwCl (am m0 30, .inl (G.2 1, 20, .inr (.inl (vp_updL z j v)))) H1) (o : ∀ q, q ≠ am m0 30 → H1[q]? = H[q]?) : MWd G m0 x (vp_updL z j v) H1 := by
  refine ⟨h.1.kept (o _ (Ne.symm am_m0)), fun k' hk' => ?_, e, h.2.2.2.kept (o _ (am_ne (Or.inr (Or.inl rfl)) (Or.inr (Or.inr rfl)) (by decide)))⟩
  have q : k' ≠ 30 := fun q => by rw [q] at hk'; cases hk'
  exact (h.2.1 k' hk').kept (o _ (am_ne (Or.inr (Or.inl rfl)) (Or.inl hk') q))
end MWS
theorem nb0 : narrow .boolean (.int 0) = .int 0 := rfl
theorem nb1 : narrow .boolean (.int 1) = .int 1 := rfl
