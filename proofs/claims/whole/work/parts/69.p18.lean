section R18
def Lad (X xs : XX) (D : Nat) (Fu : Nat → Prop) (N F : Nat) : Prop := N ≤ 400 ∧ F ≤ N ∧ X 46 0 = nI N ∧ xs 39 0 = nI N ∧ xs 40 0 = nI F ∧ (∀ s, s < N → xs 44 s = X 44 s ∧ X 44 s = nI (tn (X 44 s)) ∧ tn (X 44 s) ≤ 1000000 ∧ ∀ t, Fu t → tn (X 44 s) ≤ t) ∧ (∀ s s', s ≤ s' → s' < N → tn (X 44 s) ≤ tn (X 44 s')) ∧ (∀ s, s < F → ∀ t, Fu t → tn (X 44 s) + D ≤ t) ∧ xs 42 0 = (if hasv (q4 X) N = true then 1 else 0 : Int32) ∧ xs 43 0 = (if hasv (q5 X) N = true then X 44 (fstv (q5 X) N) else -1)
theorem Lad.fu {X xs : XX} {D : Nat} {Fu Fv : Nat → Prop} {N F : Nat} (h : Lad X xs D Fu N F) (k : ∀ t, Fv t → Fu t) : Lad X xs D Fv N F := by
  obtain ⟨a1, a2, a3, a4, a5, a6, a7, a8, a9, a10⟩ := h
  exact ⟨a1, a2, a3, a4, a5, fun s hs => ⟨(a6 s hs).1, (a6 s hs).2.1, (a6 s hs).2.2.1, fun t ht => (a6 s hs).2.2.2 t (k t ht)⟩, a7, fun s hs t ht => a8 s hs t (k t ht), a9, a10⟩
/-- how many strikes hold at a tick -/
def hq (X : XX) (D t : Nat) : Nat → Bool := fun s => decide (t < tn (X 44 s) + D)
theorem lad_hd {X xs : XX} {D : Nat} {Fu : Nat → Prop} {N F t : Nat} (h : Lad X xs D Fu N F) (hD : 1 ≤ D ∧ D ≤ 10000) (h37 : xs 37 0 = nI D) (ht : Fu t) (ht2 : t ≤ 1000000) : fdX xs (nI t) ≤ N ∧ (∀ s, s < fdX xs (nI t) → tn (X 44 s) + D ≤ t) ∧ hdA xs (nI t) = nI (ct (hq X D t) N) ∧ ct (hq X D t) N ≤ 400 := by
  obtain ⟨a1, a2, a3, a4, a5, a6, a7, a8, a9, a10⟩ := h
  have e39 : tn (xs 39 0) = N := by rw [a4, tn_nI (by omega)]
  have e40 : tn (xs 40 0) = F := by rw [a5, tn_nI (by omega)]
  have hle := fdv_le xs (nI t) (N - F) F
  have hsp := fdv_spec xs (nI t) (N - F) F
  have ef : fdX xs (nI t) = fdv xs (nI t) (N - F) F := by unfold fdX; rw [e39, e40]
  rw [← ef] at hle hsp
  generalize hf : fdX xs (nI t) = f at *
  have hc : ∀ s, s < N → ((nI t - xs 44 s < xs 37 0) ↔ t < tn (X 44 s) + D) := fun s hs => by
    have b := a6 s hs
    have b2 := b.2.2.2 t ht
    rw [b.1, b.2.1, h37, tn_nI (by omega), nI_subE rfl rfl b2, nI_ltI (by omega) (by omega)]
    omega
  have lo : ∀ s, s < f → tn (X 44 s) + D ≤ t := fun s hs => by
    by_cases e : s < F
    · exact a8 s e t ht
    · have := hsp.1 s (by omega) hs
      rw [hc s (by omega)] at this
      omega
  have hi : ∀ s, f ≤ s → s < N → t < tn (X 44 s) + D := fun s h1 h2 => by
    have k := hsp.2 (by omega)
    rw [hc f (by omega)] at k
    have := a7 f s h1 h2
    omega
  have cc : ct (hq X D t) N = N - f := ct_spl (by omega) (fun s hs => by unfold hq; have := lo s hs; exact decide_eq_false (by omega)) (fun s h1 h2 => by unfold hq; exact decide_eq_true (hi s h1 h2))
  refine ⟨by omega, lo, ?_, by omega⟩
  unfold hdA
  rw [hf, a4, cc]
  exact nI_subE rfl rfl (by omega)
theorem lad_climb {X xs : XX} {D E T t p c : Nat} {Fu Fv : Nat → Prop} {N F : Nat} (h : Lad X xs D Fu N F) (hN : N < 400) (hD : 1 ≤ D ∧ D ≤ 10000) (hE : 1 ≤ E ∧ E ≤ 10000) (h37 : xs 37 0 = nI D) (h38 : xs 38 0 = nI E) (x5 : X 5 0 = nI D) (x6 : X 6 0 = nI E) (x0 : X 0 0 = nI T) (hT : T ≤ 1000000) (x9 : X 9 p = nI t) (ht : Fu t) (htT : t ≤ T) (hv : ∀ u, Fv u → Fu u ∧ t ≤ u) :
    ∃ F', Lad (fsNew X p c) (sx_X4_climb xs (nI t) (nI T)) D Fv (N + 1) F' ∧ fsNew X p c 45 N = sx_X4_climb xs (nI t) (nI T) 41 0 ∧ fsNew X p c 43 N = nI c ∧ (∀ k s, s < N → 43 ≤ k → k ≤ 45 → fsNew X p c k s = X k s) := by
  obtain ⟨f1, f2, f3, f4⟩ := lad_hd h hD h37 ht (by omega)
  obtain ⟨a1, a2, a3, a4, a5, a6, a7, a8, a9, a10⟩ := h
  have t46 : tn (X 46 0) = N := by rw [a3, tn_nI (by omega)]
  have hold : itr (f_X8_hold X p) 0 N = nI (ct (hq X D t) N) := itr_cnt N (fun i a hi => by
    unfold f_X8_hold hq
    have b := a6 i hi
    have b2 := b.2.2.2 t ht
    rw [x5, x9, b.2.1, nI_addE rfl rfl, tn_nI (by omega)]
    congr 1
    by_cases e : tn (X 44 i) + D ≤ t
    · rw [if_pos (nI_le e (by omega)), if_neg (by simpa using e)]
    · rw [if_neg (fun q => e ((nI_leI (by omega) (by omega)).mp q)), if_pos (decide_eq_true (by omega))])
  generalize hk : ct (hq X D t) N = k at *
  obtain ⟨K, hK, hK3⟩ : ∃ K, (if (hdA xs (nI t)) < 3 then hdA xs (nI t) else 3 : Int32) = nI K ∧ (K = 0 ∨ K = 1 ∨ K = 2 ∨ K = 3) ∧ (if 3 ≤ nI k then 3 else nI k : Int32) = nI K := by
    rw [f3, show (3 : Int32) = nI 3 from rfl]
    by_cases e : k < 3
    · exact ⟨k, by rw [if_pos (nI_lt e (by decide))], by omega, by rw [if_neg (fun q => by have := (nI_leI (by decide) (by omega)).mp q; omega)]⟩
    · exact ⟨3, by rw [if_neg (fun q => e ((nI_ltI (by omega) (by decide)).mp q))], by omega, by rw [if_pos (nI_le (by omega) (by omega))]⟩
  have hN4 : ¬ nI 400 ≤ xs 39 0 := by rw [a4]; exact fun q => by have := (nI_leI (by decide) (by omega)).mp q; omega
  obtain ⟨c39, c40, c41, c42, c43, c44, -⟩ := climb_at (nw := nI T) hN4 hK
  generalize hX' : sx_X4_climb xs (nI t) (nI T) = xs' at *
  have n46 : fsNew X p c 46 0 = nI (N + 1) := by unfold fsNew; rw [show (up2 (up2 (up2 (up2 X 43 (tn (X 46 0)) (nI c)) 44 (tn (X 46 0)) (X 9 p)) 45 (tn (X 46 0)) (if 3 ≤ (itr (f_X8_hold X p) 0 (tn (X 46 0))) then 3 else itr (f_X8_hold X p) 0 (tn (X 46 0)) : Int32)) 46 0 ((X 46 0) + 1)) 46 0 = X 46 0 + 1 by simp [up2_at], a3, nI_1]
  have n45 : fsNew X p c 45 N = nI K := by unfold fsNew; rw [t46, hold, hK3.2]; simp [up2_at]
  have n44 : fsNew X p c 44 N = nI t := by unfold fsNew; rw [t46, x9]; simp [up2_at]
  have n43 : fsNew X p c 43 N = nI c := by unfold fsNew; rw [t46]; simp [up2_at]
  have no : ∀ k s, s < N → 43 ≤ k → k ≤ 45 → fsNew X p c k s = X k s := fun k s hs h1 h2 => by
    unfold fsNew; rw [t46, up2_o (by omega), up2_o (by omega), up2_o (by omega), up2_o (by omega)]
  have nf : ∀ k, k < 43 → fsNew X p c k = X k := fun k hk => by
    funext i; unfold fsNew; rw [up2_o (by omega), up2_o (by omega), up2_o (by omega), up2_o (by omega)]
  have g4 : ∀ s, s < N → q4 (fsNew X p c) s = q4 X s := fun s hs => by
    unfold q4; rw [no 44 s hs (by decide) (by decide), no 45 s hs (by decide) (by decide), nf 6 (by decide), nf 0 (by decide)]
  have g5 : ∀ s, s < N → q5 (fsNew X p c) s = q5 X s := fun s hs => by
    unfold q5; rw [no 45 s hs (by decide) (by decide)]
  have h4 : hasv (q4 (fsNew X p c)) (N + 1) = (hasv (q4 X) N || q4 (fsNew X p c) N) := by
    show (hasv (q4 (fsNew X p c)) N || q4 (fsNew X p c) N) = _
    rw [hasv_cg g4]
  have h5 : hasv (q5 (fsNew X p c)) (N + 1) = (hasv (q5 X) N || q5 (fsNew X p c) N) := by
    show (hasv (q5 (fsNew X p c)) N || q5 (fsNew X p c) N) = _
    rw [hasv_cg g5]
  have i5 : fstv (q5 (fsNew X p c)) (N + 1) = (if hasv (q5 X) N = true then fstv (q5 X) N else if q5 (fsNew X p c) N = true then N else N + 1) := by
    show (if hasv (q5 (fsNew X p c)) N = true then fstv (q5 (fsNew X p c)) N else if q5 (fsNew X p c) N = true then N else N + 1) = _
    rw [hasv_cg g5, fstv_cg g5]
  have v4 : q4 (fsNew X p c) N = (decide (K ≠ 0) && (decide (K ≠ 3) && decide (T < t + K * E))) := by
    unfold q4
    rw [n44, n45, nf 6 (by decide), nf 0 (by decide), x6, x0, nI_mulE rfl rfl, nI_addE rfl rfl]
    have b : K * E ≤ 30000 := by rcases hK3.1 with q | q | q | q <;> subst q <;> omega
    have r1 : (nI K ≤ 0) ↔ K = 0 := by rw [show (0 : Int32) = nI 0 from rfl, nI_leI (by omega) (by decide)]; omega
    have r2 : (3 ≤ nI K) ↔ K = 3 := by rw [show (3 : Int32) = nI 3 from rfl, nI_leI (by decide) (by omega)]; omega
    have r3 : (nI (t + K * E) ≤ nI T) ↔ t + K * E ≤ T := nI_leI (by omega) (by omega)
    simp only [r1, r2, r3, Nat.not_le]
  have v5 : q5 (fsNew X p c) N = decide (K = 3) := by
    unfold q5; rw [n45]
    have : (nI K = 3) ↔ K = 3 := by rw [show (3 : Int32) = nI 3 from rfl, nI_eq (by omega) (by decide)]
    simp only [this]
  refine ⟨fdX xs (nI t), ⟨by omega, by omega, n46, by rw [c39, a4, nI_1], c40, fun s hs => ?_, fun s s' h1 h2 => ?_, fun s hs u hu => ?_, ?_, ?_⟩, by rw [n45, c41], n43, no⟩
  · have e39 : tn (xs 39 0) = N := by rw [a4, tn_nI (by omega)]
    rw [c44, e39]
    by_cases e : s = N
    · rw [if_pos e, e, n44, tn_nI (by omega)]
      exact ⟨rfl, rfl, by omega, fun u hu => (hv u hu).2⟩
    · have b := a6 s (by omega)
      rw [if_neg e, no 44 s (by omega) (by decide) (by decide)]
      exact ⟨b.1, b.2.1, b.2.2.1, fun u hu => b.2.2.2 u (hv u hu).1⟩
  · by_cases e : s' = N
    · rw [e, n44, tn_nI (by omega)]
      by_cases e2 : s = N
      · rw [e2, n44, tn_nI (by omega)]; exact Nat.le_refl _
      · rw [no 44 s (by omega) (by decide) (by decide)]; exact (a6 s (by omega)).2.2.2 t ht
    · rw [no 44 s (by omega) (by decide) (by decide), no 44 s' (by omega) (by decide) (by decide)]
      exact a7 s s' h1 (by omega)
  · rw [no 44 s (by omega) (by decide) (by decide)]
    have := f2 s hs; have := (hv u hu).2; omega
  · rw [c42, h4, v4, a9, h38]
    have r2 : (3 ≤ nI K) ↔ K = 3 := by rw [show (3 : Int32) = nI 3 from rfl, nI_leI (by decide) (by omega)]; omega
    have b : K * E ≤ 30000 := by rcases hK3.1 with q | q | q | q <;> subst q <;> omega
    have r3 : (nI K * nI E ≤ nI T - nI t) ↔ t + K * E ≤ T := by
      rw [nI_mulE rfl rfl, nI_subE rfl rfl htT, nI_leI (by omega) (by omega)]; omega
    simp only [r2, r3]
    cases hasv (q4 X) N
    · rcases hK3.1 with q | q | q | q <;> subst q
      · simp [htT]
      · rw [Nat.one_mul]
        by_cases e : t + E ≤ T
        · simp [e, Nat.not_lt.mpr e]
        · simp [e, Nat.lt_of_not_le e]
      · by_cases e : t + 2 * E ≤ T
        · simp [e]
        · simp [e]
      · simp
    · by_cases q : K = 3
      · simp [q]
      · simp [q]
  · have r2 : (3 ≤ nI K) ↔ K = 3 := by rw [show (3 : Int32) = nI 3 from rfl, nI_leI (by decide) (by omega)]; omega
    rw [c43, h5, i5, v5, a10]
    by_cases q : hasv (q5 X) N = true
    · have l := fstv_lt q
      have b := a6 _ l
      rw [q, no 44 _ (by simpa using l) (by decide) (by decide)]
      have nn : 0 ≤ X 44 (fstv (q5 X) N) := by rw [b.2.1, show (0 : Int32) = nI 0 from rfl]; exact nI_le (by omega) (by omega)
      simp [nn]
    · have q' : hasv (q5 X) N = false := by simpa using q
      rw [q']
      by_cases e : K = 3
      · rw [if_pos (r2.mpr e), decide_eq_true e]
        simp only [Bool.false_or, if_true, Bool.false_eq_true, if_false]
        rw [n44, if_neg (by decide)]
      · simp [r2, e]
end R18
