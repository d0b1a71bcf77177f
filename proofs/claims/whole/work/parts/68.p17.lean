/-! THE LADDER: the strikes of a writer -/
section R17
def q3 (X : XX) : Nat → Bool := fun i => decide (¬ (X 44 i + X 5 0 ≤ X 0 0))
def q4 (X : XX) : Nat → Bool := fun i => decide (¬ X 45 i ≤ 0) && (decide (¬ 3 ≤ X 45 i) && decide (¬ (X 44 i + X 45 i * X 6 0 ≤ X 0 0)))
def q5 (X : XX) : Nat → Bool := fun i => decide (X 45 i = 3)
theorem itr_front (g : Nat → Int32 → Int32) (a : Int32) : ∀ k, itr g a (k + 1) = itr (fun j b => g (j + 1) b) (g 0 a) k
  | 0 => rfl
  | k + 1 => by
    show g (k + 1) (itr g a (k + 1)) = g (k + 1) (itr (fun j b => g (j + 1) b) (g 0 a) k)
    rw [itr_front g a k]
theorem itd_f (f : Nat → Int32 → Int32) (a : Int32) (N : Nat) : itd f a (N + 1) 0 = itd f (f N a) N 0 := by
  unfold itd
  rw [Nat.sub_zero, Nat.sub_zero, itr_front]
  show itr _ (f N a) N = _
  exact itr_cg _ (fun j b hj => by rw [show N + 1 - 1 - (j + 1) = N - 1 - j by omega])
theorem itd_3 (X : XX) : ∀ N a, itd (f_X8_writer_43_3 X) a N 0 = a + nI (ct (q3 X) N)
  | 0, a => (Int32.add_zero a).symm
  | N + 1, a => by
    rw [itd_f, itd_3 X N]
    show (a + (if X 44 N + X 5 0 ≤ X 0 0 then 0 else 1)) + nI (ct (q3 X) N) = a + nI (ct (q3 X) N + (if decide (¬ (X 44 N + X 5 0 ≤ X 0 0)) = true then 1 else 0))
    by_cases e : X 44 N + X 5 0 ≤ X 0 0
    · rw [if_pos e, if_neg (by simpa using e), Int32.add_zero]; rfl
    · rw [if_neg e, if_pos (decide_eq_true e), ← nI_1, Int32.add_assoc, Int32.add_comm 1]
theorem itd_4 (X : XX) : ∀ N a, itd (f_X8_writer_43_4 X) a N 0 = if hasv (q4 X) N = true then 1 else a
  | 0, a => rfl
  | N + 1, a => by
    rw [itd_f, itd_4 X N]
    have e0 : hasv (q4 X) (N + 1) = (hasv (q4 X) N || q4 X N) := rfl
    rw [e0]
    have ef : f_X8_writer_43_4 X N a = if q4 X N = true then 1 else a := by
      unfold f_X8_writer_43_4 q4
      by_cases c1 : X 45 N ≤ 0
      · simp [c1]
      · by_cases c2 : 3 ≤ X 45 N
        · simp [c1, c2]
        · by_cases c3 : X 44 N + X 45 N * X 6 0 ≤ X 0 0
          · simp [c1, c2, c3]
          · simp [c1, c2, c3]
    rw [ef]
    cases hasv (q4 X) N <;> simp
theorem itd_5 (X : XX) : ∀ N a, itd (f_X8_writer_43_5 X) a N 0 = if hasv (q5 X) N = true then X 44 (fstv (q5 X) N) else a
  | 0, a => rfl
  | N + 1, a => by
    rw [itd_f, itd_5 X N]
    have e0 : hasv (q5 X) (N + 1) = (hasv (q5 X) N || q5 X N) := rfl
    have e1 : fstv (q5 X) (N + 1) = (if hasv (q5 X) N = true then fstv (q5 X) N else if q5 X N = true then N else N + 1) := rfl
    rw [e0, e1]
    have ef : f_X8_writer_43_5 X N a = if q5 X N = true then X 44 N else a := by
      unfold f_X8_writer_43_5 q5
      by_cases c1 : X 45 N = 3
      · simp [c1]
      · simp [c1]
    rw [ef]
    cases hasv (q5 X) N
    · cases q5 X N <;> simp
    · simp
theorem fdv_spec (x : XX) (t : Int32) : ∀ k f, (∀ s, f ≤ s → s < fdv x t k f → ¬ (t - x 44 s < x 37 0)) ∧ (fdv x t k f < f + k → t - x 44 (fdv x t k f) < x 37 0)
  | 0, f => ⟨fun s a b => absurd (show s < f from b) (by omega), fun a => absurd (show f < f + 0 from a) (by omega)⟩
  | k + 1, f => by
    unfold fdv
    by_cases c : t - x 44 f < x 37 0
    · rw [if_pos c]; exact ⟨fun s a b => by omega, fun _ => c⟩
    · rw [if_neg c]
      obtain ⟨h1, h2⟩ := fdv_spec x t k (f + 1)
      refine ⟨fun s a b => ?_, fun a => h2 (by omega)⟩
      by_cases e : s = f
      · rw [e]; exact c
      · exact h1 s (by omega) b
theorem ct_spl {q : Nat → Bool} {f : Nat} : ∀ {N : Nat}, f ≤ N → (∀ s, s < f → q s = false) → (∀ s, f ≤ s → s < N → q s = true) → ct q N = N - f
  | 0, _, _, _ => (Nat.zero_sub f).symm
  | N + 1, h, h1, h2 => by
    show ct q N + (if q N = true then 1 else 0) = _
    by_cases e : f = N + 1
    · rw [if_neg (by rw [h1 N (by omega)]; decide), ct_0.mpr (fun i hi => h1 i (by omega))]; omega
    · rw [if_pos (h2 N (by omega) (by omega)), ct_spl (by omega) h1 (fun s a b => h2 s a (by omega))]; omega
theorem climb_at {x : XX} {t nw : Int32} (hN : ¬ nI 400 ≤ x 39 0) {L : Int32} (hL : (if (hdA x t) < 3 then hdA x t else 3 : Int32) = L) :
    sx_X4_climb x t nw 39 0 = x 39 0 + 1 ∧ sx_X4_climb x t nw 40 0 = nI (fdX x t) ∧ sx_X4_climb x t nw 41 0 = L ∧
    sx_X4_climb x t nw 42 0 = (if 3 ≤ L then x 42 0 else if x 42 0 = 0 then (if L * x 38 0 ≤ nw - t then 0 else 1) else 1) ∧
    sx_X4_climb x t nw 43 0 = (if 3 ≤ L then (if 0 ≤ x 43 0 then x 43 0 else t) else x 43 0) ∧
    (∀ s, sx_X4_climb x t nw 44 s = if s = tn (x 39 0) then t else x 44 s) ∧
    (∀ k, k < 39 ∨ 44 < k → sx_X4_climb x t nw k = x k) := by
  have h0 : ∀ k i, k ≠ 40 → hdX x t k i = x k i := fun k i e => by unfold hdX; exact up2_o (fun q => e q.1)
  have h1 : hdX x t 40 0 = nI (fdX x t) := by unfold hdX; simp [up2_at]
  unfold sx_X4_climb
  rw [hL, h0 39 0 (by decide), h0 43 0 (by decide), h0 42 0 (by decide), h0 38 0 (by decide), if_neg hN]
  by_cases c1 : 3 ≤ L
  · rw [if_pos c1, if_pos c1, if_pos c1]
    by_cases c2 : 0 ≤ x 43 0
    · rw [if_pos c2, if_pos c2]
      refine ⟨by simp [up2_at], by simp [up2_at, h1], by simp [up2_at], ?_, ?_, fun s => ?_, fun k hk => ?_⟩
      · rw [up2_o (by omega), up2_o (by omega), up2_o (by omega), h0 42 0 (by decide)]
      · rw [up2_o (by omega), up2_o (by omega), up2_o (by omega), h0 43 0 (by decide)]
      · rw [up2_o (by omega)]
        by_cases e : s = tn (x 39 0)
        · rw [if_pos e, e]; simp [up2_at]
        · rw [if_neg e, up2_o (by omega), up2_o (by omega), h0 44 s (by decide)]
      · funext i
        rw [up2_o (by omega), up2_o (by omega), up2_o (by omega), h0 k i (by omega)]
    · rw [if_neg c2, if_neg c2]
      refine ⟨by simp [up2_at], by simp [up2_at, h1], by simp [up2_at], ?_, by simp [up2_at], fun s => ?_, fun k hk => ?_⟩
      · rw [up2_o (by omega), up2_o (by omega), up2_o (by omega), up2_o (by omega), h0 42 0 (by decide)]
      · rw [up2_o (by omega), up2_o (by omega)]
        by_cases e : s = tn (x 39 0)
        · rw [if_pos e, e]; simp [up2_at]
        · rw [if_neg e, up2_o (by omega), up2_o (by omega), h0 44 s (by decide)]
      · funext i
        rw [up2_o (by omega), up2_o (by omega), up2_o (by omega), up2_o (by omega), h0 k i (by omega)]
  · rw [if_neg c1, if_neg c1, if_neg c1]
    refine ⟨by simp [up2_at], by simp [up2_at, h1], by simp [up2_at], by simp [up2_at], ?_, fun s => ?_, fun k hk => ?_⟩
    · rw [up2_o (by omega), up2_o (by omega), up2_o (by omega), up2_o (by omega), h0 43 0 (by decide)]
    · rw [up2_o (by omega), up2_o (by omega)]
      by_cases e : s = tn (x 39 0)
      · rw [if_pos e, e]; simp [up2_at]
      · rw [if_neg e, up2_o (by omega), up2_o (by omega), h0 44 s (by decide)]
    · funext i
      rw [up2_o (by omega), up2_o (by omega), up2_o (by omega), up2_o (by omega), h0 k i (by omega)]
end R17
