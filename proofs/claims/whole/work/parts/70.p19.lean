section R19
variable {m : XX} {w : Nat → Int64} {x : XX} {y : YY} {z : Nat → Int64} {n : Nat}
def Fut (x : XX) (y : YY) (p : Nat) : Nat → Prop := fun t => t = tn (x 0 0) ∨ ∃ q, p ≤ q ∧ q < y 20 0 ∧ t = tn (x 15 q)
def LRel (m x : XX) (y : YY) (au : Int32) (lst p c : Nat) (X : XX) (s : XX × Bool) : Prop :=
  (∀ k, k < 39 ∨ 44 < k → s.1 k = x k) ∧ fsOk m p c X ∧
  (∀ i, i < tn (X 46 0) → ∃ k, k < y 20 1 ∧ X 43 i = nI k ∧ fsQ m p c k = true ∧ ¬ s_X0_bringsStrike x y k = 0) ∧
  (s.2 = false → (∃ N F, Lad X s.1 (tn (x 37 0)) (Fut x y p) N F) ∧ (∀ k, lst = k + 1 → k < y 20 1 → x 12 (y 2 k) = au → fsQ m p c k = false)) ∧
  (s.2 = true → ∃ k, lst = k + 1 ∧ ∃ i, i < tn (X 46 0) ∧ X 43 i = nI k ∧ X 45 i = s.1 41 0 ∧ ∀ j, j < i → X 43 j ≠ nI k)
theorem br_eq {x xs : XX} {y : YY} {c : Nat} (h : ∀ k, k < 39 ∨ 44 < k → xs k = x k) : s_X0_bringsStrike xs y c = s_X0_bringsStrike x y c := by
  unfold s_X0_bringsStrike s_X0_guiltStands
  rw [h 19 (by omega), h 5 (by omega)]
theorem fs_new_o {X : XX} {p c k s : Nat} (hs : s < tn (X 46 0)) (h1 : 43 ≤ k) (h2 : k ≤ 45) : fsNew X p c k s = X k s := by
  unfold fsNew; rw [up2_o (by omega), up2_o (by omega), up2_o (by omega), up2_o (by omega)]
theorem fs_new_43 {X : XX} {p c : Nat} : fsNew X p c 43 (tn (X 46 0)) = nI c := by unfold fsNew; simp [up2_at]
theorem fs_new_46 {X : XX} {p c : Nat} (h : X 46 0 = nI (tn (X 46 0))) (h2 : tn (X 46 0) < 400) : tn (fsNew X p c 46 0) = tn (X 46 0) + 1 := by
  have e : fsNew X p c 46 0 = X 46 0 + 1 := by unfold fsNew; simp [up2_at]
  rw [e, h, nI_1, tn_nI (by omega), tn_nI (by omega)]
theorem m13 (h : Rel m w x y z n) {k : Nat} (hk : k < y 20 1) : tn (m 13 k) = y 2 k := by
  rw [(h.c.2 k hk).1]
  have := (h.ci.1 k hk).1
  have := h.bP
  exact tn_nI (by omega)
theorem fsQ_iff (h : Rel m w x y z n) {p c k : Nat} (hk : k < y 20 1) : fsQ m p c k = true ↔ (y 2 k < p ∨ (y 2 k = p ∧ k < c)) := by
  unfold fsQ
  rw [m13 h hk]
  simp
theorem fsQ_no (h : Rel m w x y z n) {p c k : Nat} (hk : k < y 20 1) : fsQ m p c k = false ↔ ¬ (y 2 k < p ∨ (y 2 k = p ∧ k < c)) := by
  rw [← fsQ_iff h hk]; simp
theorem hit_iff (h : Rel m w x y z n) {X : XX} {p c : Nat} (hp : p < y 20 0) (hc : c < y 20 1) (e : ∀ k, k ≠ 43 → k ≠ 44 → k ≠ 45 → k ≠ 46 → X k = m k) : fsHit X p c = true ↔ (y 2 c = p ∧ ¬ s_X0_bringsStrike x y c = 0) := by
  have rc := h.c.2 c hc
  have ci := h.ci.1 c hc
  have hP := h.bP
  unfold fsHit
  have es : s_X8_stands X c = s_X8_stands m c := by unfold s_X8_stands; rw [e 15 (by decide) (by decide) (by decide) (by decide)]
  rw [es, stO h hc, e 13 (by decide) (by decide) (by decide) (by decide), e 3 (by decide) (by decide) (by decide) (by decide), e 14 (by decide) (by decide) (by decide) (by decide), rc.1, rc.2.1, tn_nI (by omega), (h.a.2.1 (y 3 c) (by omega)).2.2.1]
  have e1 : (nI (y 2 c) = nI p) = (y 2 c = p) := propext (nIE (by omega) (by omega))
  simp only [e1]
  unfold s_X0_bringsStrike
  by_cases a : y 2 c = p
  · by_cases b : s_X0_guiltStands x c = 0
    · simp [a, b]
    · by_cases d : x 5 (y 3 c) = 2
      · simp [a, b, d]
      · simp [a, b, d]
  · simp [a]
theorem lad_in (h : Rel m w x y z n) {au : Int32} {lst p c : Nat} {X : XX} {s : XX × Bool} (hp : p < y 20 0) (hau : x 12 p = au) (hc : c < y 20 1) (hb : ∀ k, lst = k + 1 → ¬ s_X0_bringsStrike x y k = 0) (q : LRel m x y au lst p c X s) : LRel m x y au lst p (c + 1) (if fsHit X p c = true then fsNew X p c else X) (clI y p lst c s) := by
  obtain ⟨i1, i2, i3, i4, i5⟩ := q
  have hP := h.bP; have hC := h.bC
  have mono : ∀ k, k < nC m → fsQ m p c k = true → fsQ m p (c + 1) k = true := fun k hk e => by
    rw [h.eC] at hk
    rw [fsQ_iff h hk] at e ⊢; omega
  have hit := hit_iff h hp hc i2.1
  by_cases a : y 2 c = p
  · by_cases b : s_X0_bringsStrike x y c = 0
    · rw [if_neg (fun k => (hit.mp k).2 b)]
      have ne : ∀ k, lst = k + 1 → k ≠ c := fun k e1 e2 => by rw [e2] at e1; exact hb c e1 b
      have es : clI y p lst c s = s := by
        unfold clI
        by_cases f : s.2 = true
        · rw [if_pos f]
        · rw [if_neg f, if_pos a, br_eq i1, if_pos b, decide_eq_false (fun k => ne c k.symm rfl)]
          have f2 : s.2 = false := by simpa using f
          rw [← f2]
      rw [es]
      refine ⟨i1, fsOk_mono i2 mono, fun i hi => ?_, fun f => ⟨(i4 f).1, fun k e1 hk e2 => ?_⟩, i5⟩
      · obtain ⟨k, k1, k2, k3, k4⟩ := i3 i hi
        exact ⟨k, k1, k2, mono k (by rw [h.eC]; exact k1) k3, k4⟩
      · have := (i4 f).2 k e1 hk e2
        have n2 := ne k e1
        rw [fsQ_no h hk] at this ⊢; omega
    · rw [if_pos (hit.mpr ⟨a, b⟩)]
      have h13 : X 13 c = nI p := by rw [i2.1 13 (by decide) (by decide) (by decide) (by decide), (h.c.2 c hc).1, a]
      obtain ⟨l1, l2⟩ := i2.lt h.mi (by rw [h.eC]; exact hc) h13 (by omega)
      have t46 := fs_new_46 (p := p) (c := c) i2.2.1 l2
      have ok : fsOk m p (c + 1) (fsNew X p c) := by
        refine ⟨fun k h1 h2 h3 h4 => ?_, ?_, by rw [t46]; exact l1⟩
        · unfold fsNew
          rw [up2_ne h4, up2_ne h3, up2_ne h2, up2_ne h1]
          exact i2.1 k h1 h2 h3 h4
        · have e : fsNew X p c 46 0 = X 46 0 + 1 := by unfold fsNew; simp [up2_at]
          rw [t46, e, i2.2.1, nI_1, tn_nI (by omega)]
      have rows : ∀ i, i < tn (fsNew X p c 46 0) → ∃ k, k < y 20 1 ∧ fsNew X p c 43 i = nI k ∧ fsQ m p (c + 1) k = true ∧ ¬ s_X0_bringsStrike x y k = 0 := fun i hi => by
        rw [t46] at hi
        by_cases e : i = tn (X 46 0)
        · refine ⟨c, hc, by rw [e]; exact fs_new_43, (fsQ_iff h hc).mpr (by omega), b⟩
        · obtain ⟨k, k1, k2, k3, k4⟩ := i3 i (by omega)
          exact ⟨k, k1, by rw [fs_new_o (by omega) (by decide) (by decide)]; exact k2, mono k (by rw [h.eC]; exact k1) k3, k4⟩
      by_cases f : s.2 = true
      · have es : clI y p lst c s = s := by unfold clI; rw [if_pos f]
        rw [es]
        refine ⟨i1, ok, rows, fun g => absurd (f.symm.trans g) (by decide), fun _ => ?_⟩
        obtain ⟨k, k1, i, h1, h2, h3, h4⟩ := i5 f
        refine ⟨k, k1, i, by rw [t46]; omega, by rw [fs_new_o (by omega) (by decide) (by decide)]; exact h2, by rw [fs_new_o (by omega) (by decide) (by decide)]; exact h3, fun j hj => by rw [fs_new_o (by omega) (by decide) (by decide)]; exact h4 j hj⟩
      · have f2 : s.2 = false := by simpa using f
        obtain ⟨⟨N, F, hL⟩, i42⟩ := i4 f2
        have hN : tn (X 46 0) = N := by rw [hL.2.2.1, tn_nI (by have := hL.1; omega)]
        have ra := h.a
        have d1 := tn_of (k := 10000) (by decide) (Int32.le_trans (by decide) ra.2.2.2.1.2.2.1.1) ra.2.2.2.1.2.2.1.2
        have d2 := tn_of (k := 10000) (by decide) (Int32.le_trans (by decide) ra.2.2.2.1.2.2.2.1) ra.2.2.2.1.2.2.2.2
        have d3 := tn_of (k := 1000000) (by decide) ra.1.2.1 ra.1.2.2
        have one : ∀ {v : Int32}, 1 ≤ v → v = nI (tn v) → tn v ≤ 10000 → 1 ≤ tn v := fun {v} a b c => by
          rw [b, show (1 : Int32) = nI 1 from rfl, nI_leI (by decide) (by omega)] at a; exact a
        have tk : ∀ r, r < y 20 0 → x 15 r = nI (tn (x 15 r)) ∧ tn (x 15 r) ≤ tn (x 0 0) := fun r hr => by
          have b := (h.p.2.1 r hr).2.2.2.2.2.2
          exact tn_of (by omega) b.1 (by rw [← d3.1]; exact b.2)
        have mn : ∀ r, p ≤ r → r < y 20 0 → tn (x 15 p) ≤ tn (x 15 r) := fun r h1 h2 => by
          have b := h.p.2.2 p r h1 h2
          rw [(tk p hp).1, (tk r h2).1, nI_leI (by have := (tk p hp).2; omega) (by have := (tk r h2).2; omega)] at b
          exact b
        obtain ⟨F', hL', e45, e43, no⟩ := lad_climb (E := tn (x 38 0)) (T := tn (x 0 0)) (t := tn (x 15 p)) (p := p) (c := c) (Fv := Fut x y p) hL (by omega) ⟨one ra.2.2.2.1.2.2.1.1 d1.1 d1.2, d1.2⟩ ⟨one ra.2.2.2.1.2.2.2.1 d2.1 d2.2, d2.2⟩ (by rw [i1 37 (by omega)]; exact d1.1) (by rw [i1 38 (by omega)]; exact d2.1) (by rw [i2.1 5 (by decide) (by decide) (by decide) (by decide), ra.2.2.2.1.1]; exact d1.1) (by rw [i2.1 6 (by decide) (by decide) (by decide) (by decide), ra.2.2.2.1.2.1]; exact d2.1) (by rw [i2.1 0 (by decide) (by decide) (by decide) (by decide), ra.1.1]; exact d3.1) d3.2 (by rw [i2.1 9 (by decide) (by decide) (by decide) (by decide), (h.p.2.1 p hp).2.1]; exact (tk p hp).1) (Or.inr ⟨p, Nat.le_refl _, hp, rfl⟩) (tk p hp).2 (fun u hu => ⟨hu, by
            rcases hu with e | ⟨r, r1, r2, r3⟩
            · rw [e]; exact (tk p hp).2
            · rw [r3]; exact mn r r1 r2⟩)
        have ec : clI y p lst c s = (sx_X4_climb s.1 (nI (tn (x 15 p))) (nI (tn (x 0 0))), decide (c + 1 = lst)) := by
          unfold clI
          rw [if_neg f, if_pos a, br_eq i1, if_neg b, i1 15 (by omega), i1 0 (by omega), ← (tk p hp).1, ← d3.1]
        rw [ec]
        have hN4 : ¬ nI 400 ≤ s.1 39 0 := by rw [hL.2.2.2.1]; exact fun q => by have := (nI_leI (by decide) (by omega)).mp q; omega
        refine ⟨fun k hk => ?_, ok, rows, fun g => ?_, fun g => ?_⟩
        · show sx_X4_climb s.1 _ _ k = x k
          rw [(climb_at hN4 rfl).2.2.2.2.2.2 k hk]; exact i1 k hk
        · have g2 : ¬ c + 1 = lst := by simpa using g
          refine ⟨⟨N + 1, F', hL'⟩, fun k e1 hk e2 => ?_⟩
          have := i42 k e1 hk e2
          have n2 : k ≠ c := fun e => g2 (by rw [e1, e])
          rw [fsQ_no h hk] at this ⊢; omega
        · have g2 : c + 1 = lst := by simpa using g
          refine ⟨c, g2.symm, N, by rw [t46]; omega, e43, e45, fun j hj => ?_⟩
          rw [no 43 j hj (by decide) (by decide)]
          obtain ⟨k, k1, k2, k3, k4⟩ := i3 j (by omega)
          rw [k2]
          rw [fsQ_iff h k1] at k3
          exact fun e => by rw [nIE (by omega) (by omega)] at e; rw [e] at k3; omega
  · rw [if_neg (fun k => a (hit.mp k).1)]
    have es : clI y p lst c s = s := by
      unfold clI
      by_cases f : s.2 = true
      · rw [if_pos f]
      · rw [if_neg f, if_neg a]
    rw [es]
    refine ⟨i1, fsOk_mono i2 mono, fun i hi => ?_, fun f => ⟨(i4 f).1, fun k e1 hk e2 => ?_⟩, i5⟩
    · obtain ⟨k, k1, k2, k3, k4⟩ := i3 i hi
      exact ⟨k, k1, k2, mono k (by rw [h.eC]; exact k1) k3, k4⟩
    · have := (i4 f).2 k e1 hk e2
      rw [fsQ_no h hk] at this ⊢
      by_cases e : k = c
      · rw [e] at this ⊢; omega
      · omega
theorem lad_all (h : Rel m w x y z n) {au : Int32} {lst : Nat} (hb : ∀ k, lst = k + 1 → ¬ s_X0_bringsStrike x y k = 0) : ∀ p, p ≤ y 20 0 → LRel m x y au lst p 0 (fsP m au p) (clS x y au lst p)
  | 0, _ => by
    refine ⟨fun k hk => ?_, fsP_ok h.mi au 0 (Nat.zero_le _), fun i hi => ?_, fun _ => ⟨⟨0, 0, ?_⟩, fun k e1 hk e2 => (fsQ_no h hk).mpr (by omega)⟩, fun g => absurd g (by show ¬ false = true; decide)⟩
    · funext i
      show sx_X4_restart x k i = x k i
      unfold sx_X4_restart
      rw [up2_o (by omega), up2_o (by omega), up2_o (by omega), up2_o (by omega), up2_o (by omega)]
    · have : tn (fsP m au 0 46 0) = 0 := rfl
      omega
    · exact ⟨by omega, by omega, rfl, rfl, rfl, fun s hs => absurd hs (by omega), fun s s' _ hs => absurd hs (by omega), fun s hs => absurd hs (by omega), rfl, rfl⟩
  | p + 1, hp => by
    have ih := lad_all h (au := au) hb p (by omega)
    show LRel m x y au lst (p + 1) 0 (if m 8 p = au then fsC (fsP m au p) p (nC m) else fsP m au p) (clP y au lst p (clS x y au lst p))
    generalize fsP m au p = X at *
    generalize clS x y au lst p = s at *
    have fu : ∀ t, Fut x y (p + 1) t → Fut x y p t := fun t ht => by
      rcases ht with e | ⟨r, r1, r2, r3⟩
      · exact Or.inl e
      · exact Or.inr ⟨r, by omega, r2, r3⟩
    rw [(h.p.2.1 p (by omega)).1]
    by_cases e : x 12 p = au
    · rw [if_pos e]
      have ec : clP y au lst p s = itrG (clI y p lst) s (y 20 1) := by
        unfold clP
        by_cases f : s.2 = true
        · rw [if_pos f]
          exact (clI_stop (i := 0) (n := y 20 1) (Nat.zero_le _) f).symm
        · rw [if_neg f, ih.1 12 (by omega), if_pos e]
      rw [ec, h.eC]
      have key : ∀ c, c ≤ y 20 1 → LRel m x y au lst p c (fsC X p c) (itrG (clI y p lst) s c) := by
        intro c
        induction c with
        | zero => intro _; exact ih
        | succ c ic => intro hc; exact lad_in h (by omega) e (by omega) hb (ic (by omega))
      obtain ⟨i1, i2, i3, i4, i5⟩ := key (y 20 1) (Nat.le_refl _)
      refine ⟨i1, fsOk_mono i2 (fun k hk q => ?_), fun i hi => ?_, fun f => ⟨?_, fun k e1 hk e2 => ?_⟩, i5⟩
      · rw [h.eC] at hk
        rw [fsQ_iff h hk] at q ⊢; omega
      · obtain ⟨k, k1, k2, k3, k4⟩ := i3 i hi
        exact ⟨k, k1, k2, by rw [fsQ_iff h k1] at k3 ⊢; omega, k4⟩
      · obtain ⟨N, F, hL⟩ := (i4 f).1
        exact ⟨N, F, hL.fu fu⟩
      · have := (i4 f).2 k e1 hk e2
        rw [fsQ_no h hk] at this ⊢; omega
    · rw [if_neg e]
      have ec : clP y au lst p s = s := by
        unfold clP
        by_cases f : s.2 = true
        · rw [if_pos f]
        · rw [if_neg f, ih.1 12 (by omega), if_neg e]
      rw [ec]
      obtain ⟨i1, i2, i3, i4, i5⟩ := ih
      refine ⟨i1, fsOk_mono i2 (fun k hk q => ?_), fun i hi => ?_, fun f => ⟨?_, fun k e1 hk e2 => ?_⟩, i5⟩
      · rw [h.eC] at hk
        rw [fsQ_iff h hk] at q ⊢; omega
      · obtain ⟨k, k1, k2, k3, k4⟩ := i3 i hi
        exact ⟨k, k1, k2, by rw [fsQ_iff h k1] at k3 ⊢; omega, k4⟩
      · obtain ⟨N, F, hL⟩ := (i4 f).1
        exact ⟨N, F, hL.fu fu⟩
      · have := (i4 f).2 k e1 hk e2
        rw [fsQ_no h hk] at this ⊢
        have n2 : y 2 k ≠ p := fun q => e (by rw [← q]; exact e2)
        omega
end R19
