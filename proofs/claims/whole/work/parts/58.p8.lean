section R8
variable {m : XX} {w : Nat → Int64} {x : XX} {y : YY} {z : Nat → Int64} {n : Nat}
theorem nxt_zero {y : YY} {p i : Nat} (h : ∀ c, i ≤ c → c < y 20 1 → y 2 c ≠ p) : nxt y p i = 0 := by
  rcases Nat.eq_zero_or_pos (nxt y p i) with q | q
  · exact q
  · obtain ⟨c, -, h2, h3, h4, -⟩ := nxt_some (y := y) (p := p) (i := i) (by omega)
    exact absurd h4 (h c h2 h3)
theorem nxt_is {y : YY} {p i c : Nat} (h1 : i ≤ c) (h2 : c < y 20 1) (h3 : y 2 c = p) (h4 : ∀ b, i ≤ b → b < c → y 2 b ≠ p) : nxt y p i = c + 1 := by
  rcases Nat.eq_zero_or_pos (nxt y p i) with q | q
  · exact absurd h3 (nxt_none q c h1 h2)
  · obtain ⟨d, g1, g2, g3, g4, g5⟩ := nxt_some (y := y) (p := p) (i := i) (by omega)
    rcases Nat.lt_trichotomy c d with r | r | r
    · exact absurd h3 (g5 c h1 r)
    · rw [g1, r]
    · exact absurd g4 (h4 d g2 r)
theorem CL.cg {y y' : YY} (e0 : y' 0 = y 0) (e2 : y' 2 = y 2) (e5 : y' 5 = y 5) (e20 : y' 20 0 = y 20 0) (e21 : y' 20 1 = y 20 1) (h : CL y) : CL y' := by
  have e : ∀ p i, nxt y' p i = nxt y p i := fun p i => by unfold nxt; rw [e21]; exact nxtF_cg e2 p _ i
  refine ⟨fun p hp => ?_, fun c hc => ?_⟩
  · rw [e20] at hp; rw [e0, e]; exact h.1 p hp
  · rw [e21] at hc; rw [e5, e2, e]; exact h.2 c hc
theorem rel_post (h : Rel m w x y z n) {wr re ma : Int32} {cp : Nat} (c2 : 1 ≤ re ∧ re ≤ 1000) (c3 : 0 ≤ ma ∧ ma ≤ 255) (hn : y 20 0 < 300) (hc1 : y 20 0 < cp) (hc2 : cp ≤ 600) : Rel (up2 (up2 (up2 (up2 (up2 m 8 (nP m) wr) 9 (nP m) (m 0 0)) 10 (nP m) re) 11 (nP m) ma) 12 0 ((m 12 0) + 1)) w (poX x (y 20 0) wr re ma (x 0 0)) (poY y cp) z n := by
  have eP := h.eP
  rw [eP]
  have e20 : poY y cp 20 0 = y 20 0 + 1 := rfl
  refine ⟨h.wz, h.a, ⟨?_, fun p hp => ?_, fun p q hpq hq => ?_⟩, h.c, h.s, h.g, h.v, h.hh, h.q, ?_, ⟨fun p hp => ?_, fun c hc => ?_⟩, fun p hp => ?_, h.n512⟩
  · show m 12 0 + 1 = nI (y 20 0 + 1)
    rw [h.p.1, nI_1]
  · rw [e20] at hp
    by_cases e : p = y 20 0
    · subst e
      have h8 : wr = wr ∧ m 0 0 = x 0 0 ∧ re = re ∧ ma = ma ∧ (1 ≤ re ∧ re ≤ 1000) ∧ (0 ≤ ma ∧ ma ≤ 255) ∧ (0 ≤ x 0 0 ∧ x 0 0 ≤ x 0 0) := ⟨rfl, h.a.1.1, rfl, rfl, c2, c3, h.a.1.2.1, Int32.le_refl _⟩
      simpa [poX, up2, upd] using h8
    · have h8 := h.p.2.1 p (by omega)
      simpa [poX, up2, upd, e] using h8
  · rw [e20] at hq
    by_cases e1 : q = y 20 0
    · by_cases e2 : p = y 20 0
      · rw [e1, e2]; exact Int32.le_refl _
      · have h8 := (h.p.2.1 p (by omega)).2.2.2.2.2.2.2
        simpa [poX, up2, upd, e1, e2] using h8
    · have h8 := h.p.2.2 p q hpq (by omega)
      simpa [poX, up2, upd, e1, show p ≠ y 20 0 by omega] using h8
  · obtain ⟨i1, i2, i3, i4, i5, i6, i7⟩ := h.ci
    refine ⟨fun c hc => ?_, fun p hp => ?_, i3, by rw [e20]; omega, i5, i6, fun l hl => ?_⟩
    · have := i1 c hc
      refine ⟨?_, this.2⟩
      rw [e20]; show y 2 c < _; omega
    · rw [e20] at hp
      by_cases e : p = y 20 0
      · subst e
        simp [poY, upY]
      · have := i2 p (by omega)
        simpa [poY, upY, e] using this
    · match l, hl with
      | 0, _ => show y 20 0 + 1 ≤ cp ∧ cp ≤ 600; omega
      | 1, hl => exact i7 1 hl
      | 2, hl => exact i7 2 hl
  · have e : ∀ p i, nxt (poY y cp) p i = nxt y p i := fun p i => nxtF_cg (y' := poY y cp) (y := y) rfl p _ i
    rw [e]
    rw [e20] at hp
    by_cases e1 : p = y 20 0
    · subst e1
      rw [nxt_zero (fun c _ hc => by have := (h.ci.1 c hc).1; omega)]
      simp [poY, upY]
    · have := h.cl.1 p (by omega)
      simpa [poY, upY, e1] using this
  · have e : ∀ p i, nxt (poY y cp) p i = nxt y p i := fun p i => nxtF_cg (y' := poY y cp) (y := y) rfl p _ i
    rw [e]
    exact h.cl.2 c hc
  · rw [e20] at hp
    by_cases e1 : p = y 20 0
    · subst e1
      refine Or.inl ⟨by simp [poY, upY], fun c hc => ?_⟩
      have := (h.ci.1 c hc).1
      show y 2 c ≠ _; omega
    · have := h.y1 p (by omega)
      have e9 : poY y cp 1 p = y 1 p := by simp [poY, upY, e1]
      rw [e9]
      exact this
def After (G : GG) (A : Nat → Prop) (ad : YY) (m' : XX) (w' : Nat → Int64) (n : Nat) (H : Heap) : Prop := ∃ (ad' : YY) (x' : XX) (y' : YY) (z' : Nat → Int64), ad' 0 0 = ad 0 0 ∧ CWd G A ad' x' y' z' H ∧ Rel m' w' x' y' z' n
theorem e_post (h : Rel m w x y z n) (wr re ma : Int32) : s_X7_post y wr re ma = s_X8_post m wr re ma ∧ ∀ G A ad H, okP G A ad x y z wr re ma H → After G A ad (sx_X8_post m wr re ma) w n H := by
  have hP := h.bP
  unfold s_X7_post s_X8_post sx_X8_post
  rw [wi_e, wi_e, wi_e]
  by_cases c1 : s_X7_within wr 0 39 = 0
  · rw [if_pos c1, if_pos c1, if_pos c1]
    refine ⟨rfl, fun G A ad H k => ?_⟩
    unfold okP at k; rw [if_pos c1] at k
    exact ⟨ad, x, y, z, rfl, k, h⟩
  rw [if_neg c1, if_neg c1, if_neg c1]
  by_cases c2 : s_X7_within re 1 1000 = 0
  · rw [if_pos c2, if_pos c2, if_pos c2]
    refine ⟨rfl, fun G A ad H k => ?_⟩
    unfold okP at k; rw [if_neg c1, if_pos c2] at k
    exact ⟨ad, x, y, z, rfl, k, h⟩
  rw [if_neg c2, if_neg c2, if_neg c2]
  by_cases c3 : s_X7_within ma 0 255 = 0
  · rw [if_pos c3, if_pos c3, if_pos c3]
    refine ⟨rfl, fun G A ad H k => ?_⟩
    unfold okP at k; rw [if_neg c1, if_neg c2, if_pos c3] at k
    exact ⟨ad, x, y, z, rfl, k, h⟩
  rw [if_neg c3, if_neg c3, if_neg c3]
  have e300 : (m 12 0 = 300) ↔ ¬ (nI (y 20 0)) < 300 := by
    rw [h.p.1, show (300 : Int32) = nI 300 from rfl, nIE (by omega) (by decide), nI_ltI (by omega) (by decide)]
    omega
  by_cases c4 : nI (y 20 0) < 300
  · rw [if_pos c4, if_neg (fun q => e300.mp q c4), if_neg (fun q => e300.mp q c4)]
    have hn : y 20 0 < 300 := lt_i (b := 300) rfl rfl (by omega) (by decide) c4
    refine ⟨?_, fun G A ad H k => ?_⟩
    · rw [h.p.1, Int32.add_sub_cancel]
    · unfold okP at k; rw [if_neg c1, if_neg c2, if_neg c3, if_pos c4] at k
      obtain ⟨ad', cp, k1, k2, k3, k4⟩ := k
      exact ⟨ad', _, _, z, k1, k4, rel_post h (wi_r c2) (wi_r c3) hn k2 k3⟩
  · rw [if_neg c4, if_pos (e300.mpr c4), if_pos (e300.mpr c4)]
    refine ⟨rfl, fun G A ad H k => ?_⟩
    unfold okP at k; rw [if_neg c1, if_neg c2, if_neg c3, if_neg c4] at k
    exact ⟨ad, x, y, z, rfl, k, h⟩
end R8
