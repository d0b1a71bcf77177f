theorem opt_null {g : Nat → Nat} {k : Nat} (h : k = 0) : opt g k = .null := by rw [h]; rfl
theorem opt_some {g : Nat → Nat} {k : Nat} (h : ¬ k = 0) : opt g k = .ref (g (k - 1)) := by
  cases k with
  | zero => exact absurd rfl h
  | succ q => rfl
theorem withinK {v b : Int32} {n : Nat} (h : ¬ s_X7_within v 0 b = 0) (hb : b.toInt + 1 = n) : ∃ k : Nat, k < n ∧ v = nI k := by
  unfold s_X7_within at h
  by_cases h1 : v < 0
  · rw [if_pos h1] at h; exact absurd rfl h
  · rw [if_neg h1] at h
    by_cases h2 : b < v
    · rw [if_pos h2] at h; exact absurd rfl h
    · cases n with
      | zero =>
        have g1 : ¬ v.toInt < 0 := fun q => h1 (Int32.lt_iff_toInt_lt.mpr q)
        have g2 : ¬ b.toInt < v.toInt := fun q => h2 (Int32.lt_iff_toInt_lt.mpr q)
        exact absurd hb (by omega)
      | succ n =>
        obtain ⟨k, hk, e⟩ := nI_of2 (show b.toInt = n by omega) h1 (Int32.not_lt.mp h2)
        exact ⟨k, by omega, e⟩
theorem nIm1 {n : Nat} (hn : n ≤ 1000) : ((nI n) - 1).toInt + 1 = n := by
  rcases Nat.eq_zero_or_pos n with h | h
  · subst h; decide
  · rw [show nI n - 1 = nI (n - 1) from pk_sub (a := n) (b := 1) h, nI_toInt (by omega)]
    omega
theorem withinN {v : Int32} {n : Nat} (h : ¬ s_X7_within v 0 ((nI n) - 1) = 0) (hn : n ≤ 1000) : ∃ k : Nat, k < n ∧ v = nI k := withinK h (nIm1 hn)
theorem within_in {n k : Nat} {b : Int32} (hb : b.toInt + 1 = n) (h : k < n) (hn : n ≤ 1000) : ¬ s_X7_within (nI k) 0 b = 0 := by
  unfold s_X7_within
  rw [if_neg (nI_pos (by omega)), if_neg (fun q => by have := Int32.lt_iff_toInt_lt.mp q; rw [nI_toInt (by omega)] at this; omega)]
  decide
def itrG {α : Type} (f : Nat → α → α) (a : α) : Nat → α
  | 0 => a
  | n + 1 => f n (itrG f a n)
section CR
variable {p : Program} {l : Launch} {e : Env} {R : Room} {s : State} {m : MethodId} {args : Array Value} {below : List Frame} {meth : Method} {c : Code} {H : Heap} {locs : List Loc} {cells slots : Nat} {Q : State → Prop} {cc : ByteArray} {pc : Nat} {ls : Array Slot} {rest : List Value}
theorem g_acmp_ne {i j tgt : Nat} {g : Nat → Nat} {off : Int} (hi : g i = g j → i = j) (hx : p.tables.exec = Jvm.exec) (hb : c.code = cc) (hdg : decode cc pc = .ok (.if_acmp .ne off, 3)) (ht : (pc : Int) + off = (tgt : Int)) (kt : ¬ i = j → W p l e R s m args below meth c H locs cells slots Q (F0 m tgt ls rest)) (kf : i = j → W p l e R s m args below meth c H locs cells slots Q (F0 m (pc + 3) ls rest)) : W p l e R s m args below meth c H locs cells slots Q (F0 m pc ls (.ref (g j) :: .ref (g i) :: rest)) :=
  lv_acmp_ne (rx := some (g i)) (ry := some (g j)) hx hb hdg ht (fun h => kt (fun q => h (by rw [q]))) (fun h => kf (hi (Option.some.inj h)))
theorem g_acmp_eq {i j tgt : Nat} {g : Nat → Nat} {off : Int} (hi : g i = g j → i = j) (hx : p.tables.exec = Jvm.exec) (hb : c.code = cc) (hdg : decode cc pc = .ok (.if_acmp .eq off, 3)) (ht : (pc : Int) + off = (tgt : Int)) (kt : i = j → W p l e R s m args below meth c H locs cells slots Q (F0 m tgt ls rest)) (kf : ¬ i = j → W p l e R s m args below meth c H locs cells slots Q (F0 m (pc + 3) ls rest)) : W p l e R s m args below meth c H locs cells slots Q (F0 m pc ls (.ref (g j) :: .ref (g i) :: rest)) :=
  lv_acmp_eq (rx := some (g i)) (ry := some (g j)) hx hb hdg ht (fun h => kt (hi (Option.some.inj h))) (fun h => kf (fun q => h (by rw [q])))
theorem g_astoreO_n {g : Nat → Nat} {q : Nat} (hexec : p.tables.exec = Jvm.exec) (hb : c.code = cc) {k : Fin 4} {i nL : Nat} {lv lv' : List (Nat × Value)} (hdg : decode cc pc = .ok (.astore_n k, 1)) (hi : (k : Nat) = i) (h : lv_has ls nL lv) (hn : i < nL) (hl : (i, opt g q) :: lv.filter (fun q => !(q.1 == i) && !(q.1 + 1 == i && q.2.category == 2)) = lv')
    (kk : ∀ ls' : Array Slot, lv_has ls' nL lv' → W p l e R s m args below meth c H locs cells slots Q (F0 m (pc + 1) ls' rest)) : W p l e R s m args below meth c H locs cells slots Q (F0 m pc ls (opt g q :: rest)) := by
  cases q with
  | zero => exact lv_astore_nN hexec hb hdg hi h hn hl kk
  | succ q => exact lv_astore_n hexec hb hdg hi h hn hl kk
theorem g_astoreO {g : Nat → Nat} {q : Nat} (hexec : p.tables.exec = Jvm.exec) (hb : c.code = cc) {i nL : Nat} {lv lv' : List (Nat × Value)} (hdg : decode cc pc = .ok (.astore i, 2)) (h : lv_has ls nL lv) (hn : i < nL) (hl : (i, opt g q) :: lv.filter (fun q => !(q.1 == i) && !(q.1 + 1 == i && q.2.category == 2)) = lv')
    (kk : ∀ ls' : Array Slot, lv_has ls' nL lv' → W p l e R s m args below meth c H locs cells slots Q (F0 m (pc + 2) ls' rest)) : W p l e R s m args below meth c H locs cells slots Q (F0 m pc ls (opt g q :: rest)) := by
  cases q with
  | zero => exact lv_astoreN hexec hb hdg h hn hl kk
  | succ q => exact lv_astore hexec hb hdg h hn hl kk
theorem W.loopF {N : Nat} {Inv : Nat → Array Slot → Prop} (pch : Nat) (rj : List Value) (step : ∀ (i : Nat) (ls' : Array Slot), i ≤ N → Inv i ls' → (∀ (i2 : Nat) (ls2 : Array Slot), i < i2 → i2 ≤ N → Inv i2 ls2 → W p l e R s m args below meth c H locs cells slots Q (F0 m pch ls2 rj)) → W p l e R s m args below meth c H locs cells slots Q (F0 m pch ls' rj)) : ∀ (i : Nat) (ls' : Array Slot), i ≤ N → Inv i ls' → W p l e R s m args below meth c H locs cells slots Q (F0 m pch ls' rj) := by
  have key : ∀ (d i : Nat) (ls' : Array Slot), N - i ≤ d → i ≤ N → Inv i ls' → W p l e R s m args below meth c H locs cells slots Q (F0 m pch ls' rj) := by
    intro d
    induction d with
    | zero => intro i ls' hd hi h; exact step i ls' hi h (fun i2 ls2 h1 h2 _ => absurd h1 (by omega))
    | succ d ih => intro i ls' hd hi h; exact step i ls' hi h (fun i2 ls2 h1 h2 h3 => ih i2 ls2 (by omega) h2 h3)
  exact fun i ls' => key (N - i) i ls' (Nat.le_refl _)
end CR
/-- the next case of post p at place i or behind: its number + 1, or 0 -/
def nxtF (y : YY) (p : Nat) : Nat → Nat → Nat
  | 0, _ => 0
  | f + 1, i => if y 2 i = p then i + 1 else nxtF y p f (i + 1)
def nxt (y : YY) (p i : Nat) : Nat := nxtF y p (y 20 1 - i) i
theorem nxtF_none {y : YY} {p : Nat} : ∀ {f i : Nat}, nxtF y p f i = 0 → ∀ c, i ≤ c → c < i + f → y 2 c ≠ p
  | 0, i, _, c, h1, h2 => absurd h1 (by omega)
  | f + 1, i, h, c, h1, h2 => by
    unfold nxtF at h
    by_cases q : y 2 i = p
    · rw [if_pos q] at h; omega
    · rw [if_neg q] at h
      rcases Nat.eq_or_lt_of_le h1 with r | r
      · rw [← r]; exact q
      · exact nxtF_none h c r (by omega)
theorem nxtF_some {y : YY} {p c : Nat} : ∀ {f i : Nat}, nxtF y p f i = c + 1 → i ≤ c ∧ c < i + f ∧ y 2 c = p ∧ ∀ b, i ≤ b → b < c → y 2 b ≠ p
  | 0, i, h => by unfold nxtF at h; omega
  | f + 1, i, h => by
    unfold nxtF at h
    by_cases q : y 2 i = p
    · rw [if_pos q] at h
      have e : i = c := by omega
      subst e
      exact ⟨Nat.le_refl _, by omega, q, fun b h1 h2 => absurd h1 (by omega)⟩
    · rw [if_neg q] at h
      obtain ⟨h1, h2, h3, h4⟩ := nxtF_some h
      exact ⟨by omega, by omega, h3, fun b g1 g2 => by
        rcases Nat.eq_or_lt_of_le g1 with r | r
        · rw [← r]; exact q
        · exact h4 b r g2⟩
theorem nxt_none {y : YY} {p i : Nat} (h : nxt y p i = 0) : ∀ c, i ≤ c → c < y 20 1 → y 2 c ≠ p := fun c h1 h2 => nxtF_none h c h1 (by omega)
theorem nxt_some {y : YY} {p i : Nat} (h : ¬ nxt y p i = 0) : ∃ c, nxt y p i = c + 1 ∧ i ≤ c ∧ c < y 20 1 ∧ y 2 c = p ∧ ∀ b, i ≤ b → b < c → y 2 b ≠ p := by
  obtain ⟨h1, h2, h3, h4⟩ := nxtF_some (y := y) (p := p) (c := nxt y p i - 1) (f := y 20 1 - i) (i := i) (show nxt y p i = _ by omega)
  exact ⟨nxt y p i - 1, by omega, h1, by omega, h3, h4⟩
/-- a post's cases hang together in their order -/
def CL (y : YY) : Prop := (∀ p, p < y 20 0 → y 0 p = nxt y p 0) ∧ (∀ c, c < y 20 1 → y 5 c = nxt y (y 2 c) (c + 1))
theorem hasv_skip {q : Nat → Bool} {i : Nat} (h : hasv q i = false) : ∀ {k : Nat}, i ≤ k → (∀ b, i ≤ b → b < k → q b = false) → hasv q k = false
  | 0, h1, _ => by rw [show i = 0 by omega] at h; exact h
  | k + 1, h1, h2 => by
    rcases Nat.eq_or_lt_of_le h1 with r | r
    · rw [← r]; exact h
    · exact hasv_no (hasv_skip h (by omega) (fun b g1 g2 => h2 b g1 (by omega))) (h2 k (by omega) (by omega))
section CG
variable {G : GG} {A : Nat → Prop} {ad : YY} {x : XX} {y : YY} {z : Nat → Int64} {H : Heap}
theorem cC_get (l : Launch) (G : GG) (ad : YY) (x : XX) (y : YY) (hI : CI y) (lx i : Nat) (hl : lx < 3) (hi : i < y 20 lx) : MR l G yJx4a65c_get_915e3 cJx4a65c_get_915e3 2 (some (.object "java/lang/Object")) 3 [.ref (ad 7 lx), .int (nI i)] (fun H => va_at G.1 vwCl (ad 7 lx, lob (x 36 lx) (ad 8 lx) (y 20 lx)) H ∧ va_at G.1 vwCl (ad 8 lx, .inl (G.2 5, qs (y 21 lx) (fun j => if j < y 20 lx then some (ad (lkd lx) j) else none))) H) (some (.ref (ad (lkd lx) i))) := by
  have h := hI.2.2.2.2.2.2 lx hl
  exact cJ_get l G _ _ _ _ _ _ i _ hi h.1 (by omega) (if_pos hi)
theorem CWd.ls (h : CWd G A ad x y z H) (hI : CI y) (lx : Nat) (hl : lx < 3) (hn : 0 < y 20 lx) : va_at G.1 vwCl (ad 7 lx, lob (x 36 lx) (ad 8 lx) (y 20 lx)) H ∧ va_at G.1 vwCl (ad 8 lx, .inl (G.2 5, qs (y 21 lx) (fun j => if j < y 20 lx then some (ad (lkd lx) j) else none))) H := by
  have hb := (hI.2.2.2.2.2.2 lx hl).1
  have h1 := (h.1 7 lx hl).1
  have e : cob G ad x y z 7 lx = lob (x 36 lx) (if y 21 lx = 0 then G.2 8 else ad 8 lx) (y 20 lx) := rfl
  rw [e, if_neg (by omega)] at h1
  exact ⟨h1, (h.1 8 lx ⟨hl, by omega⟩).1⟩
end CG
def i_X0_latestJudgement (x : XX) (y : YY) (c : Nat) : Nat := (if y 4 c = 0 then (if (x 28 (2 * c)) = 0 then 0 else (2 * c) + 1) else (if (x 28 (2 * c + 1)) = 0 then (if (x 28 (2 * c)) = 0 then 0 else (2 * c) + 1) else (2 * c + 1) + 1))
set_option maxRecDepth 100000 in
set_option maxHeartbeats 1000000 in
theorem cC_X0_latestJudgement (l : Launch) (G : GG) (A : Nat → Prop) (ad : YY) (x : XX) (y : YY) (z : Nat → Int64) (c : Nat) (hc : c < y 20 1) : MR l G yX0_latestJudgement cX0_latestJudgement 1 (some (.object "ModeratorsBench$Hearing")) 0 [.ref (ad 4 c)] (CWd G A ad x y z) (some (opt (ad 5) (i_X0_latestJudgement x y c))) := by
  refine MR.of RX0 rfl (by decide) (Nat.le_of_ble_eq_true rfl) ?_
  intro p_ e_ s_ m_ args_ below_ meth_ c_ ls hargs C hr hnm hW hl
  have hl : lv_has ls 1 [(0, .ref (ad 4 c))] := hl
  refine lv_aload_n C.hx C.hb dX0_latestJudgement_0 rfl (lv_at hl 0 rfl) ?_
  by_cases c1 : y 4 c = 0
  · refine g_get (k := 5) (v := .null) C (hW.1 4 c (show c < y 20 1 by omega)).1 rfl wu_X0 (by decide) wf_X0_9 rfl (by show some (opt _ (y 4 c)) = _; rw [c1]; rfl) dX0_latestJudgement_1 ?_
    refine lv_ifnullN (tgt := 22) C.hx C.hb dX0_latestJudgement_4 (by decide) ?_
    refine lv_aload_n C.hx C.hb dX0_latestJudgement_22 rfl (lv_at hl 0 rfl) ?_
    refine g_get (k := 4) (v := .ref (ad 5 (2 * c))) C (hW.1 4 c (show c < y 20 1 by omega)).1 rfl wu_X0 (by decide) wf_X0_54 rfl rfl dX0_latestJudgement_23 ?_
    refine g_getN (k := 6) (v := .int (x 28 (2 * c))) C (hW.1 5 (2 * c) (lvH1 (show c < y 20 1 by omega))).1 rfl wu_X2 (by decide) wn_X0_102 rfl rfl dX0_latestJudgement_26 ?_
    refine lv_if_eq (tgt := 39) C.hx C.hb dX0_latestJudgement_29 (by decide) (fun c2 => ?_) (fun c2 => ?_)
    · refine lv_null C.hx C.hb dX0_latestJudgement_39 ?_
      exact rA C hr (Or.inl ⟨_, rfl⟩) (Or.inl rfl) dX0_latestJudgement_40 (by unfold i_X0_latestJudgement; rw [if_pos c1, if_pos c2]; rfl)
    · refine lv_aload_n C.hx C.hb dX0_latestJudgement_32 rfl (lv_at hl 0 rfl) ?_
      refine g_get (k := 4) (v := .ref (ad 5 (2 * c))) C (hW.1 4 c (show c < y 20 1 by omega)).1 rfl wu_X0 (by decide) wf_X0_54 rfl rfl dX0_latestJudgement_33 ?_
      refine lv_goto (tgt := 40) C.hx C.hb dX0_latestJudgement_36 (by decide) ?_
      exact rA C hr (Or.inl ⟨_, rfl⟩) (Or.inr ⟨_, rfl⟩) dX0_latestJudgement_40 (by unfold i_X0_latestJudgement; rw [if_pos c1, if_neg c2]; rfl)
  · refine g_get (k := 5) (v := .ref (ad 5 (2 * c + 1))) C (hW.1 4 c (show c < y 20 1 by omega)).1 rfl wu_X0 (by decide) wf_X0_9 rfl (by show some (opt _ (y 4 c)) = _; rw [show y 4 c = (y 4 c - 1) + 1 by omega]; rfl) dX0_latestJudgement_1 ?_
    refine lv_ifnull C.hx C.hb dX0_latestJudgement_4 ?_
    refine lv_aload_n C.hx C.hb dX0_latestJudgement_7 rfl (lv_at hl 0 rfl) ?_
    refine g_get (k := 5) (v := .ref (ad 5 (2 * c + 1))) C (hW.1 4 c (show c < y 20 1 by omega)).1 rfl wu_X0 (by decide) wf_X0_9 rfl (by show some (opt _ (y 4 c)) = _; rw [show y 4 c = (y 4 c - 1) + 1 by omega]; rfl) dX0_latestJudgement_8 ?_
    refine g_getN (k := 6) (v := .int (x 28 (2 * c + 1))) C (hW.1 5 (2 * c + 1) (lvH2 (show c < y 20 1 by omega) c1)).1 rfl wu_X2 (by decide) wn_X0_102 rfl rfl dX0_latestJudgement_11 ?_
    refine lv_if_eq (tgt := 22) C.hx C.hb dX0_latestJudgement_14 (by decide) (fun c4 => ?_) (fun c4 => ?_)
    · refine lv_aload_n C.hx C.hb dX0_latestJudgement_22 rfl (lv_at hl 0 rfl) ?_
      refine g_get (k := 4) (v := .ref (ad 5 (2 * c))) C (hW.1 4 c (show c < y 20 1 by omega)).1 rfl wu_X0 (by decide) wf_X0_54 rfl rfl dX0_latestJudgement_23 ?_
      refine g_getN (k := 6) (v := .int (x 28 (2 * c))) C (hW.1 5 (2 * c) (lvH1 (show c < y 20 1 by omega))).1 rfl wu_X2 (by decide) wn_X0_102 rfl rfl dX0_latestJudgement_26 ?_
      refine lv_if_eq (tgt := 39) C.hx C.hb dX0_latestJudgement_29 (by decide) (fun c5 => ?_) (fun c5 => ?_)
      · refine lv_null C.hx C.hb dX0_latestJudgement_39 ?_
        exact rA C hr (Or.inl ⟨_, rfl⟩) (Or.inl rfl) dX0_latestJudgement_40 (by unfold i_X0_latestJudgement; rw [if_neg c1, if_pos c4, if_pos c5]; rfl)
      · refine lv_aload_n C.hx C.hb dX0_latestJudgement_32 rfl (lv_at hl 0 rfl) ?_
        refine g_get (k := 4) (v := .ref (ad 5 (2 * c))) C (hW.1 4 c (show c < y 20 1 by omega)).1 rfl wu_X0 (by decide) wf_X0_54 rfl rfl dX0_latestJudgement_33 ?_
        refine lv_goto (tgt := 40) C.hx C.hb dX0_latestJudgement_36 (by decide) ?_
        exact rA C hr (Or.inl ⟨_, rfl⟩) (Or.inr ⟨_, rfl⟩) dX0_latestJudgement_40 (by unfold i_X0_latestJudgement; rw [if_neg c1, if_pos c4, if_neg c5]; rfl)
    · refine lv_aload_n C.hx C.hb dX0_latestJudgement_17 rfl (lv_at hl 0 rfl) ?_
      refine g_get (k := 5) (v := .ref (ad 5 (2 * c + 1))) C (hW.1 4 c (show c < y 20 1 by omega)).1 rfl wu_X0 (by decide) wf_X0_9 rfl (by show some (opt _ (y 4 c)) = _; rw [show y 4 c = (y 4 c - 1) + 1 by omega]; rfl) dX0_latestJudgement_18 ?_
      exact rA C hr (Or.inl ⟨_, rfl⟩) (Or.inr ⟨_, rfl⟩) dX0_latestJudgement_21 (by unfold i_X0_latestJudgement; rw [if_neg c1, if_neg c4]; rfl)
theorem lvLa {x : XX} {y : YY} {c : Nat} (h : c < y 20 1) (k : ¬ i_X0_latestJudgement x y c = 0) : lv y 5 (i_X0_latestJudgement x y c - 1) := by
  unfold i_X0_latestJudgement at k ⊢
  by_cases h4 : y 4 c = 0
  · rw [if_pos h4] at k ⊢
    split at k
    · exact absurd rfl k
    · rw [if_neg (by assumption)]; exact lvH1 h
  · rw [if_neg h4] at k ⊢
    split at k
    · rw [if_pos (by assumption)]
      split at k
      · exact absurd rfl k
      · rw [if_neg (by assumption)]; exact lvH1 h
    · rw [if_neg (by assumption)]; exact lvH2 h h4
def s_X0_isAlike (x : XX) (y : YY) (c : Nat) (d : Nat) (most : Int32) : Int32 := (if (s_X0_isUndecided x c) = 0 then (if (y 3 c) = (y 3 d) then (if most < (s_bitCount ((x 14 (y 2 c)) ^^^ (x 14 (y 2 d)))) then 0 else 1 : Int32) else 0 : Int32) else 0 : Int32)
set_option maxRecDepth 100000 in
set_option maxHeartbeats 1000000 in
theorem cC_X0_isAlike (l : Launch) (G : GG) (A : Nat → Prop) (ad : YY) (x : XX) (y : YY) (z : Nat → Int64) (hI : CI y) (c : Nat) (d : Nat) (most : Int32) (hc : c < y 20 1) (hd : d < y 20 1) : MR l G yX0_isAlike cX0_isAlike 3 (some .boolean) 1 [.ref (ad 4 c), .ref (ad 4 d), .int most] (CWd G A ad x y z) (some (.int (s_X0_isAlike x y c d most))) := by
  refine MR.of RX0 rfl (by decide) (Nat.le_of_ble_eq_true rfl) ?_
  intro p_ e_ s_ m_ args_ below_ meth_ c_ ls hargs C hr hnm hW hl
  obtain ⟨-, -, -, bP, bC, bG, bL⟩ := id hI
  have hl : lv_has ls 3 [(0, .ref (ad 4 c)), (1, .ref (ad 4 d)), (2, .int most)] := hl
  refine lv_aload_n C.hx C.hb dX0_isAlike_0 rfl (lv_at hl 0 rfl) ?_
  refine kVR (As := []) (rest := []) (v := .int (s_X0_isUndecided x c)) C (cC_X0_isUndecided l G A ad x y z c (by omega)) lk_X0_113 (g_recv C (hW.1 4 c (show c < y 20 1 by omega)).1 rfl) hW rfl rfl hl (Nat.le_of_ble_eq_true rfl) dX0_isAlike_1 ⟨⟨by decide, by decide⟩, by decide, by decide⟩ ?_
  refine W.joinI (P := fun jv => jv = (if (s_X0_isUndecided x c) = 0 then (if (y 3 c) = (y 3 d) then (if most < (s_bitCount ((x 14 (y 2 c)) ^^^ (x 14 (y 2 d)))) then 0 else 1 : Int32) else 0 : Int32) else 0 : Int32)) 45 ls [] (fun J8 => ?_) (fun v9 hv9 => ?_)
  · refine lv_if_ne (tgt := 44) C.hx C.hb dX0_isAlike_4 (by decide) (fun c1 => ?_) (fun c1 => ?_)
    · refine lv_iconst (v := 0) C.hx C.hb dX0_isAlike_44 (by decide) ?_
      exact J8 _ (by rw [if_neg c1])
    · refine lv_aload_n C.hx C.hb dX0_isAlike_7 rfl (lv_at hl 0 rfl) ?_
      refine g_get (k := 2) (v := .ref (ad 1 (y 3 c))) C (hW.1 4 c (show c < y 20 1 by omega)).1 rfl wu_X0 (by decide) wf_X0_39 rfl rfl dX0_isAlike_8 ?_
      have g2 := (hI.1 c (by omega)).2.1
      refine lv_aload_n C.hx C.hb dX0_isAlike_11 rfl (lv_at hl 1 rfl) ?_
      refine g_get (k := 2) (v := .ref (ad 1 (y 3 d))) C (hW.1 4 d (show d < y 20 1 by omega)).1 rfl wu_X0 (by decide) wf_X0_39 rfl rfl dX0_isAlike_12 ?_
      have g3 := (hI.1 d (by omega)).2.1
      refine g_acmp_ne (g := ad 1) (i := (y 3 c)) (j := (y 3 d)) (fun q => (hW.2.1 1 (y 3 c) 1 (y 3 d) (show (y 3 c) < 8 by omega) (show (y 3 d) < 8 by omega) q).2) (tgt := 44) C.hx C.hb dX0_isAlike_15 (by decide) (fun c4 => ?_) (fun c4 => ?_)
      · refine lv_iconst (v := 0) C.hx C.hb dX0_isAlike_44 (by decide) ?_
        exact J8 _ (by rw [if_pos c1, if_neg c4])
      · refine lv_aload_n C.hx C.hb dX0_isAlike_18 rfl (lv_at hl 0 rfl) ?_
        refine g_get (k := 1) (v := .ref (ad 3 (y 2 c))) C (hW.1 4 c (show c < y 20 1 by omega)).1 rfl wu_X0 (by decide) wf_X0_35 rfl rfl dX0_isAlike_19 ?_
        have g5 := (hI.1 c (by omega)).1
        refine g_getN (k := 3) (v := .int (x 14 (y 2 c))) C (hW.1 3 (y 2 c) (show (y 2 c) < y 20 0 by omega)).1 rfl wu_X5 (by decide) wn_X0_116 rfl rfl dX0_isAlike_22 ?_
        refine lv_aload_n C.hx C.hb dX0_isAlike_25 rfl (lv_at hl 1 rfl) ?_
        refine g_get (k := 1) (v := .ref (ad 3 (y 2 d))) C (hW.1 4 d (show d < y 20 1 by omega)).1 rfl wu_X0 (by decide) wf_X0_35 rfl rfl dX0_isAlike_26 ?_
        have g6 := (hI.1 d (by omega)).1
        refine g_getN (k := 3) (v := .int (x 14 (y 2 d))) C (hW.1 3 (y 2 d) (show (y 2 d) < y 20 0 by omega)).1 rfl wu_X5 (by decide) wn_X0_116 rfl rfl dX0_isAlike_29 ?_
        refine lv_ixor C.hx C.hb dX0_isAlike_32 ?_
        refine kSR (As := [.int ((x 14 (y 2 c)) ^^^ (x 14 (y 2 d)))]) (rest := []) (v := .int (s_bitCount ((x 14 (y 2 c)) ^^^ (x 14 (y 2 d))))) C (cJ_bitCount l G ((x 14 (y 2 c)) ^^^ (x 14 (y 2 d)))) lk_X0_67 trivial rfl rfl hl (Nat.le_of_ble_eq_true rfl) dX0_isAlike_33 ⟨⟨by decide, by decide⟩, by decide, by decide⟩ ?_
        refine lv_iload_n C.hx C.hb dX0_isAlike_36 rfl (lv_at hl 2 rfl) ?_
        refine lv_icmp_gt (tgt := 44) C.hx C.hb dX0_isAlike_37 (by decide) (fun c7 => ?_) (fun c7 => ?_)
        · refine lv_iconst (v := 0) C.hx C.hb dX0_isAlike_44 (by decide) ?_
          exact J8 _ (by rw [if_pos c1, if_pos c4, if_pos c7])
        · refine lv_iconst (v := 1) C.hx C.hb dX0_isAlike_40 (by decide) ?_
          refine lv_goto (tgt := 45) C.hx C.hb dX0_isAlike_41 (by decide) ?_
          exact J8 _ (by rw [if_pos c1, if_pos c4, if_neg c7])
  · exact rZ C hr dX0_isAlike_45 (by rw [hv9]; unfold s_X0_isAlike; with_reducible rfl) (nb01 (by rw [hv9]; (repeat' split) <;> simp))
set_option maxRecDepth 100000 in
set_option maxHeartbeats 1000000 in
theorem cC_X7_ruleAt_no (l : Launch) (G : GG) (A : Nat → Prop) (ad : YY) (x : XX) (y : YY) (z : Nat → Int64) (v : Int32)  (h0 : s_X7_within v 0 7 = 0) : MR l G yX7_ruleAt cX7_ruleAt 2 (some (.object "ModeratorsBench$Rule")) 1 [.ref (ad 0 0), .int v] (CWd G A ad x y z) (some .null) := by
  refine MR.of RX7 rfl (by decide) (Nat.le_of_ble_eq_true rfl) ?_
  intro p_ e_ s_ m_ args_ below_ meth_ c_ ls hargs C hr hnm hW hl
  have hl : lv_has ls 2 [(0, .ref (ad 0 0)), (1, .int v)] := hl
  refine lv_iload_n C.hx C.hb dX7_ruleAt_0 rfl (lv_at hl 1 rfl) ?_
  refine lv_iconst (v := 0) C.hx C.hb dX7_ruleAt_1 (by decide) ?_
  refine lv_bipush (v := 7) C.hx C.hb dX7_ruleAt_2 (by decide) ?_
  refine kSR (As := [.int v, .int 0, .int 7]) (rest := []) (v := .int (s_X7_within v 0 7)) C (cJ_X7_within l G v 0 7) lk_X7_59 trivial rfl rfl hl (Nat.le_of_ble_eq_true rfl) dX7_ruleAt_4 ⟨⟨by decide, by decide⟩, by decide, by decide⟩ ?_
  refine lv_if_eq (tgt := 19) C.hx C.hb dX7_ruleAt_7 (by decide) (fun c1 => ?_) (fun c1 => ?_)
  · refine lv_null C.hx C.hb dX7_ruleAt_19 ?_
    exact rA C hr (Or.inl ⟨_, rfl⟩) (Or.inl rfl) dX7_ruleAt_20 rfl
  · exact absurd h0 c1
set_option maxRecDepth 100000 in
set_option maxHeartbeats 1000000 in
theorem cC_X7_ruleAt_yes (l : Launch) (G : GG) (A : Nat → Prop) (ad : YY) (x : XX) (y : YY) (z : Nat → Int64) (k : Nat) (hk : k < 8) : MR l G yX7_ruleAt cX7_ruleAt 2 (some (.object "ModeratorsBench$Rule")) 1 [.ref (ad 0 0), .int (nI k)] (CWd G A ad x y z) (some (.ref (ad 1 k))) := by
  refine MR.of RX7 rfl (by decide) (Nat.le_of_ble_eq_true rfl) ?_
  intro p_ e_ s_ m_ args_ below_ meth_ c_ ls hargs C hr hnm hW hl
  have hl : lv_has ls 2 [(0, .ref (ad 0 0)), (1, .int (nI k))] := hl
  refine lv_iload_n C.hx C.hb dX7_ruleAt_0 rfl (lv_at hl 1 rfl) ?_
  refine lv_iconst (v := 0) C.hx C.hb dX7_ruleAt_1 (by decide) ?_
  refine lv_bipush (v := 7) C.hx C.hb dX7_ruleAt_2 (by decide) ?_
  refine kSR (As := [.int (nI k), .int 0, .int 7]) (rest := []) (v := .int (s_X7_within (nI k) 0 7)) C (cJ_X7_within l G (nI k) 0 7) lk_X7_59 trivial rfl rfl hl (Nat.le_of_ble_eq_true rfl) dX7_ruleAt_4 ⟨⟨by decide, by decide⟩, by decide, by decide⟩ ?_
  refine lv_if_eq (tgt := 19) C.hx C.hb dX7_ruleAt_7 (by decide) (fun c1 => ?_) (fun c1 => ?_)
  · exact absurd c1 (within_in (n := 8) (by decide) hk (by decide))
  · refine lv_aload_n C.hx C.hb dX7_ruleAt_10 rfl (lv_at hl 0 rfl) ?_
    refine g_get (k := 0) (v := .ref (ad 11 0)) C (hW.1 0 0 rfl).1 rfl wu_X7 (by decide) wf_X7_11 rfl rfl dX7_ruleAt_11 ?_
    refine lv_iload_n C.hx C.hb dX7_ruleAt_14 rfl (lv_at hl 1 rfl) ?_
    refine g_aald (t0 := 3) (k := k) (v := ad 1 k) C (hW.1 11 0 rfl).1 rfl rfl (show k < 8 by omega) (by decide) rfl dX7_ruleAt_15 ?_
    refine lv_goto (tgt := 20) C.hx C.hb dX7_ruleAt_16 (by decide) ?_
    exact rA C hr (Or.inl ⟨_, rfl⟩) (Or.inr ⟨_, rfl⟩) dX7_ruleAt_20 rfl
set_option maxRecDepth 100000 in
set_option maxHeartbeats 1000000 in
theorem cC_X7_judgeAt_no (l : Launch) (G : GG) (A : Nat → Prop) (ad : YY) (x : XX) (y : YY) (z : Nat → Int64) (v : Int32)  (h0 : s_X7_within v 0 19 = 0) : MR l G yX7_judgeAt cX7_judgeAt 2 (some (.object "ModeratorsBench$Judge")) 1 [.ref (ad 0 0), .int v] (CWd G A ad x y z) (some .null) := by
  refine MR.of RX7 rfl (by decide) (Nat.le_of_ble_eq_true rfl) ?_
  intro p_ e_ s_ m_ args_ below_ meth_ c_ ls hargs C hr hnm hW hl
  have hl : lv_has ls 2 [(0, .ref (ad 0 0)), (1, .int v)] := hl
  refine lv_iload_n C.hx C.hb dX7_judgeAt_0 rfl (lv_at hl 1 rfl) ?_
  refine lv_iconst (v := 0) C.hx C.hb dX7_judgeAt_1 (by decide) ?_
  refine lv_bipush (v := 19) C.hx C.hb dX7_judgeAt_2 (by decide) ?_
  refine kSR (As := [.int v, .int 0, .int 19]) (rest := []) (v := .int (s_X7_within v 0 19)) C (cJ_X7_within l G v 0 19) lk_X7_59 trivial rfl rfl hl (Nat.le_of_ble_eq_true rfl) dX7_judgeAt_4 ⟨⟨by decide, by decide⟩, by decide, by decide⟩ ?_
  refine lv_if_eq (tgt := 19) C.hx C.hb dX7_judgeAt_7 (by decide) (fun c1 => ?_) (fun c1 => ?_)
  · refine lv_null C.hx C.hb dX7_judgeAt_19 ?_
    exact rA C hr (Or.inl ⟨_, rfl⟩) (Or.inl rfl) dX7_judgeAt_20 rfl
  · exact absurd h0 c1
set_option maxRecDepth 100000 in
set_option maxHeartbeats 1000000 in
theorem cC_X7_judgeAt_yes (l : Launch) (G : GG) (A : Nat → Prop) (ad : YY) (x : XX) (y : YY) (z : Nat → Int64) (k : Nat) (hk : k < 20) : MR l G yX7_judgeAt cX7_judgeAt 2 (some (.object "ModeratorsBench$Judge")) 1 [.ref (ad 0 0), .int (nI k)] (CWd G A ad x y z) (some (.ref (ad 2 k))) := by
  refine MR.of RX7 rfl (by decide) (Nat.le_of_ble_eq_true rfl) ?_
  intro p_ e_ s_ m_ args_ below_ meth_ c_ ls hargs C hr hnm hW hl
  have hl : lv_has ls 2 [(0, .ref (ad 0 0)), (1, .int (nI k))] := hl
  refine lv_iload_n C.hx C.hb dX7_judgeAt_0 rfl (lv_at hl 1 rfl) ?_
  refine lv_iconst (v := 0) C.hx C.hb dX7_judgeAt_1 (by decide) ?_
  refine lv_bipush (v := 19) C.hx C.hb dX7_judgeAt_2 (by decide) ?_
  refine kSR (As := [.int (nI k), .int 0, .int 19]) (rest := []) (v := .int (s_X7_within (nI k) 0 19)) C (cJ_X7_within l G (nI k) 0 19) lk_X7_59 trivial rfl rfl hl (Nat.le_of_ble_eq_true rfl) dX7_judgeAt_4 ⟨⟨by decide, by decide⟩, by decide, by decide⟩ ?_
  refine lv_if_eq (tgt := 19) C.hx C.hb dX7_judgeAt_7 (by decide) (fun c1 => ?_) (fun c1 => ?_)
  · exact absurd c1 (within_in (n := 20) (by decide) hk (by decide))
  · refine lv_aload_n C.hx C.hb dX7_judgeAt_10 rfl (lv_at hl 0 rfl) ?_
    refine g_get (k := 1) (v := .ref (ad 12 0)) C (hW.1 0 0 rfl).1 rfl wu_X7 (by decide) wf_X7_17 rfl rfl dX7_judgeAt_11 ?_
    refine lv_iload_n C.hx C.hb dX7_judgeAt_14 rfl (lv_at hl 1 rfl) ?_
    refine g_aald (t0 := 4) (k := k) (v := ad 2 k) C (hW.1 12 0 rfl).1 rfl rfl (show k < 20 by omega) (by decide) rfl dX7_judgeAt_15 ?_
    refine lv_goto (tgt := 20) C.hx C.hb dX7_judgeAt_16 (by decide) ?_
    exact rA C hr (Or.inl ⟨_, rfl⟩) (Or.inr ⟨_, rfl⟩) dX7_judgeAt_20 rfl
set_option maxRecDepth 100000 in
set_option maxHeartbeats 1000000 in
theorem cC_X7_postAt_no (l : Launch) (G : GG) (A : Nat → Prop) (ad : YY) (x : XX) (y : YY) (z : Nat → Int64) (hI : CI y) (v : Int32)  (h0 : s_X7_within v 0 ((nI (y 20 0)) - 1) = 0) : MR l G yX7_postAt cX7_postAt 2 (some (.object "ModeratorsBench$Post")) 4 [.ref (ad 0 0), .int v] (CWd G A ad x y z) (some .null) := by
  refine MR.of RX7 rfl (by decide) (Nat.le_of_ble_eq_true rfl) ?_
  intro p_ e_ s_ m_ args_ below_ meth_ c_ ls hargs C hr hnm hW hl
  obtain ⟨-, -, -, bP, bC, bG, bL⟩ := id hI
  have hl : lv_has ls 2 [(0, .ref (ad 0 0)), (1, .int v)] := hl
  refine lv_iload_n C.hx C.hb dX7_postAt_0 rfl (lv_at hl 1 rfl) ?_
  refine lv_iconst (v := 0) C.hx C.hb dX7_postAt_1 (by decide) ?_
  refine lv_aload_n C.hx C.hb dX7_postAt_2 rfl (lv_at hl 0 rfl) ?_
  refine g_get (k := 2) (v := .ref (ad 7 0)) C (hW.1 0 0 rfl).1 rfl wu_X7 (by decide) wf_X7_24 rfl rfl dX7_postAt_3 ?_
  refine kVR (As := []) (rest := [.int 0, .int v]) (v := .int (nI (y 20 0))) C (cJ_size l G (ad 7 0) _ (y 20 0) _) lk_X7_83 (g_recv C (hW.1 7 0 (show 0 < 3 by decide)).1 rfl) (hW.1 7 0 (show 0 < 3 by decide)).1 rfl rfl hl (Nat.le_of_ble_eq_true rfl) dX7_postAt_6 ⟨⟨by decide, by decide⟩, by decide, by decide⟩ ?_
  refine lv_iconst (v := 1) C.hx C.hb dX7_postAt_9 (by decide) ?_
  refine lv_isub C.hx C.hb dX7_postAt_10 ?_
  refine kSR (As := [.int v, .int 0, .int ((nI (y 20 0)) - 1)]) (rest := []) (v := .int (s_X7_within v 0 ((nI (y 20 0)) - 1))) C (cJ_X7_within l G v 0 ((nI (y 20 0)) - 1)) lk_X7_59 trivial rfl rfl hl (Nat.le_of_ble_eq_true rfl) dX7_postAt_11 ⟨⟨by decide, by decide⟩, by decide, by decide⟩ ?_
  refine lv_if_eq (tgt := 31) C.hx C.hb dX7_postAt_14 (by decide) (fun c1 => ?_) (fun c1 => ?_)
  · refine lv_null C.hx C.hb dX7_postAt_31 ?_
    exact rA C hr (Or.inl ⟨_, rfl⟩) (Or.inl rfl) dX7_postAt_32 rfl
  · exact absurd h0 c1
set_option maxRecDepth 100000 in
set_option maxHeartbeats 1000000 in
theorem cC_X7_postAt_yes (l : Launch) (G : GG) (A : Nat → Prop) (ad : YY) (x : XX) (y : YY) (z : Nat → Int64) (hI : CI y) (k : Nat) (hk : k < y 20 0) : MR l G yX7_postAt cX7_postAt 2 (some (.object "ModeratorsBench$Post")) 4 [.ref (ad 0 0), .int (nI k)] (CWd G A ad x y z) (some (.ref (ad 3 k))) := by
  refine MR.of RX7 rfl (by decide) (Nat.le_of_ble_eq_true rfl) ?_
  intro p_ e_ s_ m_ args_ below_ meth_ c_ ls hargs C hr hnm hW hl
  obtain ⟨-, -, -, bP, bC, bG, bL⟩ := id hI
  have hl : lv_has ls 2 [(0, .ref (ad 0 0)), (1, .int (nI k))] := hl
  refine lv_iload_n C.hx C.hb dX7_postAt_0 rfl (lv_at hl 1 rfl) ?_
  refine lv_iconst (v := 0) C.hx C.hb dX7_postAt_1 (by decide) ?_
  refine lv_aload_n C.hx C.hb dX7_postAt_2 rfl (lv_at hl 0 rfl) ?_
  refine g_get (k := 2) (v := .ref (ad 7 0)) C (hW.1 0 0 rfl).1 rfl wu_X7 (by decide) wf_X7_24 rfl rfl dX7_postAt_3 ?_
  refine kVR (As := []) (rest := [.int 0, .int (nI k)]) (v := .int (nI (y 20 0))) C (cJ_size l G (ad 7 0) _ (y 20 0) _) lk_X7_83 (g_recv C (hW.1 7 0 (show 0 < 3 by decide)).1 rfl) (hW.1 7 0 (show 0 < 3 by decide)).1 rfl rfl hl (Nat.le_of_ble_eq_true rfl) dX7_postAt_6 ⟨⟨by decide, by decide⟩, by decide, by decide⟩ ?_
  refine lv_iconst (v := 1) C.hx C.hb dX7_postAt_9 (by decide) ?_
  refine lv_isub C.hx C.hb dX7_postAt_10 ?_
  refine kSR (As := [.int (nI k), .int 0, .int ((nI (y 20 0)) - 1)]) (rest := []) (v := .int (s_X7_within (nI k) 0 ((nI (y 20 0)) - 1))) C (cJ_X7_within l G (nI k) 0 ((nI (y 20 0)) - 1)) lk_X7_59 trivial rfl rfl hl (Nat.le_of_ble_eq_true rfl) dX7_postAt_11 ⟨⟨by decide, by decide⟩, by decide, by decide⟩ ?_
  refine lv_if_eq (tgt := 31) C.hx C.hb dX7_postAt_14 (by decide) (fun c1 => ?_) (fun c1 => ?_)
  · exact absurd c1 (within_in (n := y 20 0) (nIm1 (by omega)) hk (by omega))
  · refine lv_aload_n C.hx C.hb dX7_postAt_17 rfl (lv_at hl 0 rfl) ?_
    refine g_get (k := 2) (v := .ref (ad 7 0)) C (hW.1 0 0 rfl).1 rfl wu_X7 (by decide) wf_X7_24 rfl rfl dX7_postAt_18 ?_
    refine lv_iload_n C.hx C.hb dX7_postAt_21 rfl (lv_at hl 1 rfl) ?_
    refine kVR (As := [.int (nI k)]) (rest := []) (v := .ref (ad 3 k)) C (cC_get l G ad x y hI 0 k (by decide) (by omega)) lk_X7_169 (g_recv C (hW.1 7 0 (show 0 < 3 by decide)).1 rfl) (CWd.ls hW hI 0 (by decide) (by omega)) rfl rfl hl (Nat.le_of_ble_eq_true rfl) dX7_postAt_22 ⟨⟨by decide, by decide⟩, by decide, by decide⟩ ?_
    refine va_castS C.hx C.hb C.hown (C.hT _ wl_X7_87) (C.hK.1.1 6 _ rfl).2 (g_recv C (hW.1 3 k (show k < y 20 0 by omega)).1 rfl) dX7_postAt_25 ?_
    refine lv_goto (tgt := 32) C.hx C.hb dX7_postAt_28 (by decide) ?_
    exact rA C hr (Or.inl ⟨_, rfl⟩) (Or.inr ⟨_, rfl⟩) dX7_postAt_32 rfl
set_option maxRecDepth 100000 in
set_option maxHeartbeats 1000000 in
theorem cC_X7_caseAt_no (l : Launch) (G : GG) (A : Nat → Prop) (ad : YY) (x : XX) (y : YY) (z : Nat → Int64) (hI : CI y) (v : Int32)  (h0 : s_X7_within v 0 ((nI (y 20 1)) - 1) = 0) : MR l G yX7_caseAt cX7_caseAt 2 (some (.object "ModeratorsBench$Case")) 4 [.ref (ad 0 0), .int v] (CWd G A ad x y z) (some .null) := by
  refine MR.of RX7 rfl (by decide) (Nat.le_of_ble_eq_true rfl) ?_
  intro p_ e_ s_ m_ args_ below_ meth_ c_ ls hargs C hr hnm hW hl
  obtain ⟨-, -, -, bP, bC, bG, bL⟩ := id hI
  have hl : lv_has ls 2 [(0, .ref (ad 0 0)), (1, .int v)] := hl
  refine lv_iload_n C.hx C.hb dX7_caseAt_0 rfl (lv_at hl 1 rfl) ?_
  refine lv_iconst (v := 0) C.hx C.hb dX7_caseAt_1 (by decide) ?_
  refine lv_aload_n C.hx C.hb dX7_caseAt_2 rfl (lv_at hl 0 rfl) ?_
  refine g_get (k := 3) (v := .ref (ad 7 1)) C (hW.1 0 0 rfl).1 rfl wu_X7 (by decide) wf_X7_28 rfl rfl dX7_caseAt_3 ?_
  refine kVR (As := []) (rest := [.int 0, .int v]) (v := .int (nI (y 20 1))) C (cJ_size l G (ad 7 1) _ (y 20 1) _) lk_X7_83 (g_recv C (hW.1 7 1 (show 1 < 3 by decide)).1 rfl) (hW.1 7 1 (show 1 < 3 by decide)).1 rfl rfl hl (Nat.le_of_ble_eq_true rfl) dX7_caseAt_6 ⟨⟨by decide, by decide⟩, by decide, by decide⟩ ?_
  refine lv_iconst (v := 1) C.hx C.hb dX7_caseAt_9 (by decide) ?_
  refine lv_isub C.hx C.hb dX7_caseAt_10 ?_
  refine kSR (As := [.int v, .int 0, .int ((nI (y 20 1)) - 1)]) (rest := []) (v := .int (s_X7_within v 0 ((nI (y 20 1)) - 1))) C (cJ_X7_within l G v 0 ((nI (y 20 1)) - 1)) lk_X7_59 trivial rfl rfl hl (Nat.le_of_ble_eq_true rfl) dX7_caseAt_11 ⟨⟨by decide, by decide⟩, by decide, by decide⟩ ?_
  refine lv_if_eq (tgt := 31) C.hx C.hb dX7_caseAt_14 (by decide) (fun c1 => ?_) (fun c1 => ?_)
  · refine lv_null C.hx C.hb dX7_caseAt_31 ?_
    exact rA C hr (Or.inl ⟨_, rfl⟩) (Or.inl rfl) dX7_caseAt_32 rfl
  · exact absurd h0 c1
set_option maxRecDepth 100000 in
set_option maxHeartbeats 1000000 in
theorem cC_X7_caseAt_yes (l : Launch) (G : GG) (A : Nat → Prop) (ad : YY) (x : XX) (y : YY) (z : Nat → Int64) (hI : CI y) (k : Nat) (hk : k < y 20 1) : MR l G yX7_caseAt cX7_caseAt 2 (some (.object "ModeratorsBench$Case")) 4 [.ref (ad 0 0), .int (nI k)] (CWd G A ad x y z) (some (.ref (ad 4 k))) := by
  refine MR.of RX7 rfl (by decide) (Nat.le_of_ble_eq_true rfl) ?_
  intro p_ e_ s_ m_ args_ below_ meth_ c_ ls hargs C hr hnm hW hl
  obtain ⟨-, -, -, bP, bC, bG, bL⟩ := id hI
  have hl : lv_has ls 2 [(0, .ref (ad 0 0)), (1, .int (nI k))] := hl
  refine lv_iload_n C.hx C.hb dX7_caseAt_0 rfl (lv_at hl 1 rfl) ?_
  refine lv_iconst (v := 0) C.hx C.hb dX7_caseAt_1 (by decide) ?_
  refine lv_aload_n C.hx C.hb dX7_caseAt_2 rfl (lv_at hl 0 rfl) ?_
  refine g_get (k := 3) (v := .ref (ad 7 1)) C (hW.1 0 0 rfl).1 rfl wu_X7 (by decide) wf_X7_28 rfl rfl dX7_caseAt_3 ?_
  refine kVR (As := []) (rest := [.int 0, .int (nI k)]) (v := .int (nI (y 20 1))) C (cJ_size l G (ad 7 1) _ (y 20 1) _) lk_X7_83 (g_recv C (hW.1 7 1 (show 1 < 3 by decide)).1 rfl) (hW.1 7 1 (show 1 < 3 by decide)).1 rfl rfl hl (Nat.le_of_ble_eq_true rfl) dX7_caseAt_6 ⟨⟨by decide, by decide⟩, by decide, by decide⟩ ?_
  refine lv_iconst (v := 1) C.hx C.hb dX7_caseAt_9 (by decide) ?_
  refine lv_isub C.hx C.hb dX7_caseAt_10 ?_
  refine kSR (As := [.int (nI k), .int 0, .int ((nI (y 20 1)) - 1)]) (rest := []) (v := .int (s_X7_within (nI k) 0 ((nI (y 20 1)) - 1))) C (cJ_X7_within l G (nI k) 0 ((nI (y 20 1)) - 1)) lk_X7_59 trivial rfl rfl hl (Nat.le_of_ble_eq_true rfl) dX7_caseAt_11 ⟨⟨by decide, by decide⟩, by decide, by decide⟩ ?_
  refine lv_if_eq (tgt := 31) C.hx C.hb dX7_caseAt_14 (by decide) (fun c1 => ?_) (fun c1 => ?_)
  · exact absurd c1 (within_in (n := y 20 1) (nIm1 (by omega)) hk (by omega))
  · refine lv_aload_n C.hx C.hb dX7_caseAt_17 rfl (lv_at hl 0 rfl) ?_
    refine g_get (k := 3) (v := .ref (ad 7 1)) C (hW.1 0 0 rfl).1 rfl wu_X7 (by decide) wf_X7_28 rfl rfl dX7_caseAt_18 ?_
    refine lv_iload_n C.hx C.hb dX7_caseAt_21 rfl (lv_at hl 1 rfl) ?_
    refine kVR (As := [.int (nI k)]) (rest := []) (v := .ref (ad 4 k)) C (cC_get l G ad x y hI 1 k (by decide) (by omega)) lk_X7_169 (g_recv C (hW.1 7 1 (show 1 < 3 by decide)).1 rfl) (CWd.ls hW hI 1 (by decide) (by omega)) rfl rfl hl (Nat.le_of_ble_eq_true rfl) dX7_caseAt_22 ⟨⟨by decide, by decide⟩, by decide, by decide⟩ ?_
    refine va_castS C.hx C.hb C.hown (C.hT _ wl_X7_105) (C.hK.1.1 1 _ rfl).2 (g_recv C (hW.1 4 k (show k < y 20 1 by omega)).1 rfl) dX7_caseAt_25 ?_
    refine lv_goto (tgt := 32) C.hx C.hb dX7_caseAt_28 (by decide) ?_
    exact rA C hr (Or.inl ⟨_, rfl⟩) (Or.inr ⟨_, rfl⟩) dX7_caseAt_32 rfl
def s_X7_mayHave (x : XX) (y : YY) (z : Nat → Int64) (j : Nat) (c : Nat) : Int32 := (if (s_X0_isUndecided x c) = 0 then 0 else (if (s_X0_wantsJudges x y c) = 0 then 0 else (if (s_X3_isFree x j) = 0 then 0 else (if (s_X3_isSkilledIn x j (nI (y 3 c))) = 0 then 0 else (if (s_X3_isKinOf z j (x 12 (y 2 c))) = 0 then (if (s_X0_isHeldBy x c j) = 0 then (if (s_X0_hasVoteOf x y c j) = 0 then 1 else 0 : Int32) else 0 : Int32) else 0 : Int32) : Int32) : Int32) : Int32) : Int32)
set_option maxRecDepth 100000 in
set_option maxHeartbeats 1000000 in
theorem cC_X7_mayHave (l : Launch) (G : GG) (A : Nat → Prop) (ad : YY) (x : XX) (y : YY) (z : Nat → Int64) (hI : CI y) (j : Nat) (c : Nat) (hj : j < 20) (hc : c < y 20 1) : MR l G yX7_mayHave cX7_mayHave 2 (some .boolean) 3 [.ref (ad 2 j), .ref (ad 4 c)] (CWd G A ad x y z) (some (.int (s_X7_mayHave x y z j c))) := by
  refine MR.of RX7 rfl (by decide) (Nat.le_of_ble_eq_true rfl) ?_
  intro p_ e_ s_ m_ args_ below_ meth_ c_ ls hargs C hr hnm hW hl
  obtain ⟨-, -, -, bP, bC, bG, bL⟩ := id hI
  have hl : lv_has ls 2 [(0, .ref (ad 2 j)), (1, .ref (ad 4 c))] := hl
  refine lv_aload_n C.hx C.hb dX7_mayHave_0 rfl (lv_at hl 1 rfl) ?_
  refine kVNR (As := []) (rest := []) (v := .int (s_X0_isUndecided x c)) C (cC_X0_isUndecided l G A ad x y z c (by omega)) lk_X7_227 (g_recv C (hW.1 4 c (show c < y 20 1 by omega)).1 rfl) hW rfl rfl hl (Nat.le_of_ble_eq_true rfl) dX7_mayHave_1 ⟨⟨by decide, by decide⟩, by decide, by decide⟩ ?_
  refine W.joinI (P := fun jv => jv = (if (s_X0_isUndecided x c) = 0 then 0 else (if (s_X0_wantsJudges x y c) = 0 then 0 else (if (s_X3_isFree x j) = 0 then 0 else (if (s_X3_isSkilledIn x j (nI (y 3 c))) = 0 then 0 else (if (s_X3_isKinOf z j (x 12 (y 2 c))) = 0 then (if (s_X0_isHeldBy x c j) = 0 then (if (s_X0_hasVoteOf x y c j) = 0 then 1 else 0 : Int32) else 0 : Int32) else 0 : Int32) : Int32) : Int32) : Int32) : Int32)) 70 ls [] (fun J10 => ?_) (fun v11 hv11 => ?_)
  · refine lv_if_eq (tgt := 69) C.hx C.hb dX7_mayHave_4 (by decide) (fun c1 => ?_) (fun c1 => ?_)
    · refine lv_iconst (v := 0) C.hx C.hb dX7_mayHave_69 (by decide) ?_
      exact J10 _ (by rw [if_pos c1])
    · refine lv_aload_n C.hx C.hb dX7_mayHave_7 rfl (lv_at hl 1 rfl) ?_
      refine kVNR (As := []) (rest := []) (v := .int (s_X0_wantsJudges x y c)) C (cC_X0_wantsJudges l G A ad x y z c (by omega)) lk_X7_316 (g_recv C (hW.1 4 c (show c < y 20 1 by omega)).1 rfl) hW rfl rfl hl (Nat.le_of_ble_eq_true rfl) dX7_mayHave_8 ⟨⟨by decide, by decide⟩, by decide, by decide⟩ ?_
      refine lv_if_eq (tgt := 69) C.hx C.hb dX7_mayHave_11 (by decide) (fun c2 => ?_) (fun c2 => ?_)
      · refine lv_iconst (v := 0) C.hx C.hb dX7_mayHave_69 (by decide) ?_
        exact J10 _ (by rw [if_neg c1, if_pos c2])
      · refine lv_aload_n C.hx C.hb dX7_mayHave_14 rfl (lv_at hl 0 rfl) ?_
        refine kVNR (As := []) (rest := []) (v := .int (s_X3_isFree x j)) C (cC_X3_isFree l G A ad x y z j (by omega)) lk_X7_319 (g_recv C (hW.1 2 j (show j < 20 by omega)).1 rfl) hW rfl rfl hl (Nat.le_of_ble_eq_true rfl) dX7_mayHave_15 ⟨⟨by decide, by decide⟩, by decide, by decide⟩ ?_
        refine lv_if_eq (tgt := 69) C.hx C.hb dX7_mayHave_18 (by decide) (fun c3 => ?_) (fun c3 => ?_)
        · refine lv_iconst (v := 0) C.hx C.hb dX7_mayHave_69 (by decide) ?_
          exact J10 _ (by rw [if_neg c1, if_neg c2, if_pos c3])
        · refine lv_aload_n C.hx C.hb dX7_mayHave_21 rfl (lv_at hl 0 rfl) ?_
          refine lv_aload_n C.hx C.hb dX7_mayHave_22 rfl (lv_at hl 1 rfl) ?_
          refine g_getN (k := 2) (v := .ref (ad 1 (y 3 c))) C (hW.1 4 c (show c < y 20 1 by omega)).1 rfl wu_X0 (by decide) wn_X7_222 rfl rfl dX7_mayHave_23 ?_
          have g4 := (hI.1 c (by omega)).2.1
          refine g_getN (k := 0) (v := .int (nI (y 3 c))) C (hW.1 1 (y 3 c) (show (y 3 c) < 8 by omega)).1 rfl wu_X6 (by decide) wn_X7_226 rfl rfl dX7_mayHave_26 ?_
          refine kVNR (As := [.int (nI (y 3 c))]) (rest := []) (v := .int (s_X3_isSkilledIn x j (nI (y 3 c)))) C (cC_X3_isSkilledIn l G A ad x y z j (nI (y 3 c)) (by omega)) lk_X7_322 (g_recv C (hW.1 2 j (show j < 20 by omega)).1 rfl) hW rfl rfl hl (Nat.le_of_ble_eq_true rfl) dX7_mayHave_29 ⟨⟨by decide, by decide⟩, by decide, by decide⟩ ?_
          refine lv_if_eq (tgt := 69) C.hx C.hb dX7_mayHave_32 (by decide) (fun c5 => ?_) (fun c5 => ?_)
          · refine lv_iconst (v := 0) C.hx C.hb dX7_mayHave_69 (by decide) ?_
            exact J10 _ (by rw [if_neg c1, if_neg c2, if_neg c3, if_pos c5])
          · refine lv_aload_n C.hx C.hb dX7_mayHave_35 rfl (lv_at hl 0 rfl) ?_
            refine lv_aload_n C.hx C.hb dX7_mayHave_36 rfl (lv_at hl 1 rfl) ?_
            refine g_getN (k := 1) (v := .ref (ad 3 (y 2 c))) C (hW.1 4 c (show c < y 20 1 by omega)).1 rfl wu_X0 (by decide) wn_X7_217 rfl rfl dX7_mayHave_37 ?_
            have g6 := (hI.1 c (by omega)).1
            refine g_getN (k := 1) (v := .int (x 12 (y 2 c))) C (hW.1 3 (y 2 c) (show (y 2 c) < y 20 0 by omega)).1 rfl wu_X5 (by decide) wn_X7_298 rfl rfl dX7_mayHave_40 ?_
            refine kVNR (As := [.int (x 12 (y 2 c))]) (rest := []) (v := .int (s_X3_isKinOf z j (x 12 (y 2 c)))) C (cC_X3_isKinOf l G A ad x y z j (x 12 (y 2 c)) (by omega)) lk_X7_132 (g_recv C (hW.1 2 j (show j < 20 by omega)).1 rfl) hW rfl rfl hl (Nat.le_of_ble_eq_true rfl) dX7_mayHave_43 ⟨⟨by decide, by decide⟩, by decide, by decide⟩ ?_
            refine lv_if_ne (tgt := 69) C.hx C.hb dX7_mayHave_46 (by decide) (fun c7 => ?_) (fun c7 => ?_)
            · refine lv_iconst (v := 0) C.hx C.hb dX7_mayHave_69 (by decide) ?_
              exact J10 _ (by rw [if_neg c1, if_neg c2, if_neg c3, if_neg c5, if_neg c7])
            · refine lv_aload_n C.hx C.hb dX7_mayHave_49 rfl (lv_at hl 1 rfl) ?_
              refine lv_aload_n C.hx C.hb dX7_mayHave_50 rfl (lv_at hl 0 rfl) ?_
              refine kVNR (As := [.ref (ad 2 j)]) (rest := []) (v := .int (s_X0_isHeldBy x c j)) C (cC_X0_isHeldBy l G A ad x y z c j (by omega) (by omega)) lk_X7_325 (g_recv C (hW.1 4 c (show c < y 20 1 by omega)).1 rfl) hW rfl rfl hl (Nat.le_of_ble_eq_true rfl) dX7_mayHave_51 ⟨⟨by decide, by decide⟩, by decide, by decide⟩ ?_
              refine lv_if_ne (tgt := 69) C.hx C.hb dX7_mayHave_54 (by decide) (fun c8 => ?_) (fun c8 => ?_)
              · refine lv_iconst (v := 0) C.hx C.hb dX7_mayHave_69 (by decide) ?_
                exact J10 _ (by rw [if_neg c1, if_neg c2, if_neg c3, if_neg c5, if_pos c7, if_neg c8])
              · refine lv_aload_n C.hx C.hb dX7_mayHave_57 rfl (lv_at hl 1 rfl) ?_
                refine lv_aload_n C.hx C.hb dX7_mayHave_58 rfl (lv_at hl 0 rfl) ?_
                refine kVNR (As := [.ref (ad 2 j)]) (rest := []) (v := .int (s_X0_hasVoteOf x y c j)) C (cC_X0_hasVoteOf l G A ad x y z c j (by omega) (by omega)) lk_X7_329 (g_recv C (hW.1 4 c (show c < y 20 1 by omega)).1 rfl) hW rfl rfl hl (Nat.le_of_ble_eq_true rfl) dX7_mayHave_59 ⟨⟨by decide, by decide⟩, by decide, by decide⟩ ?_
                refine lv_if_ne (tgt := 69) C.hx C.hb dX7_mayHave_62 (by decide) (fun c9 => ?_) (fun c9 => ?_)
                · refine lv_iconst (v := 0) C.hx C.hb dX7_mayHave_69 (by decide) ?_
                  exact J10 _ (by rw [if_neg c1, if_neg c2, if_neg c3, if_neg c5, if_pos c7, if_pos c8, if_neg c9])
                · refine lv_iconst (v := 1) C.hx C.hb dX7_mayHave_65 (by decide) ?_
                  refine lv_goto (tgt := 70) C.hx C.hb dX7_mayHave_66 (by decide) ?_
                  exact J10 _ (by rw [if_neg c1, if_neg c2, if_neg c3, if_neg c5, if_pos c7, if_pos c8, if_pos c9])
  · exact rZ C hr dX7_mayHave_70 (by rw [hv11]; unfold s_X7_mayHave; with_reducible rfl) (nb01 (by rw [hv11]; (repeat' split) <;> simp))
