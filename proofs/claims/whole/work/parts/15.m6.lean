def pri (i : Nat) : Int32 := nI i - 1
theorem pri_p (i : Nat) : pri (i + 1) = nI i := by unfold pri; exact nI_pred i
theorem pri_s (i : Nat) : nI i + (-1) = pri i := by unfold pri; rw [Int32.sub_eq_add_neg]
/-- from the last place down to i -/
def itd (f : Nat → Int32 → Int32) (a : Int32) (N i : Nat) : Int32 := itr (fun j b => f (N - 1 - j) b) a (N - i)
theorem itd_N (f : Nat → Int32 → Int32) (a : Int32) (N : Nat) : itd f a N N = a := by unfold itd; rw [Nat.sub_self]; rfl
theorem itd_s {f : Nat → Int32 → Int32} {a : Int32} {N i : Nat} (h : i < N) : itd f a N i = f i (itd f a N (i + 1)) := by
  unfold itd
  rw [show N - i = (N - (i + 1)) + 1 by omega]
  show f (N - 1 - (N - (i + 1))) _ = _
  rw [show N - 1 - (N - (i + 1)) = i by omega]
/-- how many of the first n -/
def ct (q : Nat → Bool) : Nat → Nat
  | 0 => 0
  | n + 1 => ct q n + (if q n = true then 1 else 0)
theorem ct_le (q : Nat → Bool) : ∀ n, ct q n ≤ n
  | 0 => Nat.le_refl 0
  | n + 1 => by have := ct_le q n; show ct q n + (if q n = true then 1 else 0) ≤ n + 1; split <;> omega
theorem ct_mono {q r : Nat → Bool} : ∀ {n : Nat}, (∀ k, k < n → q k = true → r k = true) → ct q n ≤ ct r n
  | 0, _ => Nat.le_refl 0
  | n + 1, h => by
    have ih := ct_mono (n := n) (fun k hk => h k (by omega))
    have h1 := h n (by omega)
    show ct q n + (if q n = true then 1 else 0) ≤ ct r n + (if r n = true then 1 else 0)
    by_cases z : q n = true
    · rw [if_pos z, if_pos (h1 z)]; omega
    · rw [if_neg z]; omega
theorem ct_lt {q r : Nat → Bool} {i : Nat} : ∀ {n : Nat}, (∀ k, k < n → q k = true → r k = true) → i < n → q i = false → r i = true → ct q n + 1 ≤ ct r n
  | 0, _, h, _, _ => absurd h (Nat.not_lt_zero i)
  | n + 1, h, hi, h1, h2 => by
    show ct q n + (if q n = true then 1 else 0) + 1 ≤ ct r n + (if r n = true then 1 else 0)
    by_cases z : i = n
    · subst z
      have ih := ct_mono (n := i) (fun k hk => h k (by omega))
      rw [h1, h2, if_neg (by decide), if_pos rfl]; omega
    · have ih := ct_lt (n := n) (fun k hk => h k (by omega)) (by omega) h1 h2
      have h3 := h n (by omega)
      by_cases y : q n = true
      · rw [if_pos y, if_pos (h3 y)]; omega
      · rw [if_neg y]; omega
def f_X8_hold (X : XX) (p : Nat) : Nat → Int32 → Int32 := fun i3 a => (a) + (if ((X 44 i3) + (X 5 0)) ≤ (X 9 p) then 0 else 1 : Int32)
def fsNew (X : XX) (p c : Nat) : XX := up2 (up2 (up2 (up2 X 43 (tn (X 46 0)) (nI c)) 44 (tn (X 46 0)) (X 9 p)) 45 (tn (X 46 0)) (if 3 ≤ (itr (f_X8_hold X p) 0 (tn (X 46 0))) then 3 else itr (f_X8_hold X p) 0 (tn (X 46 0)) : Int32)) 46 0 ((X 46 0) + 1)
def fsHit (X : XX) (p c : Nat) : Bool := if X 13 c = nI p then (if s_X8_stands X c = 0 then false else if X 3 (tn (X 14 c)) = 2 then true else false) else false
def fsC (x : XX) (p : Nat) : Nat → XX
  | 0 => x
  | c + 1 => if fsHit (fsC x p c) p c = true then fsNew (fsC x p c) p c else fsC x p c
def fsP (x : XX) (w : Int32) : Nat → XX
  | 0 => up2 x 46 0 0
  | p + 1 => if x 8 p = w then fsC (fsP x w p) p (nC x) else fsP x w p
theorem fsP_t {x : XX} {w : Int32} {p : Nat} (h : x 8 p = w) : fsP x w (p + 1) = fsC (fsP x w p) p (nC x) := by show (if _ then _ else _) = _; rw [if_pos h]
theorem fsP_f {x : XX} {w : Int32} {p : Nat} (h : ¬ x 8 p = w) : fsP x w (p + 1) = fsP x w p := by show (if _ then _ else _) = _; rw [if_neg h]
theorem fsC_t {x : XX} {p c : Nat} (h : fsHit (fsC x p c) p c = true) : fsC x p (c + 1) = fsNew (fsC x p c) p c := by show (if _ then _ else _) = _; rw [if_pos h]
theorem fsC_f {x : XX} {p c : Nat} (h : fsHit (fsC x p c) p c = false) : fsC x p (c + 1) = fsC x p c := by show (if _ then _ else _) = _; rw [if_neg (by rw [h]; decide)]
/-- the strikes found so far: nothing else is written, and there are no more than cases looked at -/
def fsQ (x : XX) (p c : Nat) : Nat → Bool := fun k => decide (tn (x 13 k) < p) || (decide (tn (x 13 k) = p) && decide (k < c))
def fsOk (x : XX) (p c : Nat) (X : XX) : Prop := (∀ k, k ≠ 43 → k ≠ 44 → k ≠ 45 → k ≠ 46 → X k = x k) ∧ X 46 0 = nI (tn (X 46 0)) ∧ tn (X 46 0) ≤ ct (fsQ x p c) (nC x)
theorem fsOk.mi {x X : XX} {p c : Nat} (h : fsOk x p c X) (hI : MI x) : MI X := by
  have e := h.1
  unfold MI nP nC nG nV
  rw [e 12 (by decide) (by decide) (by decide) (by decide), e 27 (by decide) (by decide) (by decide) (by decide), e 36 (by decide) (by decide) (by decide) (by decide), e 42 (by decide) (by decide) (by decide) (by decide), e 13 (by decide) (by decide) (by decide) (by decide), e 14 (by decide) (by decide) (by decide) (by decide), e 17 (by decide) (by decide) (by decide) (by decide), e 38 (by decide) (by decide) (by decide) (by decide), e 39 (by decide) (by decide) (by decide) (by decide)]
  exact hI
theorem fsOk.lt {x X : XX} {p c : Nat} (h : fsOk x p c X) (hI : MI x) (hc : c < nC x) (hp : X 13 c = nI p) (hpp : p < 300) : tn (X 46 0) + 1 ≤ ct (fsQ x p (c + 1)) (nC x) ∧ tn (X 46 0) < 400 := by
  have e13 := h.1 13 (by decide) (by decide) (by decide) (by decide)
  rw [e13] at hp
  have ht : tn (x 13 c) = p := by rw [hp]; exact nI_clamp (by omega)
  have h1 : ct (fsQ x p c) (nC x) + 1 ≤ ct (fsQ x p (c + 1)) (nC x) := by
    refine ct_lt (i := c) (fun k _ hk => ?_) hc ?_ ?_
    · simp only [fsQ, Bool.or_eq_true, Bool.and_eq_true, decide_eq_true_eq] at hk ⊢
      omega
    · simp [fsQ, ht]
    · simp [fsQ, ht]
  have h2 := ct_le (fsQ x p (c + 1)) (nC x)
  have h3 := h.2.2
  have h4 : nC x ≤ 400 := hI.2.1.2
  omega
theorem fsOk_mono {x X : XX} {p c p' c' : Nat} (h : fsOk x p c X) (hq : ∀ k, k < nC x → fsQ x p c k = true → fsQ x p' c' k = true) : fsOk x p' c' X := ⟨h.1, h.2.1, Nat.le_trans h.2.2 (ct_mono hq)⟩
theorem fsC_ok {x X : XX} {p : Nat} (hI : MI x) (hp : p < 300) (h : fsOk x p 0 X) : ∀ c, c ≤ nC x → fsOk x p c (fsC X p c)
  | 0, _ => h
  | c + 1, hc => by
    have ih := fsC_ok hI hp h c (by omega)
    cases hh : fsHit (fsC X p c) p c with
    | false =>
      rw [fsC_f hh]
      exact fsOk_mono ih (fun k _ hk => by simp only [fsQ, Bool.or_eq_true, Bool.and_eq_true, decide_eq_true_eq] at hk ⊢; omega)
    | true =>
      rw [fsC_t hh]
      have hp13 : (fsC X p c) 13 c = nI p := by
        unfold fsHit at hh
        by_cases z : (fsC X p c) 13 c = nI p
        · exact z
        · rw [if_neg z] at hh; cases hh
      obtain ⟨l1, l2⟩ := ih.lt hI (by omega) hp13 hp
      have e46 : fsNew (fsC X p c) p c 46 0 = nI (tn ((fsC X p c) 46 0) + 1) := by
        show (fsC X p c) 46 0 + 1 = _
        rw [ih.2.1, nI_1, show tn (nI (tn ((fsC X p c) 46 0))) = tn ((fsC X p c) 46 0) from nI_clamp (by omega)]
      have t46 : tn (fsNew (fsC X p c) p c 46 0) = tn ((fsC X p c) 46 0) + 1 := by rw [e46]; exact nI_clamp (by omega)
      refine ⟨fun k h1 h2 h3 h4 => ?_, by rw [t46]; exact e46, by rw [t46]; exact l1⟩
      unfold fsNew
      rw [up2_ne h4, up2_ne h3, up2_ne h2, up2_ne h1]
      exact ih.1 k h1 h2 h3 h4
theorem fsP_ok {x : XX} (hI : MI x) (w : Int32) : ∀ p, p ≤ nP x → fsOk x p 0 (fsP x w p)
  | 0, _ => ⟨fun k _ _ _ h => up2_ne h, rfl, Nat.zero_le _⟩
  | p + 1, hp => by
    have ih := fsP_ok hI w p (by omega)
    have hb : nP x ≤ 300 := hI.1.2
    by_cases hw : x 8 p = w
    · rw [fsP_t hw]
      exact fsOk_mono (fsC_ok hI (by omega) ih (nC x) (Nat.le_refl _)) (fun k hk h => by simp only [fsQ, Bool.or_eq_true, Bool.and_eq_true, decide_eq_true_eq] at h ⊢; omega)
    · rw [fsP_f hw]
      exact fsOk_mono ih (fun k hk h => by simp only [fsQ, Bool.or_eq_true, Bool.and_eq_true, decide_eq_true_eq] at h ⊢; omega)
def f_X8_findStrikes_74_4 (X : Nat → Nat → Int32) (i1 : Nat) : Nat → Int32 → Int32 := fun i6 a => (a) + (if ((X 44 i6) + (X 5 0)) ≤ (X 9 i1) then 0 else 1 : Int32)
def sx_X8_findStrikes (x : Nat → Nat → Int32) (w : Int32) : Nat → Nat → Int32 := (fsP x w (nP x))
set_option maxRecDepth 100000 in
set_option maxHeartbeats 400000 in
theorem cM_findStrikes (l : Launch) (G : GG) (m0 : Nat) (x : Nat → Nat → Int32) (z : Nat → Int64) (hI : MI x) (w : Int32) : MW l G yX8_findStrikes cX8_findStrikes 6 none 1 [.ref m0, .int w] (MWd G m0 x z) none (MWd G m0 (sx_X8_findStrikes x w) z) (MA m0) 0 0 := by
  refine MW.of RX8 rfl (by decide) (Nat.le_of_ble_eq_true rfl) ?_
  intro p_ e_ s_ m_ args_ below_ meth_ c_ ls hargs C hr hnm hW hS hl
  obtain ⟨⟨eP, bP⟩, ⟨eC, bC⟩, ⟨eG, bG⟩, ⟨eV, bV⟩, -, -⟩ := id hI
  have hl : lv_has ls 6 [(0, .ref m0), (1, .int w)] := hl
  refine lv_aload_n C.hx C.hb dX8_findStrikes_0 rfl (lv_at hl 0 rfl) ?_
  refine lv_iconst (v := 0) C.hx C.hb dX8_findStrikes_1 (by decide) ?_
  refine g_put (k := 46) tyX8 C hS hW.1 MA_0 rfl wu_X8 tyX8_ok nmX8 (by decide) wf_X8_210 rfl rfl rfl rfl rfl (Nat.le_of_ble_eq_true rfl) dX8_findStrikes_2 (fun H locs e1 o1 z1 hS => ?_)
  have hW : MWd G m0 (up2 x 46 0 0) z H := MWd.putS 46 hW e1 o1 mset_46 rfl (by decide)
  refine lv_iconst (v := 0) C.hx C.hb dX8_findStrikes_5 (by decide) ?_
  refine lv_istore_n (lv' := [(2, .int 0), (0, .ref m0), (1, .int w)]) C.hx C.hb dX8_findStrikes_6 rfl hl (by decide) rfl (fun ls hl => ?_)
  refine W.loopW (N := (nP x)) (Inv := fun i ls H locs ce sl => lv_has ls 6 [(2, .int (nI i)), (0, .ref m0), (1, .int w)] ∧ MWd G m0 (fsP x w i) z H ∧ va_S (MA m0) s_.heap H locs ∧ ce = 0 ∧ sl = 0) 7 [] (fun i1 ls H locs ce sl hi1 hq K1 => ?_) (fun ls H locs ce sl hq => ?_) 0 ls _ _ _ _ (Nat.zero_le _) ⟨lv_sub hl [0, 1, 2] rfl, hW, hS, rfl, rfl⟩
  · obtain ⟨hl, hW, hS, rfl, rfl⟩ := hq
    have hok := fsP_ok hI w i1 (by omega)
    have hag := hok.1
    have eP : (fsP x w i1) 12 0 = nI (nP x) := by rw [hag 12 (by decide) (by decide) (by decide) (by decide)]; exact hI.1.1
    have eC : (fsP x w i1) 27 0 = nI (nC x) := by rw [hag 27 (by decide) (by decide) (by decide) (by decide)]; exact hI.2.1.1
    have enC : nC (fsP x w i1) = nC x := by show tn ((fsP x w i1) 27 0) = _; rw [hag 27 (by decide) (by decide) (by decide) (by decide)]
    have enP : nP (fsP x w i1) = nP x := by show tn ((fsP x w i1) 12 0) = _; rw [hag 12 (by decide) (by decide) (by decide) (by decide)]
    have h46 := hok.2.1
    refine lv_iload_n C.hx C.hb dX8_findStrikes_7 rfl (lv_at hl 0 rfl) ?_
    refine lv_aload_n C.hx C.hb dX8_findStrikes_8 rfl (lv_at hl 1 rfl) ?_
    refine g_get (k := 12) (v := .int ((fsP x w i1) 12 0)) C hW.1 rfl wu_X8 (by decide) wf_X8_144 rfl rfl dX8_findStrikes_9 ?_
    refine lv_icmp_ge (tgt := 188) C.hx C.hb dX8_findStrikes_12 (by decide) (fun c1 => ?_) (fun c1 => ?_)
    · exact absurd c1 (lt_nle eP hi1 (by omega))
    · refine lv_iconst (v := 0) C.hx C.hb dX8_findStrikes_15 (by decide) ?_
      refine lv_istore_n (lv' := [(3, .int 0), (2, .int (nI i1)), (0, .ref m0), (1, .int w)]) C.hx C.hb dX8_findStrikes_16 rfl hl (by decide) rfl (fun ls hl => ?_)
      by_cases hw : x 8 i1 = w
      · refine W.loopW (N := (nC x)) (Inv := fun i ls H locs ce sl => lv_has ls 6 [(3, .int (nI i)), (2, .int (nI i1)), (0, .ref m0), (1, .int w)] ∧ MWd G m0 (fsC (fsP x w i1) i1 i) z H ∧ va_S (MA m0) s_.heap H locs ∧ ce = 0 ∧ sl = 0) 17 [] (fun i2 ls H locs ce sl hi2 hq K2 => ?_) (fun ls H locs ce sl hq => ?_) 0 ls _ _ _ _ (Nat.zero_le _) ⟨lv_sub hl [0, 1, 2, 3] rfl, hW, hS, rfl, rfl⟩
        · obtain ⟨hl, hW, hS, rfl, rfl⟩ := hq
          have hok := fsC_ok hI (show i1 < 300 by omega) hok i2 (by omega)
          have hag := hok.1
          have eP : (fsC (fsP x w i1) i1 i2) 12 0 = nI (nP x) := by rw [hag 12 (by decide) (by decide) (by decide) (by decide)]; exact hI.1.1
          have eC : (fsC (fsP x w i1) i1 i2) 27 0 = nI (nC x) := by rw [hag 27 (by decide) (by decide) (by decide) (by decide)]; exact hI.2.1.1
          have enC : nC (fsC (fsP x w i1) i1 i2) = nC x := by show tn ((fsC (fsP x w i1) i1 i2) 27 0) = _; rw [hag 27 (by decide) (by decide) (by decide) (by decide)]
          have enP : nP (fsC (fsP x w i1) i1 i2) = nP x := by show tn ((fsC (fsP x w i1) i1 i2) 12 0) = _; rw [hag 12 (by decide) (by decide) (by decide) (by decide)]
          have h46 := hok.2.1
          refine lv_iload_n C.hx C.hb dX8_findStrikes_17 rfl (lv_at hl 0 rfl) ?_
          refine lv_aload_n C.hx C.hb dX8_findStrikes_18 rfl (lv_at hl 2 rfl) ?_
          refine g_get (k := 27) (v := .int ((fsC (fsP x w i1) i1 i2) 27 0)) C hW.1 rfl wu_X8 (by decide) wf_X8_133 rfl rfl dX8_findStrikes_19 ?_
          refine lv_icmp_ge (tgt := 182) C.hx C.hb dX8_findStrikes_22 (by decide) (fun c2 => ?_) (fun c2 => ?_)
          · exact absurd c2 (lt_nle eC hi2 (by omega))
          · refine lv_aload_n C.hx C.hb dX8_findStrikes_25 rfl (lv_at hl 2 rfl) ?_
            refine g_get (k := 8) (v := .ref (am m0 8)) C hW.1 rfl wu_X8 (by decide) wf_X8_32 rfl rfl dX8_findStrikes_26 ?_
            refine lv_iload_n C.hx C.hb dX8_findStrikes_29 rfl (lv_at hl 1 rfl) ?_
            refine g_iald (f := (fsC (fsP x w i1) i1 i2) 8) (k := i1) C (hW.2.1 8 rfl) rfl (show i1 < 300 by omega) (by decide) dX8_findStrikes_30 ?_
            refine lv_iload_n C.hx C.hb dX8_findStrikes_31 rfl (lv_at hl 3 rfl) ?_
            refine lv_icmp_ne (tgt := 182) C.hx C.hb dX8_findStrikes_32 (by decide) (fun c3 => ?_) (fun c3 => ?_)
            · exact absurd (by rw [hag 8 (by decide) (by decide) (by decide) (by decide)]; exact hw) c3
            · refine lv_aload_n C.hx C.hb dX8_findStrikes_35 rfl (lv_at hl 2 rfl) ?_
              refine g_get (k := 13) (v := .ref (am m0 13)) C hW.1 rfl wu_X8 (by decide) wf_X8_44 rfl rfl dX8_findStrikes_36 ?_
              refine lv_iload_n C.hx C.hb dX8_findStrikes_39 rfl (lv_at hl 0 rfl) ?_
              refine g_iald (f := (fsC (fsP x w i1) i1 i2) 13) (k := i2) C (hW.2.1 13 rfl) rfl (show i2 < 400 by omega) (by decide) dX8_findStrikes_40 ?_
              have f4 := MI.po (hok.mi hI) (show i2 < nC (fsC (fsP x w i1) i1 i2) by omega)
              have f4b : tn ((fsC (fsP x w i1) i1 i2) 13 i2) < nP (fsC (fsP x w i1) i1 i2) := f4.2
              refine lv_iload_n C.hx C.hb dX8_findStrikes_41 rfl (lv_at hl 1 rfl) ?_
              refine lv_icmp_ne (tgt := 176) C.hx C.hb dX8_findStrikes_42 (by decide) (fun c5 => ?_) (fun c5 => ?_)
              · refine lv_iinc (v := (nI i2) + 1) (lv' := [(3, .int ((nI i2) + 1)), (2, .int (nI i1)), (0, .ref m0), (1, .int w)]) C.hx C.hb dX8_findStrikes_176 hl (k := 0) rfl rfl (by decide) rfl (fun ls hl => ?_)
                refine lv_goto (tgt := 17) C.hx C.hb dX8_findStrikes_179 (by decide) ?_
                have hh : fsHit (fsC (fsP x w i1) i1 i2) i1 i2 = false := by unfold fsHit; rw [if_neg c5]
                rw [nI_1 i2] at hl
                exact K2 _ _ _ _ _ ⟨lv_sub hl [0, 1, 2, 3] rfl, by rw [fsC_f hh]; exact hW, hS, rfl, rfl⟩
              · refine lv_aload_n C.hx C.hb dX8_findStrikes_45 rfl (lv_at hl 2 rfl) ?_
                refine lv_iload_n C.hx C.hb dX8_findStrikes_46 rfl (lv_at hl 0 rfl) ?_
                refine kVR (As := [.int (nI i2)]) (rest := []) (v := .int (s_X8_stands (fsC (fsP x w i1) i1 i2) i2)) C (cM_stands l G m0 (fsC (fsP x w i1) i1 i2) z (hok.mi hI) i2 (show i2 < nC (fsC (fsP x w i1) i1 i2) by omega)) lk_X8_213 (g_recv C hW.1 rfl) hW rfl rfl hl (Nat.le_of_ble_eq_true rfl) dX8_findStrikes_47 ⟨⟨by decide, by decide⟩, by decide, by decide⟩ ?_
                refine lv_if_eq (tgt := 176) C.hx C.hb dX8_findStrikes_50 (by decide) (fun c6 => ?_) (fun c6 => ?_)
                · refine lv_iinc (v := (nI i2) + 1) (lv' := [(3, .int ((nI i2) + 1)), (2, .int (nI i1)), (0, .ref m0), (1, .int w)]) C.hx C.hb dX8_findStrikes_176 hl (k := 0) rfl rfl (by decide) rfl (fun ls hl => ?_)
                  refine lv_goto (tgt := 17) C.hx C.hb dX8_findStrikes_179 (by decide) ?_
                  have hh : fsHit (fsC (fsP x w i1) i1 i2) i1 i2 = false := by unfold fsHit; rw [if_pos c5, if_pos c6]
                  rw [nI_1 i2] at hl
                  exact K2 _ _ _ _ _ ⟨lv_sub hl [0, 1, 2, 3] rfl, by rw [fsC_f hh]; exact hW, hS, rfl, rfl⟩
                · refine lv_aload_n C.hx C.hb dX8_findStrikes_53 rfl (lv_at hl 2 rfl) ?_
                  refine g_get (k := 3) (v := .ref (am m0 3)) C hW.1 rfl wu_X8 (by decide) wf_X8_16 rfl rfl dX8_findStrikes_54 ?_
                  refine lv_aload_n C.hx C.hb dX8_findStrikes_57 rfl (lv_at hl 2 rfl) ?_
                  refine g_get (k := 14) (v := .ref (am m0 14)) C hW.1 rfl wu_X8 (by decide) wf_X8_47 rfl rfl dX8_findStrikes_58 ?_
                  refine lv_iload_n C.hx C.hb dX8_findStrikes_61 rfl (lv_at hl 0 rfl) ?_
                  refine g_iald (f := (fsC (fsP x w i1) i1 i2) 14) (k := i2) C (hW.2.1 14 rfl) rfl (show i2 < 400 by omega) (by decide) dX8_findStrikes_62 ?_
                  have f7 := MI.ru (hok.mi hI) (show i2 < nC (fsC (fsP x w i1) i1 i2) by omega)
                  have f7b : tn ((fsC (fsP x w i1) i1 i2) 14 i2) < 8 := f7.2
                  refine g_iald (f := (fsC (fsP x w i1) i1 i2) 3) (k := (tn ((fsC (fsP x w i1) i1 i2) 14 i2))) C (hW.2.1 3 rfl) f7.1 (show (tn ((fsC (fsP x w i1) i1 i2) 14 i2)) < 8 by omega) (by decide) dX8_findStrikes_63 ?_
                  refine lv_iconst (v := 2) C.hx C.hb dX8_findStrikes_64 (by decide) ?_
                  refine lv_icmp_ne (tgt := 176) C.hx C.hb dX8_findStrikes_65 (by decide) (fun c8 => ?_) (fun c8 => ?_)
                  · refine lv_iinc (v := (nI i2) + 1) (lv' := [(3, .int ((nI i2) + 1)), (2, .int (nI i1)), (0, .ref m0), (1, .int w)]) C.hx C.hb dX8_findStrikes_176 hl (k := 0) rfl rfl (by decide) rfl (fun ls hl => ?_)
                    refine lv_goto (tgt := 17) C.hx C.hb dX8_findStrikes_179 (by decide) ?_
                    have hh : fsHit (fsC (fsP x w i1) i1 i2) i1 i2 = false := by unfold fsHit; rw [if_pos c5, if_neg c6, if_neg c8]
                    rw [nI_1 i2] at hl
                    exact K2 _ _ _ _ _ ⟨lv_sub hl [0, 1, 2, 3] rfl, by rw [fsC_f hh]; exact hW, hS, rfl, rfl⟩
                  · have hlt := (hok.lt hI (by omega) c5 (by omega)).2
                    refine lv_iconst (v := 0) C.hx C.hb dX8_findStrikes_68 (by decide) ?_
                    refine lv_istore (lv' := [(4, .int 0), (3, .int (nI i2)), (2, .int (nI i1)), (0, .ref m0), (1, .int w)]) C.hx C.hb dX8_findStrikes_69 hl (by decide) rfl (fun ls hl => ?_)
                    refine lv_iconst (v := 0) C.hx C.hb dX8_findStrikes_71 (by decide) ?_
                    refine lv_istore (lv' := [(5, .int 0), (4, .int 0), (3, .int (nI i2)), (2, .int (nI i1)), (0, .ref m0), (1, .int w)]) C.hx C.hb dX8_findStrikes_72 hl (by decide) rfl (fun ls hl => ?_)
                    refine W.loopR (N := (tn ((fsC (fsP x w i1) i1 i2) 46 0))) (Inv := fun i ls => lv_has ls 6 [(5, .int (nI i)), (4, .int (itr (f_X8_findStrikes_74_4 (fsC (fsP x w i1) i1 i2) i1) 0 i)), (3, .int (nI i2)), (2, .int (nI i1)), (0, .ref m0), (1, .int w)]) 74 [] (fun i6 ls hi6 hl K6 => ?_) (fun ls hl => ?_) 0 ls (Nat.zero_le _) (lv_sub hl [0, 1, 2, 3, 4, 5] rfl)
                    · refine lv_iload C.hx C.hb dX8_findStrikes_74 (lv_at hl 0 rfl) ?_
                      refine lv_aload_n C.hx C.hb dX8_findStrikes_76 rfl (lv_at hl 4 rfl) ?_
                      refine g_get (k := 46) (v := .int ((fsC (fsP x w i1) i1 i2) 46 0)) C hW.1 rfl wu_X8 (by decide) wf_X8_210 rfl rfl dX8_findStrikes_77 ?_
                      refine lv_icmp_ge (tgt := 120) C.hx C.hb dX8_findStrikes_80 (by decide) (fun c9 => ?_) (fun c9 => ?_)
                      · exact absurd c9 (lt_nle h46 hi6 (by omega))
                      · refine lv_iload C.hx C.hb dX8_findStrikes_83 (lv_at hl 1 rfl) ?_
                        refine lv_aload_n C.hx C.hb dX8_findStrikes_85 rfl (lv_at hl 4 rfl) ?_
                        refine g_get (k := 9) (v := .ref (am m0 9)) C hW.1 rfl wu_X8 (by decide) wf_X8_35 rfl rfl dX8_findStrikes_86 ?_
                        refine lv_iload_n C.hx C.hb dX8_findStrikes_89 rfl (lv_at hl 3 rfl) ?_
                        refine g_iald (f := (fsC (fsP x w i1) i1 i2) 9) (k := i1) C (hW.2.1 9 rfl) rfl (show i1 < 300 by omega) (by decide) dX8_findStrikes_90 ?_
                        refine lv_aload_n C.hx C.hb dX8_findStrikes_91 rfl (lv_at hl 4 rfl) ?_
                        refine g_get (k := 44) (v := .ref (am m0 44)) C hW.1 rfl wu_X8 (by decide) wf_X8_127 rfl rfl dX8_findStrikes_92 ?_
                        refine lv_iload C.hx C.hb dX8_findStrikes_95 (lv_at hl 0 rfl) ?_
                        refine g_iald (f := (fsC (fsP x w i1) i1 i2) 44) (k := i6) C (hW.2.1 44 rfl) rfl (show i6 < 400 by omega) (by decide) dX8_findStrikes_97 ?_
                        refine lv_aload_n C.hx C.hb dX8_findStrikes_98 rfl (lv_at hl 4 rfl) ?_
                        refine g_get (k := 5) (v := .int ((fsC (fsP x w i1) i1 i2) 5 0)) C hW.1 rfl wu_X8 (by decide) wf_X8_22 rfl rfl dX8_findStrikes_99 ?_
                        refine lv_iadd C.hx C.hb dX8_findStrikes_102 ?_
                        refine W.joinI (P := fun jv => jv = (if (((fsC (fsP x w i1) i1 i2) 44 i6) + ((fsC (fsP x w i1) i1 i2) 5 0)) ≤ ((fsC (fsP x w i1) i1 i2) 9 i1) then 0 else 1 : Int32)) 111 ls [.int (itr (f_X8_findStrikes_74_4 (fsC (fsP x w i1) i1 i2) i1) 0 i6)] (fun J11 => ?_) (fun v12 hv12 => ?_)
                        · refine lv_icmp_ge (tgt := 110) C.hx C.hb dX8_findStrikes_103 (by decide) (fun c10 => ?_) (fun c10 => ?_)
                          · refine lv_iconst (v := 0) C.hx C.hb dX8_findStrikes_110 (by decide) ?_
                            exact J11 _ (by rw [if_pos c10])
                          · refine lv_iconst (v := 1) C.hx C.hb dX8_findStrikes_106 (by decide) ?_
                            refine lv_goto (tgt := 111) C.hx C.hb dX8_findStrikes_107 (by decide) ?_
                            exact J11 _ (by rw [if_neg c10])
                        · refine lv_iadd C.hx C.hb dX8_findStrikes_111 ?_
                          refine lv_istore (lv' := [(4, .int ((itr (f_X8_findStrikes_74_4 (fsC (fsP x w i1) i1 i2) i1) 0 i6) + v12)), (5, .int (nI i6)), (3, .int (nI i2)), (2, .int (nI i1)), (0, .ref m0), (1, .int w)]) C.hx C.hb dX8_findStrikes_112 hl (by decide) rfl (fun ls hl => ?_)
                          refine lv_iinc (v := (nI i6) + 1) (lv' := [(5, .int ((nI i6) + 1)), (4, .int ((itr (f_X8_findStrikes_74_4 (fsC (fsP x w i1) i1 i2) i1) 0 i6) + v12)), (3, .int (nI i2)), (2, .int (nI i1)), (0, .ref m0), (1, .int w)]) C.hx C.hb dX8_findStrikes_114 hl (k := 1) rfl rfl (by decide) rfl (fun ls hl => ?_)
                          refine lv_goto (tgt := 74) C.hx C.hb dX8_findStrikes_117 (by decide) ?_
                          rw [hv12] at hl
                          rw [nI_1 i6] at hl
                          exact K6 _ (lv_sub hl [0, 1, 2, 3, 4, 5] rfl)
                    · refine lv_iload C.hx C.hb dX8_findStrikes_74 (lv_at hl 0 rfl) ?_
                      refine lv_aload_n C.hx C.hb dX8_findStrikes_76 rfl (lv_at hl 4 rfl) ?_
                      refine g_get (k := 46) (v := .int ((fsC (fsP x w i1) i1 i2) 46 0)) C hW.1 rfl wu_X8 (by decide) wf_X8_210 rfl rfl dX8_findStrikes_77 ?_
                      refine lv_icmp_ge (tgt := 120) C.hx C.hb dX8_findStrikes_80 (by decide) (fun c13 => ?_) (fun c13 => ?_)
                      · refine lv_aload_n C.hx C.hb dX8_findStrikes_120 rfl (lv_at hl 4 rfl) ?_
                        refine g_get (k := 43) (v := .ref (am m0 43)) C hW.1 rfl wu_X8 (by decide) wf_X8_124 rfl rfl dX8_findStrikes_121 ?_
                        refine lv_aload_n C.hx C.hb dX8_findStrikes_124 rfl (lv_at hl 4 rfl) ?_
                        refine g_get (k := 46) (v := .int ((fsC (fsP x w i1) i1 i2) 46 0)) C hW.1 rfl wu_X8 (by decide) wf_X8_210 rfl rfl dX8_findStrikes_125 ?_
                        refine lv_iload_n C.hx C.hb dX8_findStrikes_128 rfl (lv_at hl 2 rfl) ?_
                        refine g_iast (f := (fsC (fsP x w i1) i1 i2) 43) (k := (tn ((fsC (fsP x w i1) i1 i2) 46 0))) C hS (hW.2.1 43 rfl) (am_A (Or.inl rfl)) h46 (show (tn ((fsC (fsP x w i1) i1 i2) 46 0)) < 400 by omega) (by decide) dX8_findStrikes_129 (fun H locs e1 o1 z1 hS => ?_)
                        have hW : MWd G m0 (up2 (fsC (fsP x w i1) i1 i2) 43 (tn ((fsC (fsP x w i1) i1 i2) 46 0)) (nI i2)) z H := MWd.putA 43 hW rfl e1 o1 (mfs_up rfl) (by decide) (by decide)
                        refine lv_aload_n C.hx C.hb dX8_findStrikes_130 rfl (lv_at hl 4 rfl) ?_
                        refine g_get (k := 44) (v := .ref (am m0 44)) C hW.1 rfl wu_X8 (by decide) wf_X8_127 rfl rfl dX8_findStrikes_131 ?_
                        refine lv_aload_n C.hx C.hb dX8_findStrikes_134 rfl (lv_at hl 4 rfl) ?_
                        refine g_get (k := 46) (v := .int ((fsC (fsP x w i1) i1 i2) 46 0)) C hW.1 rfl wu_X8 (by decide) wf_X8_210 rfl rfl dX8_findStrikes_135 ?_
                        refine lv_aload_n C.hx C.hb dX8_findStrikes_138 rfl (lv_at hl 4 rfl) ?_
                        refine g_get (k := 9) (v := .ref (am m0 9)) C hW.1 rfl wu_X8 (by decide) wf_X8_35 rfl rfl dX8_findStrikes_139 ?_
                        refine lv_iload_n C.hx C.hb dX8_findStrikes_142 rfl (lv_at hl 3 rfl) ?_
                        refine g_iald (f := (fsC (fsP x w i1) i1 i2) 9) (k := i1) C (hW.2.1 9 rfl) rfl (show i1 < 300 by omega) (by decide) dX8_findStrikes_143 ?_
                        refine g_iast (f := (fsC (fsP x w i1) i1 i2) 44) (k := (tn ((fsC (fsP x w i1) i1 i2) 46 0))) C hS (hW.2.1 44 rfl) (am_A (Or.inl rfl)) h46 (show (tn ((fsC (fsP x w i1) i1 i2) 46 0)) < 400 by omega) (by decide) dX8_findStrikes_144 (fun H locs e1 o1 z1 hS => ?_)
                        have hW : MWd G m0 (up2 (up2 (fsC (fsP x w i1) i1 i2) 43 (tn ((fsC (fsP x w i1) i1 i2) 46 0)) (nI i2)) 44 (tn ((fsC (fsP x w i1) i1 i2) 46 0)) ((fsC (fsP x w i1) i1 i2) 9 i1)) z H := MWd.putA 44 hW rfl e1 o1 (mfs_up rfl) (by decide) (by decide)
                        refine lv_aload_n C.hx C.hb dX8_findStrikes_145 rfl (lv_at hl 4 rfl) ?_
                        refine g_get (k := 45) (v := .ref (am m0 45)) C hW.1 rfl wu_X8 (by decide) wf_X8_130 rfl rfl dX8_findStrikes_146 ?_
                        refine lv_aload_n C.hx C.hb dX8_findStrikes_149 rfl (lv_at hl 4 rfl) ?_
                        refine g_get (k := 46) (v := .int ((fsC (fsP x w i1) i1 i2) 46 0)) C hW.1 rfl wu_X8 (by decide) wf_X8_210 rfl rfl dX8_findStrikes_150 ?_
                        refine lv_iload C.hx C.hb dX8_findStrikes_153 (lv_at hl 1 rfl) ?_
                        refine lv_iconst (v := 3) C.hx C.hb dX8_findStrikes_155 (by decide) ?_
                        refine W.joinI (P := fun jv => jv = (if 3 ≤ (itr (f_X8_findStrikes_74_4 (fsC (fsP x w i1) i1 i2) i1) 0 (tn ((fsC (fsP x w i1) i1 i2) 46 0))) then 3 else itr (f_X8_findStrikes_74_4 (fsC (fsP x w i1) i1 i2) i1) 0 (tn ((fsC (fsP x w i1) i1 i2) 46 0)) : Int32)) 165 ls [.int ((fsC (fsP x w i1) i1 i2) 46 0), .ref (am m0 45)] (fun J15 => ?_) (fun v16 hv16 => ?_)
                        · refine lv_icmp_ge (tgt := 164) C.hx C.hb dX8_findStrikes_156 (by decide) (fun c14 => ?_) (fun c14 => ?_)
                          · refine lv_iconst (v := 3) C.hx C.hb dX8_findStrikes_164 (by decide) ?_
                            exact J15 _ (by rw [if_pos c14])
                          · refine lv_iload C.hx C.hb dX8_findStrikes_159 (lv_at hl 1 rfl) ?_
                            refine lv_goto (tgt := 165) C.hx C.hb dX8_findStrikes_161 (by decide) ?_
                            exact J15 _ (by rw [if_neg c14])
                        · refine g_iast (f := (fsC (fsP x w i1) i1 i2) 45) (k := (tn ((fsC (fsP x w i1) i1 i2) 46 0))) C hS (hW.2.1 45 rfl) (am_A (Or.inl rfl)) h46 (show (tn ((fsC (fsP x w i1) i1 i2) 46 0)) < 400 by omega) (by decide) dX8_findStrikes_165 (fun H locs e1 o1 z1 hS => ?_)
                          have hW : MWd G m0 (up2 (up2 (up2 (fsC (fsP x w i1) i1 i2) 43 (tn ((fsC (fsP x w i1) i1 i2) 46 0)) (nI i2)) 44 (tn ((fsC (fsP x w i1) i1 i2) 46 0)) ((fsC (fsP x w i1) i1 i2) 9 i1)) 45 (tn ((fsC (fsP x w i1) i1 i2) 46 0)) v16) z H := MWd.putA 45 hW rfl e1 o1 (mfs_up rfl) (by decide) (by decide)
                          refine lv_aload_n C.hx C.hb dX8_findStrikes_166 rfl (lv_at hl 4 rfl) ?_
                          refine lv_dup C.hx C.hb dX8_findStrikes_167 rfl ?_
                          refine g_get (k := 46) (v := .int ((fsC (fsP x w i1) i1 i2) 46 0)) C hW.1 rfl wu_X8 (by decide) wf_X8_210 rfl rfl dX8_findStrikes_168 ?_
                          refine lv_iconst (v := 1) C.hx C.hb dX8_findStrikes_171 (by decide) ?_
                          refine lv_iadd C.hx C.hb dX8_findStrikes_172 ?_
                          refine g_put (k := 46) tyX8 C hS hW.1 MA_0 rfl wu_X8 tyX8_ok nmX8 (by decide) wf_X8_210 rfl rfl rfl rfl rfl (Nat.le_of_ble_eq_true rfl) dX8_findStrikes_173 (fun H locs e1 o1 z1 hS => ?_)
                          have hW : MWd G m0 (up2 (up2 (up2 (up2 (fsC (fsP x w i1) i1 i2) 43 (tn ((fsC (fsP x w i1) i1 i2) 46 0)) (nI i2)) 44 (tn ((fsC (fsP x w i1) i1 i2) 46 0)) ((fsC (fsP x w i1) i1 i2) 9 i1)) 45 (tn ((fsC (fsP x w i1) i1 i2) 46 0)) v16) 46 0 (((fsC (fsP x w i1) i1 i2) 46 0) + 1)) z H := MWd.putS 46 hW e1 o1 mset_46 rfl (by decide)
                          refine lv_iinc (v := (nI i2) + 1) (lv' := [(3, .int ((nI i2) + 1)), (5, .int (nI (tn ((fsC (fsP x w i1) i1 i2) 46 0)))), (4, .int (itr (f_X8_findStrikes_74_4 (fsC (fsP x w i1) i1 i2) i1) 0 (tn ((fsC (fsP x w i1) i1 i2) 46 0)))), (2, .int (nI i1)), (0, .ref m0), (1, .int w)]) C.hx C.hb dX8_findStrikes_176 hl (k := 2) rfl rfl (by decide) rfl (fun ls hl => ?_)
                          refine lv_goto (tgt := 17) C.hx C.hb dX8_findStrikes_179 (by decide) ?_
                          have hh : fsHit (fsC (fsP x w i1) i1 i2) i1 i2 = true := by unfold fsHit; rw [if_pos c5, if_neg c6, if_pos c8]
                          rw [nI_1 i2] at hl
                          rw [hv16] at hW
                          exact K2 _ _ _ _ _ ⟨lv_sub hl [0, 3, 4, 5] rfl, by rw [fsC_t hh]; exact hW, hS, rfl, rfl⟩
                      · exact absurd (le_eqn h46) c13
        · obtain ⟨hl, hW, hS, rfl, rfl⟩ := hq
          have hok := fsC_ok hI (show i1 < 300 by omega) hok (nC x) (by omega)
          have hag := hok.1
          have eP : (fsC (fsP x w i1) i1 (nC x)) 12 0 = nI (nP x) := by rw [hag 12 (by decide) (by decide) (by decide) (by decide)]; exact hI.1.1
          have eC : (fsC (fsP x w i1) i1 (nC x)) 27 0 = nI (nC x) := by rw [hag 27 (by decide) (by decide) (by decide) (by decide)]; exact hI.2.1.1
          have enC : nC (fsC (fsP x w i1) i1 (nC x)) = nC x := by show tn ((fsC (fsP x w i1) i1 (nC x)) 27 0) = _; rw [hag 27 (by decide) (by decide) (by decide) (by decide)]
          have enP : nP (fsC (fsP x w i1) i1 (nC x)) = nP x := by show tn ((fsC (fsP x w i1) i1 (nC x)) 12 0) = _; rw [hag 12 (by decide) (by decide) (by decide) (by decide)]
          have h46 := hok.2.1
          refine lv_iload_n C.hx C.hb dX8_findStrikes_17 rfl (lv_at hl 0 rfl) ?_
          refine lv_aload_n C.hx C.hb dX8_findStrikes_18 rfl (lv_at hl 2 rfl) ?_
          refine g_get (k := 27) (v := .int ((fsC (fsP x w i1) i1 (nC x)) 27 0)) C hW.1 rfl wu_X8 (by decide) wf_X8_133 rfl rfl dX8_findStrikes_19 ?_
          refine lv_icmp_ge (tgt := 182) C.hx C.hb dX8_findStrikes_22 (by decide) (fun c17 => ?_) (fun c17 => ?_)
          · refine lv_iinc (v := (nI i1) + 1) (lv' := [(2, .int ((nI i1) + 1)), (3, .int (nI (nC x))), (0, .ref m0), (1, .int w)]) C.hx C.hb dX8_findStrikes_182 hl (k := 1) rfl rfl (by decide) rfl (fun ls hl => ?_)
            refine lv_goto (tgt := 7) C.hx C.hb dX8_findStrikes_185 (by decide) ?_
            rw [nI_1 i1] at hl
            exact K1 _ _ _ _ _ ⟨lv_sub hl [0, 2, 3] rfl, by rw [fsP_t hw]; exact hW, hS, rfl, rfl⟩
          · exact absurd (le_eqn eC) c17
      · refine lv_iload_n C.hx C.hb dX8_findStrikes_17 rfl (lv_at hl 0 rfl) ?_
        refine lv_aload_n C.hx C.hb dX8_findStrikes_18 rfl (lv_at hl 2 rfl) ?_
        refine g_get (k := 27) (v := .int ((fsP x w i1) 27 0)) C hW.1 rfl wu_X8 (by decide) wf_X8_133 rfl rfl dX8_findStrikes_19 ?_
        refine W.joinL (P := fun ls => lv_has ls 6 [(3, .int 0), (2, .int (nI i1)), (0, .ref m0), (1, .int w)]) 182 [] (fun J20 => ?_) (fun ls hl => ?_)
        · refine lv_icmp_ge (tgt := 182) C.hx C.hb dX8_findStrikes_22 (by decide) (fun c18 => ?_) (fun c18 => ?_)
          · exact J20 _ (by exact lv_sub hl [0, 1, 2, 3] rfl)
          · refine lv_aload_n C.hx C.hb dX8_findStrikes_25 rfl (lv_at hl 2 rfl) ?_
            refine g_get (k := 8) (v := .ref (am m0 8)) C hW.1 rfl wu_X8 (by decide) wf_X8_32 rfl rfl dX8_findStrikes_26 ?_
            refine lv_iload_n C.hx C.hb dX8_findStrikes_29 rfl (lv_at hl 1 rfl) ?_
            refine g_iald (f := (fsP x w i1) 8) (k := i1) C (hW.2.1 8 rfl) rfl (show i1 < 300 by omega) (by decide) dX8_findStrikes_30 ?_
            refine lv_iload_n C.hx C.hb dX8_findStrikes_31 rfl (lv_at hl 3 rfl) ?_
            refine lv_icmp_ne (tgt := 182) C.hx C.hb dX8_findStrikes_32 (by decide) (fun c19 => ?_) (fun c19 => ?_)
            · exact J20 _ (by exact lv_sub hl [0, 1, 2, 3] rfl)
            · exact absurd (by rw [← hag 8 (by decide) (by decide) (by decide) (by decide)]; exact c19) hw
        · refine lv_iinc (v := (nI i1) + 1) (lv' := [(2, .int ((nI i1) + 1)), (3, .int 0), (0, .ref m0), (1, .int w)]) C.hx C.hb dX8_findStrikes_182 hl (k := 1) rfl rfl (by decide) rfl (fun ls hl => ?_)
          refine lv_goto (tgt := 7) C.hx C.hb dX8_findStrikes_185 (by decide) ?_
          rw [nI_1 i1] at hl
          exact K1 _ _ _ _ _ ⟨lv_sub hl [0, 2, 3] rfl, by rw [fsP_f hw]; exact hW, hS, rfl, rfl⟩
  · obtain ⟨hl, hW, hS, rfl, rfl⟩ := hq
    have hok := fsP_ok hI w (nP x) (by omega)
    have hag := hok.1
    have eP : (fsP x w (nP x)) 12 0 = nI (nP x) := by rw [hag 12 (by decide) (by decide) (by decide) (by decide)]; exact hI.1.1
    have eC : (fsP x w (nP x)) 27 0 = nI (nC x) := by rw [hag 27 (by decide) (by decide) (by decide) (by decide)]; exact hI.2.1.1
    have enC : nC (fsP x w (nP x)) = nC x := by show tn ((fsP x w (nP x)) 27 0) = _; rw [hag 27 (by decide) (by decide) (by decide) (by decide)]
    have enP : nP (fsP x w (nP x)) = nP x := by show tn ((fsP x w (nP x)) 12 0) = _; rw [hag 12 (by decide) (by decide) (by decide) (by decide)]
    have h46 := hok.2.1
    refine lv_iload_n C.hx C.hb dX8_findStrikes_7 rfl (lv_at hl 0 rfl) ?_
    refine lv_aload_n C.hx C.hb dX8_findStrikes_8 rfl (lv_at hl 1 rfl) ?_
    refine g_get (k := 12) (v := .int ((fsP x w (nP x)) 12 0)) C hW.1 rfl wu_X8 (by decide) wf_X8_144 rfl rfl dX8_findStrikes_9 ?_
    refine lv_icmp_ge (tgt := 188) C.hx C.hb dX8_findStrikes_12 (by decide) (fun c21 => ?_) (fun c21 => ?_)
    · exact wV C hr dX8_findStrikes_188 hS (by unfold sx_X8_findStrikes; exact hW)
    · exact absurd (le_eqn eP) c21
