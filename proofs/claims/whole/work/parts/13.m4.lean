abbrev XX : Type := Nat → Nat → Int32
theorem MI.up {x : XX} {k j : Nat} {v : Int32} (h : MI x) (hk : (k == 12 || k == 13 || k == 14 || k == 17 || k == 27 || k == 36 || k == 38 || k == 39 || k == 42) = false) : MI (up2 x k j v) := by
  simp only [Bool.or_eq_false_iff, beq_eq_false_iff_ne, ne_eq] at hk
  obtain ⟨⟨⟨⟨⟨⟨⟨⟨h12, h13⟩, h14⟩, h17⟩, h27⟩, h36⟩, h38⟩, h39⟩, h42⟩ := hk
  unfold MI nP nC nG nV
  rw [up2_ne (Ne.symm h12), up2_ne (Ne.symm h27), up2_ne (Ne.symm h36), up2_ne (Ne.symm h42), up2_ne (Ne.symm h13), up2_ne (Ne.symm h14), up2_ne (Ne.symm h17), up2_ne (Ne.symm h38), up2_ne (Ne.symm h39)]
  exact h
/-- the gifts that stay move to the front: the state, and how many there are -/
def gbS (q : XX → Nat → Bool) (x : XX) : Nat → XX × Nat
  | 0 => (x, 0)
  | g + 1 => if q (gbS q x g).1 g = true then (up2 (up2 (gbS q x g).1 34 (gbS q x g).2 ((gbS q x g).1 34 g)) 35 (gbS q x g).2 ((gbS q x g).1 35 g), (gbS q x g).2 + 1) else gbS q x g
theorem gbS_t {q : XX → Nat → Bool} {x : XX} {g : Nat} (h : q (gbS q x g).1 g = true) : gbS q x (g + 1) = (up2 (up2 (gbS q x g).1 34 (gbS q x g).2 ((gbS q x g).1 34 g)) 35 (gbS q x g).2 ((gbS q x g).1 35 g), (gbS q x g).2 + 1) := by
  show (if q (gbS q x g).1 g = true then _ else _) = _
  rw [if_pos h]
theorem gbS_f {q : XX → Nat → Bool} {x : XX} {g : Nat} (h : q (gbS q x g).1 g = false) : gbS q x (g + 1) = gbS q x g := by
  show (if q (gbS q x g).1 g = true then _ else _) = _
  rw [if_neg (by rw [h]; decide)]
theorem gbS_le (q : XX → Nat → Bool) (x : XX) : ∀ g, (gbS q x g).2 ≤ g
  | 0 => Nat.le_refl 0
  | g + 1 => by
    have ih := gbS_le q x g
    cases h : q (gbS q x g).1 g with
    | true => rw [gbS_t h]; show (gbS q x g).2 + 1 ≤ g + 1; omega
    | false => rw [gbS_f h]; omega
theorem gbS_ne {q : XX → Nat → Bool} {x : XX} {k : Nat} (h34 : k ≠ 34) (h35 : k ≠ 35) : ∀ {g : Nat}, (gbS q x g).1 k = x k
  | 0 => rfl
  | g + 1 => by
    have ih := gbS_ne (q := q) (x := x) h34 h35 (g := g)
    cases h : q (gbS q x g).1 g with
    | true => rw [gbS_t h]; show up2 (up2 _ _ _ _) _ _ _ k = x k; rw [up2_ne h35, up2_ne h34]; exact ih
    | false => rw [gbS_f h]; exact ih
/-- the state behind it: as many gifts as stayed -/
def gbF (q : XX → Nat → Bool) (x : XX) : XX := up2 (gbS q x (nG x)).1 36 0 (nI (gbS q x (nG x)).2)
theorem gbF_ne {q : XX → Nat → Bool} {x : XX} {k : Nat} (h34 : k ≠ 34) (h35 : k ≠ 35) (h36 : k ≠ 36) : gbF q x k = x k := by unfold gbF; rw [up2_ne h36, gbS_ne h34 h35]
theorem gbF_36 (q : XX → Nat → Bool) (x : XX) : gbF q x 36 0 = nI (gbS q x (nG x)).2 := by unfold gbF; rw [up2_eq]; rfl
theorem MI_gbF {q : XX → Nat → Bool} {x : XX} (h : MI x) : MI (gbF q x) := by
  have hle := gbS_le q x (nG x)
  have h36 := gbF_36 q x
  have hb : nG x ≤ 400 := h.2.2.1.2
  have ht : tn (nI (gbS q x (nG x)).2) = (gbS q x (nG x)).2 := nI_clamp (by omega)
  obtain ⟨a1, a2, a3, a4, a5, a6⟩ := h
  have e12 := gbF_ne (q := q) (x := x) (k := 12) (by decide) (by decide) (by decide)
  have e27 := gbF_ne (q := q) (x := x) (k := 27) (by decide) (by decide) (by decide)
  have e42 := gbF_ne (q := q) (x := x) (k := 42) (by decide) (by decide) (by decide)
  have e13 := gbF_ne (q := q) (x := x) (k := 13) (by decide) (by decide) (by decide)
  have e14 := gbF_ne (q := q) (x := x) (k := 14) (by decide) (by decide) (by decide)
  have e17 := gbF_ne (q := q) (x := x) (k := 17) (by decide) (by decide) (by decide)
  have e38 := gbF_ne (q := q) (x := x) (k := 38) (by decide) (by decide) (by decide)
  have e39 := gbF_ne (q := q) (x := x) (k := 39) (by decide) (by decide) (by decide)
  unfold MI nP nC nG nV
  rw [e12, e27, e42, e13, e14, e17, e38, e39, h36, ht]
  exact ⟨a1, a2, ⟨rfl, by omega⟩, a4, a5, a6⟩
def sx_X8_giveBack (x : Nat → Nat → Int32) (j : Int32) : Nat → Nat → Int32 := (up2 (gbS (fun X g => decide (¬ X 34 g = j)) x (nG x)).1 36 0 (nI (gbS (fun X g => decide (¬ X 34 g = j)) x (nG x)).2))
set_option maxRecDepth 100000 in
set_option maxHeartbeats 400000 in
theorem cM_giveBack (l : Launch) (G : GG) (m0 : Nat) (x : Nat → Nat → Int32) (z : Nat → Int64) (hI : MI x) (j : Int32) : MW l G yX8_giveBack cX8_giveBack 4 none 0 [.ref m0, .int j] (MWd G m0 x z) none (MWd G m0 (sx_X8_giveBack x j) z) (MA m0) 0 0 := by
  refine MW.of RX8 rfl (by decide) (Nat.le_of_ble_eq_true rfl) ?_
  intro p_ e_ s_ m_ args_ below_ meth_ c_ ls hargs C hr hnm hW hS hl
  obtain ⟨⟨eP, bP⟩, ⟨eC, bC⟩, ⟨eG, bG⟩, ⟨eV, bV⟩, -, -⟩ := id hI
  have hl : lv_has ls 4 [(0, .ref m0), (1, .int j)] := hl
  refine lv_iconst (v := 0) C.hx C.hb dX8_giveBack_0 (by decide) ?_
  refine lv_istore_n (lv' := [(2, .int 0), (0, .ref m0), (1, .int j)]) C.hx C.hb dX8_giveBack_1 rfl hl (by decide) rfl (fun ls hl => ?_)
  refine lv_iconst (v := 0) C.hx C.hb dX8_giveBack_2 (by decide) ?_
  refine lv_istore_n (lv' := [(3, .int 0), (2, .int 0), (0, .ref m0), (1, .int j)]) C.hx C.hb dX8_giveBack_3 rfl hl (by decide) rfl (fun ls hl => ?_)
  refine W.loopW (N := nG x) (Inv := fun i ls H locs ce sl => lv_has ls 4 [(3, .int (nI i)), (2, .int (nI (gbS (fun X g => decide (¬ X 34 g = j)) x i).2)), (0, .ref m0), (1, .int j)] ∧ MWd G m0 (gbS (fun X g => decide (¬ X 34 g = j)) x i).1 z H ∧ va_S (MA m0) s_.heap H locs ∧ ce = 0 ∧ sl = 0) 4 [] (fun i1 ls H locs ce sl hi1 hq K1 => ?_) (fun ls H locs ce sl hq => ?_) 0 ls _ _ _ _ (Nat.zero_le _) ⟨lv_sub hl [0, 1, 2, 3] rfl, hW, hS, rfl, rfl⟩
  · obtain ⟨hl, hW, hS, rfl, rfl⟩ := hq
    have hn1 := gbS_le (fun X g => decide (¬ X 34 g = j)) x i1
    have eG : (gbS (fun X g => decide (¬ X 34 g = j)) x i1).1 36 0 = nI (nG x) := by rw [gbS_ne (k := 36) (by decide) (by decide)]; exact eG
    refine lv_iload_n C.hx C.hb dX8_giveBack_4 rfl (lv_at hl 0 rfl) ?_
    refine lv_aload_n C.hx C.hb dX8_giveBack_5 rfl (lv_at hl 2 rfl) ?_
    refine g_get (k := 36) (v := .int ((gbS (fun X g => decide (¬ X 34 g = j)) x i1).1 36 0)) C hW.1 rfl wu_X8 (by decide) wf_X8_153 rfl rfl dX8_giveBack_6 ?_
    refine lv_icmp_ge (tgt := 55) C.hx C.hb dX8_giveBack_9 (by decide) (fun c1 => ?_) (fun c1 => ?_)
    · exact absurd c1 (lt_nle eG hi1 (by omega))
    · refine lv_aload_n C.hx C.hb dX8_giveBack_12 rfl (lv_at hl 2 rfl) ?_
      refine g_get (k := 34) (v := .ref (am m0 34)) C hW.1 rfl wu_X8 (by decide) wf_X8_103 rfl rfl dX8_giveBack_13 ?_
      refine lv_iload_n C.hx C.hb dX8_giveBack_16 rfl (lv_at hl 0 rfl) ?_
      refine g_iald (f := (gbS (fun X g => decide (¬ X 34 g = j)) x i1).1 34) (k := i1) C (hW.2.1 34 rfl) rfl (show i1 < 400 by omega) (by decide) dX8_giveBack_17 ?_
      refine lv_iload_n C.hx C.hb dX8_giveBack_18 rfl (lv_at hl 3 rfl) ?_
      refine lv_icmp_eq (tgt := 49) C.hx C.hb dX8_giveBack_19 (by decide) (fun c2 => ?_) (fun c2 => ?_)
      · refine lv_iinc (v := (nI i1) + 1) (lv' := [(3, .int ((nI i1) + 1)), (2, .int (nI (gbS (fun X g => decide (¬ X 34 g = j)) x i1).2)), (0, .ref m0), (1, .int j)]) C.hx C.hb dX8_giveBack_49 hl (k := 0) rfl rfl (by decide) rfl (fun ls hl => ?_)
        refine lv_goto (tgt := 4) C.hx C.hb dX8_giveBack_52 (by decide) ?_
        have hq1 : (fun X g => decide (¬ X 34 g = j)) (gbS (fun X g => decide (¬ X 34 g = j)) x i1).1 i1 = false := decide_eq_false (fun k => k c2)
        rw [nI_1 i1] at hl
        exact K1 _ _ _ _ _ ⟨by rw [gbS_f hq1]; exact lv_sub hl [0, 1, 2, 3] rfl, by rw [gbS_f hq1]; exact hW, hS, rfl, rfl⟩
      · refine lv_aload_n C.hx C.hb dX8_giveBack_22 rfl (lv_at hl 2 rfl) ?_
        refine g_get (k := 34) (v := .ref (am m0 34)) C hW.1 rfl wu_X8 (by decide) wf_X8_103 rfl rfl dX8_giveBack_23 ?_
        refine lv_iload_n C.hx C.hb dX8_giveBack_26 rfl (lv_at hl 1 rfl) ?_
        refine lv_aload_n C.hx C.hb dX8_giveBack_27 rfl (lv_at hl 2 rfl) ?_
        refine g_get (k := 34) (v := .ref (am m0 34)) C hW.1 rfl wu_X8 (by decide) wf_X8_103 rfl rfl dX8_giveBack_28 ?_
        refine lv_iload_n C.hx C.hb dX8_giveBack_31 rfl (lv_at hl 0 rfl) ?_
        refine g_iald (f := (gbS (fun X g => decide (¬ X 34 g = j)) x i1).1 34) (k := i1) C (hW.2.1 34 rfl) rfl (show i1 < 400 by omega) (by decide) dX8_giveBack_32 ?_
        refine g_iast (f := (gbS (fun X g => decide (¬ X 34 g = j)) x i1).1 34) (k := ((gbS (fun X g => decide (¬ X 34 g = j)) x i1).2)) C hS (hW.2.1 34 rfl) (am_A (Or.inl rfl)) rfl (show (gbS (fun X g => decide (¬ X 34 g = j)) x i1).2 < 400 by omega) (by decide) dX8_giveBack_33 (fun H locs e1 o1 z1 hS => ?_)
        have hW : MWd G m0 (up2 (gbS (fun X g => decide (¬ X 34 g = j)) x i1).1 34 ((gbS (fun X g => decide (¬ X 34 g = j)) x i1).2) ((gbS (fun X g => decide (¬ X 34 g = j)) x i1).1 34 i1)) z H := MWd.putA 34 hW rfl e1 o1 (mfs_up rfl) (by decide) (by decide)
        refine lv_aload_n C.hx C.hb dX8_giveBack_34 rfl (lv_at hl 2 rfl) ?_
        refine g_get (k := 35) (v := .ref (am m0 35)) C hW.1 rfl wu_X8 (by decide) wf_X8_106 rfl rfl dX8_giveBack_35 ?_
        refine lv_iload_n C.hx C.hb dX8_giveBack_38 rfl (lv_at hl 1 rfl) ?_
        refine lv_aload_n C.hx C.hb dX8_giveBack_39 rfl (lv_at hl 2 rfl) ?_
        refine g_get (k := 35) (v := .ref (am m0 35)) C hW.1 rfl wu_X8 (by decide) wf_X8_106 rfl rfl dX8_giveBack_40 ?_
        refine lv_iload_n C.hx C.hb dX8_giveBack_43 rfl (lv_at hl 0 rfl) ?_
        refine g_iald (f := (gbS (fun X g => decide (¬ X 34 g = j)) x i1).1 35) (k := i1) C (hW.2.1 35 rfl) rfl (show i1 < 400 by omega) (by decide) dX8_giveBack_44 ?_
        refine g_iast (f := (gbS (fun X g => decide (¬ X 34 g = j)) x i1).1 35) (k := ((gbS (fun X g => decide (¬ X 34 g = j)) x i1).2)) C hS (hW.2.1 35 rfl) (am_A (Or.inl rfl)) rfl (show (gbS (fun X g => decide (¬ X 34 g = j)) x i1).2 < 400 by omega) (by decide) dX8_giveBack_45 (fun H locs e1 o1 z1 hS => ?_)
        have hW : MWd G m0 (up2 (up2 (gbS (fun X g => decide (¬ X 34 g = j)) x i1).1 34 ((gbS (fun X g => decide (¬ X 34 g = j)) x i1).2) ((gbS (fun X g => decide (¬ X 34 g = j)) x i1).1 34 i1)) 35 ((gbS (fun X g => decide (¬ X 34 g = j)) x i1).2) ((gbS (fun X g => decide (¬ X 34 g = j)) x i1).1 35 i1)) z H := MWd.putA 35 hW rfl e1 o1 (mfs_up rfl) (by decide) (by decide)
        refine lv_iinc (v := (nI (gbS (fun X g => decide (¬ X 34 g = j)) x i1).2) + 1) (lv' := [(2, .int ((nI (gbS (fun X g => decide (¬ X 34 g = j)) x i1).2) + 1)), (3, .int (nI i1)), (0, .ref m0), (1, .int j)]) C.hx C.hb dX8_giveBack_46 hl (k := 1) rfl rfl (by decide) rfl (fun ls hl => ?_)
        refine lv_iinc (v := (nI i1) + 1) (lv' := [(3, .int ((nI i1) + 1)), (2, .int ((nI (gbS (fun X g => decide (¬ X 34 g = j)) x i1).2) + 1)), (0, .ref m0), (1, .int j)]) C.hx C.hb dX8_giveBack_49 hl (k := 1) rfl rfl (by decide) rfl (fun ls hl => ?_)
        refine lv_goto (tgt := 4) C.hx C.hb dX8_giveBack_52 (by decide) ?_
        have hq1 : (fun X g => decide (¬ X 34 g = j)) (gbS (fun X g => decide (¬ X 34 g = j)) x i1).1 i1 = true := decide_eq_true c2
        rw [nI_1 i1] at hl
        rw [nI_1 (gbS (fun X g => decide (¬ X 34 g = j)) x i1).2] at hl
        exact K1 _ _ _ _ _ ⟨by rw [gbS_t hq1]; exact lv_sub hl [0, 1, 2, 3] rfl, by rw [gbS_t hq1]; exact hW, hS, rfl, rfl⟩
  · obtain ⟨hl, hW, hS, rfl, rfl⟩ := hq
    have hn1 := gbS_le (fun X g => decide (¬ X 34 g = j)) x (nG x)
    have eG : (gbS (fun X g => decide (¬ X 34 g = j)) x (nG x)).1 36 0 = nI (nG x) := by rw [gbS_ne (k := 36) (by decide) (by decide)]; exact eG
    have eV : (gbS (fun X g => decide (¬ X 34 g = j)) x (nG x)).1 42 0 = nI (nV x) := by rw [gbS_ne (k := 42) (by decide) (by decide)]; exact eV
    refine lv_iload_n C.hx C.hb dX8_giveBack_4 rfl (lv_at hl 0 rfl) ?_
    refine lv_aload_n C.hx C.hb dX8_giveBack_5 rfl (lv_at hl 2 rfl) ?_
    refine g_get (k := 36) (v := .int ((gbS (fun X g => decide (¬ X 34 g = j)) x (nG x)).1 36 0)) C hW.1 rfl wu_X8 (by decide) wf_X8_153 rfl rfl dX8_giveBack_6 ?_
    refine lv_icmp_ge (tgt := 55) C.hx C.hb dX8_giveBack_9 (by decide) (fun c3 => ?_) (fun c3 => ?_)
    · refine lv_aload_n C.hx C.hb dX8_giveBack_55 rfl (lv_at hl 2 rfl) ?_
      refine lv_iload_n C.hx C.hb dX8_giveBack_56 rfl (lv_at hl 1 rfl) ?_
      refine g_put (k := 36) tyX8 C hS hW.1 MA_0 rfl wu_X8 tyX8_ok nmX8 (by decide) wf_X8_153 rfl rfl rfl rfl rfl (Nat.le_of_ble_eq_true rfl) dX8_giveBack_57 (fun H locs e1 o1 z1 hS => ?_)
      have hW : MWd G m0 (up2 (gbS (fun X g => decide (¬ X 34 g = j)) x (nG x)).1 36 0 (nI (gbS (fun X g => decide (¬ X 34 g = j)) x (nG x)).2)) z H := MWd.putS 36 hW e1 o1 mset_36 rfl (by decide)
      exact wV C hr dX8_giveBack_60 hS (by unfold sx_X8_giveBack; exact hW)
    · exact absurd (le_eqn eG) c3
theorem sx_giveBack_eq (x : XX) (j : Int32) : sx_X8_giveBack x j = gbF (fun X g => decide (¬ X 34 g = j)) x := rfl
theorem MI_giveBack {x : XX} (h : MI x) (j : Int32) : MI (sx_X8_giveBack x j) := MI_gbF h
theorem nz01 {v : Int32} (h : v = 0 ∨ v = 1) : vp_nar .boolean v = v := by rcases h with h | h <;> subst h <;> rfl
def s_X8_rest (x : Nat → Nat → Int32) (j : Int32) (is : Int32) : Int32 := (if (s_X8_isJudge j) = 0 then (-1) else (if (s_X8_within is 0 1) = 0 then (-1) else (if (x 33 (tn j)) = 0 then 0 else 1 : Int32)))
def sx_X8_rest (x : Nat → Nat → Int32) (j : Int32) (is : Int32) : Nat → Nat → Int32 := (if (s_X8_isJudge j) = 0 then x else (if (s_X8_within is 0 1) = 0 then x else (if is = 1 then (sx_X8_giveBack (up2 x 33 (tn j) (if is = 1 then 1 else 0 : Int32)) j) else (up2 x 33 (tn j) (if is = 1 then 1 else 0 : Int32)))))
set_option maxRecDepth 100000 in
set_option maxHeartbeats 400000 in
theorem cM_rest (l : Launch) (G : GG) (m0 : Nat) (x : Nat → Nat → Int32) (z : Nat → Int64) (hI : MI x) (j : Int32) (is : Int32) : MW l G yX8_rest cX8_rest 4 (some .int) 1 [.ref m0, .int j, .int is] (MWd G m0 x z) (some (.int (s_X8_rest x j is))) (MWd G m0 (sx_X8_rest x j is) z) (MA m0) 0 0 := by
  refine MW.of RX8 rfl (by decide) (Nat.le_of_ble_eq_true rfl) ?_
  intro p_ e_ s_ m_ args_ below_ meth_ c_ ls hargs C hr hnm hW hS hl
  obtain ⟨⟨eP, bP⟩, ⟨eC, bC⟩, ⟨eG, bG⟩, ⟨eV, bV⟩, -, -⟩ := id hI
  have hl : lv_has ls 4 [(0, .ref m0), (1, .int j), (2, .int is)] := hl
  refine lv_iload_n C.hx C.hb dX8_rest_0 rfl (lv_at hl 1 rfl) ?_
  refine kSR (As := [.int j]) (rest := []) (v := .int (s_X8_isJudge j)) C (cM_isJudge l G j) lk_X8_147 trivial rfl rfl hl (Nat.le_of_ble_eq_true rfl) dX8_rest_1 ⟨⟨by decide, by decide⟩, by decide, by decide⟩ ?_
  refine lv_if_eq (tgt := 16) C.hx C.hb dX8_rest_4 (by decide) (fun c1 => ?_) (fun c1 => ?_)
  · refine lv_iconst (v := (-1)) C.hx C.hb dX8_rest_16 (by decide) ?_
    exact wI C hr dX8_rest_17 hS (by unfold s_X8_rest; rw [if_pos c1]) (by unfold sx_X8_rest; rw [if_pos c1]; exact hW)
  · obtain ⟨jN, hjN, rfl⟩ := isJudge_nz c1
    have tjN : tn (nI jN) = jN := nI_clamp (by omega)
    refine lv_iload_n C.hx C.hb dX8_rest_7 rfl (lv_at hl 2 rfl) ?_
    refine lv_iconst (v := 0) C.hx C.hb dX8_rest_8 (by decide) ?_
    refine lv_iconst (v := 1) C.hx C.hb dX8_rest_9 (by decide) ?_
    refine kSR (As := [.int is, .int 0, .int 1]) (rest := []) (v := .int (s_X8_within is 0 1)) C (cM_within l G is 0 1) lk_X8_136 trivial rfl rfl hl (Nat.le_of_ble_eq_true rfl) dX8_rest_10 ⟨⟨by decide, by decide⟩, by decide, by decide⟩ ?_
    refine lv_if_ne (tgt := 18) C.hx C.hb dX8_rest_13 (by decide) (fun c2 => ?_) (fun c2 => ?_)
    · refine lv_aload_n C.hx C.hb dX8_rest_18 rfl (lv_at hl 0 rfl) ?_
      refine g_get (k := 33) (v := .ref (am m0 33)) C hW.1 rfl wu_X8 (by decide) wf_X8_99 rfl rfl dX8_rest_19 ?_
      refine lv_iload_n C.hx C.hb dX8_rest_22 rfl (lv_at hl 1 rfl) ?_
      refine g_zald (f := x 33) (k := jN) C hW.2.2.2 rfl (show jN < 20 by omega) (by decide) dX8_rest_23 ?_
      refine W.joinI (P := fun jv => jv = (if (x 33 jN) = 0 then 0 else 1 : Int32)) 32 ls [] (fun J4 => ?_) (fun v5 hv5 => ?_)
      · refine lv_if_eq (tgt := 31) C.hx C.hb dX8_rest_24 (by decide) (fun c3 => ?_) (fun c3 => ?_)
        · refine lv_iconst (v := 0) C.hx C.hb dX8_rest_31 (by decide) ?_
          exact J4 _ (by rw [if_pos c3])
        · refine lv_iconst (v := 1) C.hx C.hb dX8_rest_27 (by decide) ?_
          refine lv_goto (tgt := 32) C.hx C.hb dX8_rest_28 (by decide) ?_
          exact J4 _ (by rw [if_neg c3])
      · refine lv_istore_n (lv' := [(3, .int v5), (0, .ref m0), (1, .int (nI jN)), (2, .int is)]) C.hx C.hb dX8_rest_32 rfl hl (by decide) rfl (fun ls hl => ?_)
        refine lv_aload_n C.hx C.hb dX8_rest_33 rfl (lv_at hl 1 rfl) ?_
        refine g_get (k := 33) (v := .ref (am m0 33)) C hW.1 rfl wu_X8 (by decide) wf_X8_99 rfl rfl dX8_rest_34 ?_
        refine lv_iload_n C.hx C.hb dX8_rest_37 rfl (lv_at hl 2 rfl) ?_
        refine lv_iload_n C.hx C.hb dX8_rest_38 rfl (lv_at hl 3 rfl) ?_
        refine lv_iconst (v := 1) C.hx C.hb dX8_rest_39 (by decide) ?_
        refine W.joinI (P := fun jv => jv = (if is = 1 then 1 else 0 : Int32)) 48 ls [.int (nI jN), .ref (am m0 33)] (fun J7 => ?_) (fun v8 hv8 => ?_)
        · refine lv_icmp_ne (tgt := 47) C.hx C.hb dX8_rest_40 (by decide) (fun c6 => ?_) (fun c6 => ?_)
          · refine lv_iconst (v := 0) C.hx C.hb dX8_rest_47 (by decide) ?_
            exact J7 _ (by rw [if_neg c6])
          · refine lv_iconst (v := 1) C.hx C.hb dX8_rest_43 (by decide) ?_
            refine lv_goto (tgt := 48) C.hx C.hb dX8_rest_44 (by decide) ?_
            exact J7 _ (by rw [if_pos c6])
        · refine g_zast (f := x 33) (k := jN) C hS hW.2.2.2 (am_A (Or.inr (Or.inr rfl))) rfl (show jN < 20 by omega) (by decide) (nz01 (by rw [hv8]; split <;> simp)) dX8_rest_48 (fun H locs e1 o1 z1 hS => ?_)
          have hW : MWd G m0 (up2 x 33 jN v8) z H := MWd.putZ hW e1 o1
          refine lv_iload_n C.hx C.hb dX8_rest_49 rfl (lv_at hl 3 rfl) ?_
          refine lv_iconst (v := 1) C.hx C.hb dX8_rest_50 (by decide) ?_
          refine lv_icmp_ne (tgt := 59) C.hx C.hb dX8_rest_51 (by decide) (fun c9 => ?_) (fun c9 => ?_)
          · refine lv_iload_n C.hx C.hb dX8_rest_59 rfl (lv_at hl 0 rfl) ?_
            exact wI C hr dX8_rest_60 hS (by rw [hv5]; unfold s_X8_rest; (try simp only [tjN]); rw [if_neg c1, if_neg c2]) (by rw [hv8] at hW; unfold sx_X8_rest; (try simp only [tjN]); rw [if_neg c1, if_neg c2, if_neg c9]; exact hW)
          · refine lv_aload_n C.hx C.hb dX8_rest_54 rfl (lv_at hl 1 rfl) ?_
            refine lv_iload_n C.hx C.hb dX8_rest_55 rfl (lv_at hl 2 rfl) ?_
            refine kVWn (As := [.int (nI jN)]) (rest := []) C (cM_giveBack l G m0 (up2 x 33 jN v8) z (MI.up hI rfl) (nI jN)) lk_X8_156 (g_recv C hW.1 rfl) hW rfl rfl hl (Nat.le_of_ble_eq_true rfl) dX8_rest_56 ⟨⟨by decide, by decide⟩, by decide, by decide⟩ hS (fun q h => h) (fun H locs hP hz1 hk1 hS => ?_)
            have hW : MWd G m0 (sx_X8_giveBack (up2 x 33 jN v8) (nI jN)) z H := hP
            refine lv_iload_n C.hx C.hb dX8_rest_59 rfl (lv_at hl 0 rfl) ?_
            exact wI C hr dX8_rest_60 hS (by rw [hv5]; unfold s_X8_rest; (try simp only [tjN]); rw [if_neg c1, if_neg c2]) (by rw [hv8] at hW; unfold sx_X8_rest; (try simp only [tjN]); rw [if_neg c1, if_neg c2, if_pos c9]; exact hW)
    · refine lv_iconst (v := (-1)) C.hx C.hb dX8_rest_16 (by decide) ?_
      exact wI C hr dX8_rest_17 hS (by unfold s_X8_rest; (try simp only [tjN]); rw [if_neg c1, if_pos c2]) (by unfold sx_X8_rest; (try simp only [tjN]); rw [if_neg c1, if_pos c2]; exact hW)
/-- all judges looked at, the least first -/
def lajS (x : XX) : Nat → XX
  | 0 => x
  | j + 1 => if (s_X8_doubt (lajS x j) (nI j) 0) < 5 then lajS x j else if ((s_X8_doubt (lajS x j) (nI j) 1) * 100) ≤ ((lajS x j 7 0) * (s_X8_doubt (lajS x j) (nI j) 0)) then lajS x j else sx_X8_giveBack (up2 (lajS x j) 33 j 1) (nI j)
theorem MI_lajS {x : XX} (h : MI x) : ∀ j, MI (lajS x j)
  | 0 => h
  | j + 1 => by
    have ih := MI_lajS h j
    unfold lajS
    split
    · exact ih
    · split
      · exact ih
      · exact MI_giveBack (MI.up ih rfl) _
def sx_X8_lookAtJudges (x : Nat → Nat → Int32) : Nat → Nat → Int32 := (lajS x 20)
set_option maxRecDepth 100000 in
set_option maxHeartbeats 400000 in
theorem cM_lookAtJudges (l : Launch) (G : GG) (m0 : Nat) (x : Nat → Nat → Int32) (z : Nat → Int64) (hI : MI x) : MW l G yX8_lookAtJudges cX8_lookAtJudges 3 none 2 [.ref m0] (MWd G m0 x z) none (MWd G m0 (sx_X8_lookAtJudges x) z) (MA m0) 0 0 := by
  refine MW.of RX8 rfl (by decide) (Nat.le_of_ble_eq_true rfl) ?_
  intro p_ e_ s_ m_ args_ below_ meth_ c_ ls hargs C hr hnm hW hS hl
  obtain ⟨⟨eP, bP⟩, ⟨eC, bC⟩, ⟨eG, bG⟩, ⟨eV, bV⟩, -, -⟩ := id hI
  have hl : lv_has ls 3 [(0, .ref m0)] := hl
  refine lv_iconst (v := 0) C.hx C.hb dX8_lookAtJudges_0 (by decide) ?_
  refine lv_istore_n (lv' := [(1, .int 0), (0, .ref m0)]) C.hx C.hb dX8_lookAtJudges_1 rfl hl (by decide) rfl (fun ls hl => ?_)
  refine W.loopW (N := 20) (Inv := fun i ls H locs ce sl => lv_has ls 3 [(1, .int (nI i)), (0, .ref m0)] ∧ MWd G m0 (lajS x i) z H ∧ va_S (MA m0) s_.heap H locs ∧ ce = 0 ∧ sl = 0) 2 [] (fun i1 ls H locs ce sl hi1 hq K1 => ?_) (fun ls H locs ce sl hq => ?_) 0 ls _ _ _ _ (Nat.zero_le _) ⟨lv_sub hl [0, 1] rfl, hW, hS, rfl, rfl⟩
  · obtain ⟨hl, hW, hS, rfl, rfl⟩ := hq
    refine lv_iload_n C.hx C.hb dX8_lookAtJudges_2 rfl (lv_at hl 0 rfl) ?_
    refine lv_bipush (v := 20) C.hx C.hb dX8_lookAtJudges_3 (by decide) ?_
    refine lv_icmp_ge (tgt := 56) C.hx C.hb dX8_lookAtJudges_5 (by decide) (fun c1 => ?_) (fun c1 => ?_)
    · exact absurd c1 (lt_nle (by decide) hi1 (by omega))
    · refine lv_aload_n C.hx C.hb dX8_lookAtJudges_8 rfl (lv_at hl 1 rfl) ?_
      refine lv_iload_n C.hx C.hb dX8_lookAtJudges_9 rfl (lv_at hl 0 rfl) ?_
      refine lv_iconst (v := 0) C.hx C.hb dX8_lookAtJudges_10 (by decide) ?_
      refine kVR (As := [.int (nI i1), .int 0]) (rest := []) (v := .int (s_X8_doubt (lajS x i1) (nI i1) 0)) C (cM_doubt l G m0 (lajS x i1) z (MI_lajS hI i1) (nI i1) 0) lk_X8_190 (g_recv C hW.1 rfl) hW rfl rfl hl (Nat.le_of_ble_eq_true rfl) dX8_lookAtJudges_11 ⟨⟨by decide, by decide⟩, by decide, by decide⟩ ?_
      refine lv_istore_n (lv' := [(2, .int (s_X8_doubt (lajS x i1) (nI i1) 0)), (1, .int (nI i1)), (0, .ref m0)]) C.hx C.hb dX8_lookAtJudges_14 rfl hl (by decide) rfl (fun ls hl => ?_)
      refine lv_iload_n C.hx C.hb dX8_lookAtJudges_15 rfl (lv_at hl 0 rfl) ?_
      refine lv_iconst (v := 5) C.hx C.hb dX8_lookAtJudges_16 (by decide) ?_
      refine lv_icmp_lt (tgt := 50) C.hx C.hb dX8_lookAtJudges_17 (by decide) (fun c2 => ?_) (fun c2 => ?_)
      · refine lv_iinc (v := (nI i1) + 1) (lv' := [(1, .int ((nI i1) + 1)), (2, .int (s_X8_doubt (lajS x i1) (nI i1) 0)), (0, .ref m0)]) C.hx C.hb dX8_lookAtJudges_50 hl (k := 1) rfl rfl (by decide) rfl (fun ls hl => ?_)
        refine lv_goto (tgt := 2) C.hx C.hb dX8_lookAtJudges_53 (by decide) ?_
        rw [nI_1 i1] at hl
        exact K1 _ _ _ _ _ ⟨lv_sub hl [0, 2] rfl, by unfold lajS; rw [if_pos c2]; exact hW, hS, rfl, rfl⟩
      · refine lv_aload_n C.hx C.hb dX8_lookAtJudges_20 rfl (lv_at hl 2 rfl) ?_
        refine lv_iload_n C.hx C.hb dX8_lookAtJudges_21 rfl (lv_at hl 1 rfl) ?_
        refine lv_iconst (v := 1) C.hx C.hb dX8_lookAtJudges_22 (by decide) ?_
        refine kVR (As := [.int (nI i1), .int 1]) (rest := []) (v := .int (s_X8_doubt (lajS x i1) (nI i1) 1)) C (cM_doubt l G m0 (lajS x i1) z (MI_lajS hI i1) (nI i1) 1) lk_X8_190 (g_recv C hW.1 rfl) hW rfl rfl hl (Nat.le_of_ble_eq_true rfl) dX8_lookAtJudges_23 ⟨⟨by decide, by decide⟩, by decide, by decide⟩ ?_
        refine lv_bipush (v := 100) C.hx C.hb dX8_lookAtJudges_26 (by decide) ?_
        refine lv_imul C.hx C.hb dX8_lookAtJudges_28 ?_
        refine lv_aload_n C.hx C.hb dX8_lookAtJudges_29 rfl (lv_at hl 2 rfl) ?_
        refine g_get (k := 7) (v := .int ((lajS x i1) 7 0)) C hW.1 rfl wu_X8 (by decide) wf_X8_29 rfl rfl dX8_lookAtJudges_30 ?_
        refine lv_iload_n C.hx C.hb dX8_lookAtJudges_33 rfl (lv_at hl 0 rfl) ?_
        refine lv_imul C.hx C.hb dX8_lookAtJudges_34 ?_
        refine lv_icmp_le (tgt := 50) C.hx C.hb dX8_lookAtJudges_35 (by decide) (fun c3 => ?_) (fun c3 => ?_)
        · refine lv_iinc (v := (nI i1) + 1) (lv' := [(1, .int ((nI i1) + 1)), (2, .int (s_X8_doubt (lajS x i1) (nI i1) 0)), (0, .ref m0)]) C.hx C.hb dX8_lookAtJudges_50 hl (k := 1) rfl rfl (by decide) rfl (fun ls hl => ?_)
          refine lv_goto (tgt := 2) C.hx C.hb dX8_lookAtJudges_53 (by decide) ?_
          rw [nI_1 i1] at hl
          exact K1 _ _ _ _ _ ⟨lv_sub hl [0, 2] rfl, by unfold lajS; rw [if_neg c2, if_pos c3]; exact hW, hS, rfl, rfl⟩
        · refine lv_aload_n C.hx C.hb dX8_lookAtJudges_38 rfl (lv_at hl 2 rfl) ?_
          refine g_get (k := 33) (v := .ref (am m0 33)) C hW.1 rfl wu_X8 (by decide) wf_X8_99 rfl rfl dX8_lookAtJudges_39 ?_
          refine lv_iload_n C.hx C.hb dX8_lookAtJudges_42 rfl (lv_at hl 1 rfl) ?_
          refine lv_iconst (v := 1) C.hx C.hb dX8_lookAtJudges_43 (by decide) ?_
          refine g_zast (f := (lajS x i1) 33) (k := i1) C hS hW.2.2.2 (am_A (Or.inr (Or.inr rfl))) rfl (show i1 < 20 by omega) (by decide) rfl dX8_lookAtJudges_44 (fun H locs e1 o1 z1 hS => ?_)
          have hW : MWd G m0 (up2 (lajS x i1) 33 i1 1) z H := MWd.putZ hW e1 o1
          refine lv_aload_n C.hx C.hb dX8_lookAtJudges_45 rfl (lv_at hl 2 rfl) ?_
          refine lv_iload_n C.hx C.hb dX8_lookAtJudges_46 rfl (lv_at hl 1 rfl) ?_
          refine kVWn (As := [.int (nI i1)]) (rest := []) C (cM_giveBack l G m0 (up2 (lajS x i1) 33 i1 1) z (MI.up (MI_lajS hI i1) rfl) (nI i1)) lk_X8_156 (g_recv C hW.1 rfl) hW rfl rfl hl (Nat.le_of_ble_eq_true rfl) dX8_lookAtJudges_47 ⟨⟨by decide, by decide⟩, by decide, by decide⟩ hS (fun q h => h) (fun H locs hP hz1 hk1 hS => ?_)
          have hW : MWd G m0 (sx_X8_giveBack (up2 (lajS x i1) 33 i1 1) (nI i1)) z H := hP
          refine lv_iinc (v := (nI i1) + 1) (lv' := [(1, .int ((nI i1) + 1)), (2, .int (s_X8_doubt (lajS x i1) (nI i1) 0)), (0, .ref m0)]) C.hx C.hb dX8_lookAtJudges_50 hl (k := 1) rfl rfl (by decide) rfl (fun ls hl => ?_)
          refine lv_goto (tgt := 2) C.hx C.hb dX8_lookAtJudges_53 (by decide) ?_
          rw [nI_1 i1] at hl
          exact K1 _ _ _ _ _ ⟨lv_sub hl [0, 2] rfl, by unfold lajS; rw [if_neg c2, if_neg c3]; exact hW, hS, rfl, rfl⟩
  · obtain ⟨hl, hW, hS, rfl, rfl⟩ := hq
    refine lv_iload_n C.hx C.hb dX8_lookAtJudges_2 rfl (lv_at hl 0 rfl) ?_
    refine lv_bipush (v := 20) C.hx C.hb dX8_lookAtJudges_3 (by decide) ?_
    refine lv_icmp_ge (tgt := 56) C.hx C.hb dX8_lookAtJudges_5 (by decide) (fun c4 => ?_) (fun c4 => ?_)
    · exact wV C hr dX8_lookAtJudges_56 hS (by unfold sx_X8_lookAtJudges; exact hW)
    · exact absurd (le_eqn (by decide)) c4
theorem MI_lookAtJudges {x : XX} (h : MI x) : MI (sx_X8_lookAtJudges x) := MI_lajS h 20
def s_X8_known (x : Nat → Nat → Int32) (c : Int32) (guilty : Int32) : Int32 := (if (s_X8_isCase x c) = 0 then (-5) else (if (s_X8_within guilty (-1) 1) = 0 then (-5) else x 22 (tn c)))
def sx_X8_known (x : Nat → Nat → Int32) (c : Int32) (guilty : Int32) : Nat → Nat → Int32 := (if (s_X8_isCase x c) = 0 then x else (if (s_X8_within guilty (-1) 1) = 0 then x else (sx_X8_lookAtJudges (up2 x 22 (tn c) guilty))))
set_option maxRecDepth 100000 in
set_option maxHeartbeats 400000 in
theorem cM_known (l : Launch) (G : GG) (m0 : Nat) (x : Nat → Nat → Int32) (z : Nat → Int64) (hI : MI x) (c : Int32) (guilty : Int32) : MW l G yX8_known cX8_known 4 (some .int) 3 [.ref m0, .int c, .int guilty] (MWd G m0 x z) (some (.int (s_X8_known x c guilty))) (MWd G m0 (sx_X8_known x c guilty) z) (MA m0) 0 0 := by
  refine MW.of RX8 rfl (by decide) (Nat.le_of_ble_eq_true rfl) ?_
  intro p_ e_ s_ m_ args_ below_ meth_ c_ ls hargs C hr hnm hW hS hl
  obtain ⟨⟨eP, bP⟩, ⟨eC, bC⟩, ⟨eG, bG⟩, ⟨eV, bV⟩, -, -⟩ := id hI
  have hl : lv_has ls 4 [(0, .ref m0), (1, .int c), (2, .int guilty)] := hl
  refine lv_aload_n C.hx C.hb dX8_known_0 rfl (lv_at hl 0 rfl) ?_
  refine lv_iload_n C.hx C.hb dX8_known_1 rfl (lv_at hl 1 rfl) ?_
  refine kVR (As := [.int c]) (rest := []) (v := .int (s_X8_isCase x c)) C (cM_isCase l G m0 x z hI c) lk_X8_184 (g_recv C hW.1 rfl) hW rfl rfl hl (Nat.le_of_ble_eq_true rfl) dX8_known_2 ⟨⟨by decide, by decide⟩, by decide, by decide⟩ ?_
  refine lv_if_eq (tgt := 17) C.hx C.hb dX8_known_5 (by decide) (fun c1 => ?_) (fun c1 => ?_)
  · refine lv_bipush (v := (-5)) C.hx C.hb dX8_known_17 (by decide) ?_
    exact wI C hr dX8_known_19 hS (by unfold s_X8_known; rw [if_pos c1]) (by unfold sx_X8_known; rw [if_pos c1]; exact hW)
  · obtain ⟨cN, hcN, rfl⟩ := isCase_nz hI c1
    have tcN : tn (nI cN) = cN := nI_clamp (by omega)
    refine lv_iload_n C.hx C.hb dX8_known_8 rfl (lv_at hl 2 rfl) ?_
    refine lv_iconst (v := (-1)) C.hx C.hb dX8_known_9 (by decide) ?_
    refine lv_iconst (v := 1) C.hx C.hb dX8_known_10 (by decide) ?_
    refine kSR (As := [.int guilty, .int ((-1)), .int 1]) (rest := []) (v := .int (s_X8_within guilty (-1) 1)) C (cM_within l G guilty (-1) 1) lk_X8_136 trivial rfl rfl hl (Nat.le_of_ble_eq_true rfl) dX8_known_11 ⟨⟨by decide, by decide⟩, by decide, by decide⟩ ?_
    refine lv_if_ne (tgt := 20) C.hx C.hb dX8_known_14 (by decide) (fun c2 => ?_) (fun c2 => ?_)
    · refine lv_aload_n C.hx C.hb dX8_known_20 rfl (lv_at hl 0 rfl) ?_
      refine g_get (k := 22) (v := .ref (am m0 22)) C hW.1 rfl wu_X8 (by decide) wf_X8_71 rfl rfl dX8_known_21 ?_
      refine lv_iload_n C.hx C.hb dX8_known_24 rfl (lv_at hl 1 rfl) ?_
      refine g_iald (f := x 22) (k := cN) C (hW.2.1 22 rfl) rfl (show cN < 400 by omega) (by decide) dX8_known_25 ?_
      refine lv_istore_n (lv' := [(3, .int (x 22 cN)), (0, .ref m0), (1, .int (nI cN)), (2, .int guilty)]) C.hx C.hb dX8_known_26 rfl hl (by decide) rfl (fun ls hl => ?_)
      refine lv_aload_n C.hx C.hb dX8_known_27 rfl (lv_at hl 1 rfl) ?_
      refine g_get (k := 22) (v := .ref (am m0 22)) C hW.1 rfl wu_X8 (by decide) wf_X8_71 rfl rfl dX8_known_28 ?_
      refine lv_iload_n C.hx C.hb dX8_known_31 rfl (lv_at hl 2 rfl) ?_
      refine lv_iload_n C.hx C.hb dX8_known_32 rfl (lv_at hl 3 rfl) ?_
      refine g_iast (f := x 22) (k := cN) C hS (hW.2.1 22 rfl) (am_A (Or.inl rfl)) rfl (show cN < 400 by omega) (by decide) dX8_known_33 (fun H locs e1 o1 z1 hS => ?_)
      have hW : MWd G m0 (up2 x 22 cN guilty) z H := MWd.putA 22 hW rfl e1 o1 (mfs_up rfl) (by decide) (by decide)
      refine lv_aload_n C.hx C.hb dX8_known_34 rfl (lv_at hl 1 rfl) ?_
      refine kVWn (As := []) (rest := []) C (cM_lookAtJudges l G m0 (up2 x 22 cN guilty) z (MI.up hI rfl)) lk_X8_200 (g_recv C hW.1 rfl) hW rfl rfl hl (Nat.le_of_ble_eq_true rfl) dX8_known_35 ⟨⟨by decide, by decide⟩, by decide, by decide⟩ hS (fun q h => h) (fun H locs hP hz1 hk1 hS => ?_)
      have hW : MWd G m0 (sx_X8_lookAtJudges (up2 x 22 cN guilty)) z H := hP
      refine lv_iload_n C.hx C.hb dX8_known_38 rfl (lv_at hl 0 rfl) ?_
      exact wI C hr dX8_known_39 hS (by unfold s_X8_known; (try simp only [tcN]); rw [if_neg c1, if_neg c2]) (by unfold sx_X8_known; (try simp only [tcN]); rw [if_neg c1, if_neg c2]; exact hW)
    · refine lv_bipush (v := (-5)) C.hx C.hb dX8_known_17 (by decide) ?_
      exact wI C hr dX8_known_19 hS (by unfold s_X8_known; (try simp only [tcN]); rw [if_neg c1, if_pos c2]) (by unfold sx_X8_known; (try simp only [tcN]); rw [if_neg c1, if_pos c2]; exact hW)
def s_X8_give (x : Nat → Nat → Int32) (z : Nat → Int64) (j : Int32) : Int32 := (if (s_X8_isJudge j) = 0 then (-1) else s_X8_nextOf x z (tn j))
def sx_X8_give (x : Nat → Nat → Int32) (z : Nat → Int64) (j : Int32) : Nat → Nat → Int32 := (if (s_X8_isJudge j) = 0 then x else (if (s_X8_nextOf x z (tn j)) < 0 then x else (up2 (up2 (up2 x 34 (nG x) j) 35 (nG x) (s_X8_nextOf x z (tn j))) 36 0 ((x 36 0) + 1))))
set_option maxRecDepth 100000 in
set_option maxHeartbeats 400000 in
theorem cM_give (l : Launch) (G : GG) (m0 : Nat) (x : Nat → Nat → Int32) (z : Nat → Int64) (hI : MI x) (j : Int32) (hg : ∀ jN : Nat, jN < 20 → ¬ s_X8_nextOf x z jN < 0 → nG x < 400) : MW l G yX8_give cX8_give 3 (some .int) 4 [.ref m0, .int j] (MWd G m0 x z) (some (.int (s_X8_give x z j))) (MWd G m0 (sx_X8_give x z j) z) (MA m0) 0 0 := by
  refine MW.of RX8 rfl (by decide) (Nat.le_of_ble_eq_true rfl) ?_
  intro p_ e_ s_ m_ args_ below_ meth_ c_ ls hargs C hr hnm hW hS hl
  obtain ⟨⟨eP, bP⟩, ⟨eC, bC⟩, ⟨eG, bG⟩, ⟨eV, bV⟩, -, -⟩ := id hI
  have hl : lv_has ls 3 [(0, .ref m0), (1, .int j)] := hl
  refine lv_iload_n C.hx C.hb dX8_give_0 rfl (lv_at hl 1 rfl) ?_
  refine kSR (As := [.int j]) (rest := []) (v := .int (s_X8_isJudge j)) C (cM_isJudge l G j) lk_X8_147 trivial rfl rfl hl (Nat.le_of_ble_eq_true rfl) dX8_give_1 ⟨⟨by decide, by decide⟩, by decide, by decide⟩ ?_
  refine lv_if_ne (tgt := 9) C.hx C.hb dX8_give_4 (by decide) (fun c1 => ?_) (fun c1 => ?_)
  · obtain ⟨jN, hjN, rfl⟩ := isJudge_nz c1
    have tjN : tn (nI jN) = jN := nI_clamp (by omega)
    refine lv_aload_n C.hx C.hb dX8_give_9 rfl (lv_at hl 0 rfl) ?_
    refine lv_iload_n C.hx C.hb dX8_give_10 rfl (lv_at hl 1 rfl) ?_
    refine kVR (As := [.int (nI jN)]) (rest := []) (v := .int (s_X8_nextOf x z jN)) C (cM_nextOf l G m0 x z hI jN (show jN < 20 by omega)) lk_X8_181 (g_recv C hW.1 rfl) hW rfl rfl hl (Nat.le_of_ble_eq_true rfl) dX8_give_11 ⟨⟨by decide, by decide⟩, by decide, by decide⟩ ?_
    refine lv_istore_n (lv' := [(2, .int (s_X8_nextOf x z jN)), (0, .ref m0), (1, .int (nI jN))]) C.hx C.hb dX8_give_14 rfl hl (by decide) rfl (fun ls hl => ?_)
    refine lv_iload_n C.hx C.hb dX8_give_15 rfl (lv_at hl 0 rfl) ?_
    refine lv_if_lt (tgt := 49) C.hx C.hb dX8_give_16 (by decide) (fun c2 => ?_) (fun c2 => ?_)
    · refine lv_iload_n C.hx C.hb dX8_give_49 rfl (lv_at hl 0 rfl) ?_
      exact wI C hr dX8_give_50 hS (by unfold s_X8_give; (try simp only [tjN]); rw [if_neg c1]) (by unfold sx_X8_give; (try simp only [tjN]); rw [if_neg c1, if_pos c2]; exact hW)
    · have gc2 : nG x < 400 := hg jN (by omega) c2
      refine lv_aload_n C.hx C.hb dX8_give_19 rfl (lv_at hl 1 rfl) ?_
      refine g_get (k := 34) (v := .ref (am m0 34)) C hW.1 rfl wu_X8 (by decide) wf_X8_103 rfl rfl dX8_give_20 ?_
      refine lv_aload_n C.hx C.hb dX8_give_23 rfl (lv_at hl 1 rfl) ?_
      refine g_get (k := 36) (v := .int (x 36 0)) C hW.1 rfl wu_X8 (by decide) wf_X8_153 rfl rfl dX8_give_24 ?_
      refine lv_iload_n C.hx C.hb dX8_give_27 rfl (lv_at hl 2 rfl) ?_
      refine g_iast (f := x 34) (k := (nG x)) C hS (hW.2.1 34 rfl) (am_A (Or.inl rfl)) eG (show nG x < 400 by omega) (by decide) dX8_give_28 (fun H locs e1 o1 z1 hS => ?_)
      have hW : MWd G m0 (up2 x 34 (nG x) (nI jN)) z H := MWd.putA 34 hW rfl e1 o1 (mfs_up rfl) (by decide) (by decide)
      refine lv_aload_n C.hx C.hb dX8_give_29 rfl (lv_at hl 1 rfl) ?_
      refine g_get (k := 35) (v := .ref (am m0 35)) C hW.1 rfl wu_X8 (by decide) wf_X8_106 rfl rfl dX8_give_30 ?_
      refine lv_aload_n C.hx C.hb dX8_give_33 rfl (lv_at hl 1 rfl) ?_
      refine g_get (k := 36) (v := .int (x 36 0)) C hW.1 rfl wu_X8 (by decide) wf_X8_153 rfl rfl dX8_give_34 ?_
      refine lv_iload_n C.hx C.hb dX8_give_37 rfl (lv_at hl 0 rfl) ?_
      refine g_iast (f := x 35) (k := (nG x)) C hS (hW.2.1 35 rfl) (am_A (Or.inl rfl)) eG (show nG x < 400 by omega) (by decide) dX8_give_38 (fun H locs e1 o1 z1 hS => ?_)
      have hW : MWd G m0 (up2 (up2 x 34 (nG x) (nI jN)) 35 (nG x) (s_X8_nextOf x z jN)) z H := MWd.putA 35 hW rfl e1 o1 (mfs_up rfl) (by decide) (by decide)
      refine lv_aload_n C.hx C.hb dX8_give_39 rfl (lv_at hl 1 rfl) ?_
      refine lv_dup C.hx C.hb dX8_give_40 rfl ?_
      refine g_get (k := 36) (v := .int (x 36 0)) C hW.1 rfl wu_X8 (by decide) wf_X8_153 rfl rfl dX8_give_41 ?_
      refine lv_iconst (v := 1) C.hx C.hb dX8_give_44 (by decide) ?_
      refine lv_iadd C.hx C.hb dX8_give_45 ?_
      refine g_put (k := 36) tyX8 C hS hW.1 MA_0 rfl wu_X8 tyX8_ok nmX8 (by decide) wf_X8_153 rfl rfl rfl rfl rfl (Nat.le_of_ble_eq_true rfl) dX8_give_46 (fun H locs e1 o1 z1 hS => ?_)
      have hW : MWd G m0 (up2 (up2 (up2 x 34 (nG x) (nI jN)) 35 (nG x) (s_X8_nextOf x z jN)) 36 0 ((x 36 0) + 1)) z H := MWd.putS 36 hW e1 o1 mset_36 rfl (by decide)
      refine lv_iload_n C.hx C.hb dX8_give_49 rfl (lv_at hl 0 rfl) ?_
      exact wI C hr dX8_give_50 hS (by unfold s_X8_give; (try simp only [tjN]); rw [if_neg c1]) (by unfold sx_X8_give; (try simp only [tjN]); rw [if_neg c1, if_neg c2]; exact hW)
  · refine lv_iconst (v := (-1)) C.hx C.hb dX8_give_7 (by decide) ?_
    exact wI C hr dX8_give_8 hS (by unfold s_X8_give; rw [if_pos c1]) (by unfold sx_X8_give; rw [if_pos c1]; exact hW)
def f_X8_settle_7_3 (x : Nat → Nat → Int32) (cN : Nat) : Nat → Int32 → Int32 := fun i1 a => (if (x 38 i1) = (nI cN) then (if (x 39 i1) = (s_X8_timeOf x cN) then (a) + (if (x 40 i1) = 0 then x 41 i1 else 0 : Int32) else a : Int32) else a : Int32)
def f_X8_settle_7_2 (x : Nat → Nat → Int32) (cN : Nat) : Nat → Int32 → Int32 := fun i1 a => (if (x 38 i1) = (nI cN) then (if (x 39 i1) = (s_X8_timeOf x cN) then (a) + (if (x 40 i1) = 1 then x 41 i1 else 0 : Int32) else a : Int32) else a : Int32)
def sx_X8_settle (x : Nat → Nat → Int32) (cN : Nat) : Nat → Nat → Int32 := (if (if ((2 * (itr (f_X8_settle_7_2 x cN) 0 (nV x))) + (2 * (itr (f_X8_settle_7_3 x cN) 0 (nV x)))) ≤ (3 * (itr (f_X8_settle_7_2 x cN) 0 (nV x))) then 1 else (if (3 * (itr (f_X8_settle_7_3 x cN) 0 (nV x))) < ((2 * (itr (f_X8_settle_7_2 x cN) 0 (nV x))) + (2 * (itr (f_X8_settle_7_3 x cN) 0 (nV x)))) then 0 else 1 : Int32) : Int32) = 0 then (if 2 ≤ (x 20 cN) then (sx_X8_lookAtJudges (up2 (up2 (up2 (up2 (up2 (up2 (up2 x 23 ((2 * cN) + (tn (s_X8_timeOf x cN))) (if (itr (f_X8_settle_7_2 x cN) 0 (nV x)) ≤ (itr (f_X8_settle_7_3 x cN) 0 (nV x)) then 0 else 1 : Int32)) 24 cN (x 19 cN)) 25 cN (itr (f_X8_settle_7_2 x cN) 0 (nV x))) 26 cN (itr (f_X8_settle_7_3 x cN) 0 (nV x))) 21 cN ((x 21 cN) + 1)) 28 0 ((x 28 0) + 1)) 15 cN (if (itr (f_X8_settle_7_2 x cN) 0 (nV x)) ≤ (itr (f_X8_settle_7_3 x cN) 0 (nV x)) then (if (if (x 15 cN) = 3 then 1 else 0 : Int32) = 0 then 1 else 4 : Int32) else (if (if (x 15 cN) = 3 then 1 else 0 : Int32) = 0 then 2 else 5 : Int32) : Int32))) else (if 7 < (x 19 cN) then (sx_X8_lookAtJudges (up2 (up2 (up2 (up2 (up2 (up2 (up2 x 23 ((2 * cN) + (tn (s_X8_timeOf x cN))) (if (itr (f_X8_settle_7_2 x cN) 0 (nV x)) ≤ (itr (f_X8_settle_7_3 x cN) 0 (nV x)) then 0 else 1 : Int32)) 24 cN (x 19 cN)) 25 cN (itr (f_X8_settle_7_2 x cN) 0 (nV x))) 26 cN (itr (f_X8_settle_7_3 x cN) 0 (nV x))) 21 cN ((x 21 cN) + 1)) 28 0 ((x 28 0) + 1)) 15 cN (if (itr (f_X8_settle_7_2 x cN) 0 (nV x)) ≤ (itr (f_X8_settle_7_3 x cN) 0 (nV x)) then (if (if (x 15 cN) = 3 then 1 else 0 : Int32) = 0 then 1 else 4 : Int32) else (if (if (x 15 cN) = 3 then 1 else 0 : Int32) = 0 then 2 else 5 : Int32) : Int32))) else (up2 (up2 x 20 cN ((x 20 cN) + 1)) 19 cN ((x 19 cN) + 2)))) else (sx_X8_lookAtJudges (up2 (up2 (up2 (up2 (up2 (up2 (up2 x 23 ((2 * cN) + (tn (s_X8_timeOf x cN))) (if (itr (f_X8_settle_7_2 x cN) 0 (nV x)) ≤ (itr (f_X8_settle_7_3 x cN) 0 (nV x)) then 0 else 1 : Int32)) 24 cN (x 19 cN)) 25 cN (itr (f_X8_settle_7_2 x cN) 0 (nV x))) 26 cN (itr (f_X8_settle_7_3 x cN) 0 (nV x))) 21 cN ((x 21 cN) + 1)) 28 0 ((x 28 0) + 1)) 15 cN (if (itr (f_X8_settle_7_2 x cN) 0 (nV x)) ≤ (itr (f_X8_settle_7_3 x cN) 0 (nV x)) then (if (if (x 15 cN) = 3 then 1 else 0 : Int32) = 0 then 1 else 4 : Int32) else (if (if (x 15 cN) = 3 then 1 else 0 : Int32) = 0 then 2 else 5 : Int32) : Int32))))
set_option maxRecDepth 100000 in
set_option maxHeartbeats 400000 in
theorem cM_settle (l : Launch) (G : GG) (m0 : Nat) (x : Nat → Nat → Int32) (z : Nat → Int64) (hI : MI x) (cN : Nat) (hc : cN < nC x) : MW l G yX8_settle cX8_settle 6 none 3 [.ref m0, .int (nI cN)] (MWd G m0 x z) none (MWd G m0 (sx_X8_settle x cN) z) (MA m0) 0 0 := by
  refine MW.of RX8 rfl (by decide) (Nat.le_of_ble_eq_true rfl) ?_
  intro p_ e_ s_ m_ args_ below_ meth_ c_ ls hargs C hr hnm hW hS hl
  obtain ⟨⟨eP, bP⟩, ⟨eC, bC⟩, ⟨eG, bG⟩, ⟨eV, bV⟩, -, -⟩ := id hI
  have hl : lv_has ls 6 [(0, .ref m0), (1, .int (nI cN))] := hl
  refine lv_iconst (v := 0) C.hx C.hb dX8_settle_0 (by decide) ?_
  refine lv_istore_n (lv' := [(2, .int 0), (0, .ref m0), (1, .int (nI cN))]) C.hx C.hb dX8_settle_1 rfl hl (by decide) rfl (fun ls hl => ?_)
  refine lv_iconst (v := 0) C.hx C.hb dX8_settle_2 (by decide) ?_
  refine lv_istore_n (lv' := [(3, .int 0), (2, .int 0), (0, .ref m0), (1, .int (nI cN))]) C.hx C.hb dX8_settle_3 rfl hl (by decide) rfl (fun ls hl => ?_)
  refine lv_iconst (v := 0) C.hx C.hb dX8_settle_4 (by decide) ?_
  refine lv_istore (lv' := [(4, .int 0), (3, .int 0), (2, .int 0), (0, .ref m0), (1, .int (nI cN))]) C.hx C.hb dX8_settle_5 hl (by decide) rfl (fun ls hl => ?_)
  refine W.loopR (N := nV x) (Inv := fun i ls => lv_has ls 6 [(4, .int (nI i)), (3, .int (itr (f_X8_settle_7_3 x cN) 0 i)), (2, .int (itr (f_X8_settle_7_2 x cN) 0 i)), (0, .ref m0), (1, .int (nI cN))]) 7 [] (fun i1 ls hi1 hl K1 => ?_) (fun ls hl => ?_) 0 ls (Nat.zero_le _) (lv_sub hl [0, 1, 2, 3, 4] rfl)
  · refine lv_iload C.hx C.hb dX8_settle_7 (lv_at hl 0 rfl) ?_
    refine lv_aload_n C.hx C.hb dX8_settle_9 rfl (lv_at hl 3 rfl) ?_
    refine g_get (k := 42) (v := .int (x 42 0)) C hW.1 rfl wu_X8 (by decide) wf_X8_160 rfl rfl dX8_settle_10 ?_
    refine lv_icmp_ge (tgt := 97) C.hx C.hb dX8_settle_13 (by decide) (fun c1 => ?_) (fun c1 => ?_)
    · exact absurd c1 (lt_nle eV hi1 (by omega))
    · refine lv_aload_n C.hx C.hb dX8_settle_16 rfl (lv_at hl 3 rfl) ?_
      refine g_get (k := 38) (v := .ref (am m0 38)) C hW.1 rfl wu_X8 (by decide) wf_X8_112 rfl rfl dX8_settle_17 ?_
      refine lv_iload C.hx C.hb dX8_settle_20 (lv_at hl 0 rfl) ?_
      refine g_iald (f := x 38) (k := i1) C (hW.2.1 38 rfl) rfl (show i1 < 8000 by omega) (by decide) dX8_settle_22 ?_
      have f2 := MI.vc hI (show i1 < nV x by omega)
      have f2b : tn (x 38 i1) < nC x := f2.2
      refine lv_iload_n C.hx C.hb dX8_settle_23 rfl (lv_at hl 4 rfl) ?_
      refine W.joinL (P := fun ls => lv_has ls 6 [(4, .int (nI i1)), (3, .int ((if (x 38 i1) = (nI cN) then (if (x 39 i1) = (s_X8_timeOf x cN) then (itr (f_X8_settle_7_3 x cN) 0 i1) + (if (x 40 i1) = 0 then x 41 i1 else 0 : Int32) else itr (f_X8_settle_7_3 x cN) 0 i1 : Int32) else itr (f_X8_settle_7_3 x cN) 0 i1 : Int32))), (2, .int ((if (x 38 i1) = (nI cN) then (if (x 39 i1) = (s_X8_timeOf x cN) then (itr (f_X8_settle_7_2 x cN) 0 i1) + (if (x 40 i1) = 1 then x 41 i1 else 0 : Int32) else itr (f_X8_settle_7_2 x cN) 0 i1 : Int32) else itr (f_X8_settle_7_2 x cN) 0 i1 : Int32))), (0, .ref m0), (1, .int (nI cN))]) 91 [] (fun J13 => ?_) (fun ls hl => ?_)
      · refine lv_icmp_ne (tgt := 91) C.hx C.hb dX8_settle_24 (by decide) (fun c3 => ?_) (fun c3 => ?_)
        · exact J13 _ (by rw [show (if (x 38 i1) = (nI cN) then (if (x 39 i1) = (s_X8_timeOf x cN) then (itr (f_X8_settle_7_2 x cN) 0 i1) + (if (x 40 i1) = 1 then x 41 i1 else 0 : Int32) else itr (f_X8_settle_7_2 x cN) 0 i1 : Int32) else itr (f_X8_settle_7_2 x cN) 0 i1 : Int32) = itr (f_X8_settle_7_2 x cN) 0 i1 from by rw [if_neg c3]]; rw [show (if (x 38 i1) = (nI cN) then (if (x 39 i1) = (s_X8_timeOf x cN) then (itr (f_X8_settle_7_3 x cN) 0 i1) + (if (x 40 i1) = 0 then x 41 i1 else 0 : Int32) else itr (f_X8_settle_7_3 x cN) 0 i1 : Int32) else itr (f_X8_settle_7_3 x cN) 0 i1 : Int32) = itr (f_X8_settle_7_3 x cN) 0 i1 from by rw [if_neg c3]]; exact lv_sub hl [0, 1, 2, 3, 4] rfl)
        · refine lv_aload_n C.hx C.hb dX8_settle_27 rfl (lv_at hl 3 rfl) ?_
          refine g_get (k := 39) (v := .ref (am m0 39)) C hW.1 rfl wu_X8 (by decide) wf_X8_115 rfl rfl dX8_settle_28 ?_
          refine lv_iload C.hx C.hb dX8_settle_31 (lv_at hl 0 rfl) ?_
          refine g_iald (f := x 39) (k := i1) C (hW.2.1 39 rfl) rfl (show i1 < 8000 by omega) (by decide) dX8_settle_33 ?_
          have f4 := MI.vt hI (show i1 < nV x by omega)
          have f4b : tn (x 39 i1) < 2 := f4.2
          refine lv_aload_n C.hx C.hb dX8_settle_34 rfl (lv_at hl 3 rfl) ?_
          refine lv_iload_n C.hx C.hb dX8_settle_35 rfl (lv_at hl 4 rfl) ?_
          refine kVR (As := [.int (nI cN)]) (rest := [.int (x 39 i1)]) (v := .int (s_X8_timeOf x cN)) C (cM_timeOf l G m0 x z hI cN (show cN < nC x by omega)) lk_X8_163 (g_recv C hW.1 rfl) hW rfl rfl hl (Nat.le_of_ble_eq_true rfl) dX8_settle_36 ⟨⟨by decide, by decide⟩, by decide, by decide⟩ ?_
          have f4 := (timeOf_ix x cN).2
          refine lv_icmp_ne (tgt := 91) C.hx C.hb dX8_settle_39 (by decide) (fun c6 => ?_) (fun c6 => ?_)
          · exact J13 _ (by rw [show (if (x 38 i1) = (nI cN) then (if (x 39 i1) = (s_X8_timeOf x cN) then (itr (f_X8_settle_7_2 x cN) 0 i1) + (if (x 40 i1) = 1 then x 41 i1 else 0 : Int32) else itr (f_X8_settle_7_2 x cN) 0 i1 : Int32) else itr (f_X8_settle_7_2 x cN) 0 i1 : Int32) = itr (f_X8_settle_7_2 x cN) 0 i1 from by rw [if_pos c3, if_neg c6]]; rw [show (if (x 38 i1) = (nI cN) then (if (x 39 i1) = (s_X8_timeOf x cN) then (itr (f_X8_settle_7_3 x cN) 0 i1) + (if (x 40 i1) = 0 then x 41 i1 else 0 : Int32) else itr (f_X8_settle_7_3 x cN) 0 i1 : Int32) else itr (f_X8_settle_7_3 x cN) 0 i1 : Int32) = itr (f_X8_settle_7_3 x cN) 0 i1 from by rw [if_pos c3, if_neg c6]]; exact lv_sub hl [0, 1, 2, 3, 4] rfl)
          · refine lv_iload_n C.hx C.hb dX8_settle_42 rfl (lv_at hl 2 rfl) ?_
            refine lv_aload_n C.hx C.hb dX8_settle_43 rfl (lv_at hl 3 rfl) ?_
            refine g_get (k := 40) (v := .ref (am m0 40)) C hW.1 rfl wu_X8 (by decide) wf_X8_118 rfl rfl dX8_settle_44 ?_
            refine lv_iload C.hx C.hb dX8_settle_47 (lv_at hl 0 rfl) ?_
            refine g_iald (f := x 40) (k := i1) C (hW.2.1 40 rfl) rfl (show i1 < 8000 by omega) (by decide) dX8_settle_49 ?_
            refine lv_iconst (v := 1) C.hx C.hb dX8_settle_50 (by decide) ?_
            refine W.joinI (P := fun jv => jv = (if (x 40 i1) = 1 then x 41 i1 else 0 : Int32)) 65 ls [.int (itr (f_X8_settle_7_2 x cN) 0 i1)] (fun J8 => ?_) (fun v9 hv9 => ?_)
            · refine lv_icmp_ne (tgt := 64) C.hx C.hb dX8_settle_51 (by decide) (fun c7 => ?_) (fun c7 => ?_)
              · refine lv_iconst (v := 0) C.hx C.hb dX8_settle_64 (by decide) ?_
                exact J8 _ (by rw [if_neg c7])
              · refine lv_aload_n C.hx C.hb dX8_settle_54 rfl (lv_at hl 3 rfl) ?_
                refine g_get (k := 41) (v := .ref (am m0 41)) C hW.1 rfl wu_X8 (by decide) wf_X8_121 rfl rfl dX8_settle_55 ?_
                refine lv_iload C.hx C.hb dX8_settle_58 (lv_at hl 0 rfl) ?_
                refine g_iald (f := x 41) (k := i1) C (hW.2.1 41 rfl) rfl (show i1 < 8000 by omega) (by decide) dX8_settle_60 ?_
                refine lv_goto (tgt := 65) C.hx C.hb dX8_settle_61 (by decide) ?_
                exact J8 _ (by rw [if_pos c7])
            · refine lv_iadd C.hx C.hb dX8_settle_65 ?_
              refine lv_istore_n (lv' := [(2, .int ((itr (f_X8_settle_7_2 x cN) 0 i1) + v9)), (4, .int (nI i1)), (3, .int (itr (f_X8_settle_7_3 x cN) 0 i1)), (0, .ref m0), (1, .int (nI cN))]) C.hx C.hb dX8_settle_66 rfl hl (by decide) rfl (fun ls hl => ?_)
              refine lv_iload_n C.hx C.hb dX8_settle_67 rfl (lv_at hl 2 rfl) ?_
              refine lv_aload_n C.hx C.hb dX8_settle_68 rfl (lv_at hl 3 rfl) ?_
              refine g_get (k := 40) (v := .ref (am m0 40)) C hW.1 rfl wu_X8 (by decide) wf_X8_118 rfl rfl dX8_settle_69 ?_
              refine lv_iload C.hx C.hb dX8_settle_72 (lv_at hl 1 rfl) ?_
              refine g_iald (f := x 40) (k := i1) C (hW.2.1 40 rfl) rfl (show i1 < 8000 by omega) (by decide) dX8_settle_74 ?_
              refine W.joinI (P := fun jv => jv = (if (x 40 i1) = 0 then x 41 i1 else 0 : Int32)) 89 ls [.int (itr (f_X8_settle_7_3 x cN) 0 i1)] (fun J11 => ?_) (fun v12 hv12 => ?_)
              · refine lv_if_ne (tgt := 88) C.hx C.hb dX8_settle_75 (by decide) (fun c10 => ?_) (fun c10 => ?_)
                · refine lv_iconst (v := 0) C.hx C.hb dX8_settle_88 (by decide) ?_
                  exact J11 _ (by rw [if_neg c10])
                · refine lv_aload_n C.hx C.hb dX8_settle_78 rfl (lv_at hl 3 rfl) ?_
                  refine g_get (k := 41) (v := .ref (am m0 41)) C hW.1 rfl wu_X8 (by decide) wf_X8_121 rfl rfl dX8_settle_79 ?_
                  refine lv_iload C.hx C.hb dX8_settle_82 (lv_at hl 1 rfl) ?_
                  refine g_iald (f := x 41) (k := i1) C (hW.2.1 41 rfl) rfl (show i1 < 8000 by omega) (by decide) dX8_settle_84 ?_
                  refine lv_goto (tgt := 89) C.hx C.hb dX8_settle_85 (by decide) ?_
                  exact J11 _ (by rw [if_pos c10])
              · refine lv_iadd C.hx C.hb dX8_settle_89 ?_
                refine lv_istore_n (lv' := [(3, .int ((itr (f_X8_settle_7_3 x cN) 0 i1) + v12)), (2, .int ((itr (f_X8_settle_7_2 x cN) 0 i1) + v9)), (4, .int (nI i1)), (0, .ref m0), (1, .int (nI cN))]) C.hx C.hb dX8_settle_90 rfl hl (by decide) rfl (fun ls hl => ?_)
                exact J13 _ (by rw [hv12] at hl; rw [hv9] at hl; rw [show (if (x 38 i1) = (nI cN) then (if (x 39 i1) = (s_X8_timeOf x cN) then (itr (f_X8_settle_7_2 x cN) 0 i1) + (if (x 40 i1) = 1 then x 41 i1 else 0 : Int32) else itr (f_X8_settle_7_2 x cN) 0 i1 : Int32) else itr (f_X8_settle_7_2 x cN) 0 i1 : Int32) = (itr (f_X8_settle_7_2 x cN) 0 i1) + (if (x 40 i1) = 1 then x 41 i1 else 0 : Int32) from by rw [if_pos c3, if_pos c6]]; rw [show (if (x 38 i1) = (nI cN) then (if (x 39 i1) = (s_X8_timeOf x cN) then (itr (f_X8_settle_7_3 x cN) 0 i1) + (if (x 40 i1) = 0 then x 41 i1 else 0 : Int32) else itr (f_X8_settle_7_3 x cN) 0 i1 : Int32) else itr (f_X8_settle_7_3 x cN) 0 i1 : Int32) = (itr (f_X8_settle_7_3 x cN) 0 i1) + (if (x 40 i1) = 0 then x 41 i1 else 0 : Int32) from by rw [if_pos c3, if_pos c6]]; exact lv_sub hl [2, 0, 1, 3, 4] rfl)
      · refine lv_iinc (v := (nI i1) + 1) (lv' := [(4, .int ((nI i1) + 1)), (3, .int ((if (x 38 i1) = (nI cN) then (if (x 39 i1) = (s_X8_timeOf x cN) then (itr (f_X8_settle_7_3 x cN) 0 i1) + (if (x 40 i1) = 0 then x 41 i1 else 0 : Int32) else itr (f_X8_settle_7_3 x cN) 0 i1 : Int32) else itr (f_X8_settle_7_3 x cN) 0 i1 : Int32))), (2, .int ((if (x 38 i1) = (nI cN) then (if (x 39 i1) = (s_X8_timeOf x cN) then (itr (f_X8_settle_7_2 x cN) 0 i1) + (if (x 40 i1) = 1 then x 41 i1 else 0 : Int32) else itr (f_X8_settle_7_2 x cN) 0 i1 : Int32) else itr (f_X8_settle_7_2 x cN) 0 i1 : Int32))), (0, .ref m0), (1, .int (nI cN))]) C.hx C.hb dX8_settle_91 hl (k := 0) rfl rfl (by decide) rfl (fun ls hl => ?_)
        refine lv_goto (tgt := 7) C.hx C.hb dX8_settle_94 (by decide) ?_
        rw [nI_1 i1] at hl
        exact K1 _ (lv_sub hl [0, 1, 2, 3, 4] rfl)
  · refine lv_iload C.hx C.hb dX8_settle_7 (lv_at hl 0 rfl) ?_
    refine lv_aload_n C.hx C.hb dX8_settle_9 rfl (lv_at hl 3 rfl) ?_
    refine g_get (k := 42) (v := .int (x 42 0)) C hW.1 rfl wu_X8 (by decide) wf_X8_160 rfl rfl dX8_settle_10 ?_
    refine lv_icmp_ge (tgt := 97) C.hx C.hb dX8_settle_13 (by decide) (fun c14 => ?_) (fun c14 => ?_)
    · refine lv_iconst (v := 3) C.hx C.hb dX8_settle_97 (by decide) ?_
      refine lv_iload_n C.hx C.hb dX8_settle_98 rfl (lv_at hl 2 rfl) ?_
      refine lv_imul C.hx C.hb dX8_settle_99 ?_
      refine lv_iconst (v := 2) C.hx C.hb dX8_settle_100 (by decide) ?_
      refine lv_iload_n C.hx C.hb dX8_settle_101 rfl (lv_at hl 2 rfl) ?_
      refine lv_imul C.hx C.hb dX8_settle_102 ?_
      refine lv_iconst (v := 2) C.hx C.hb dX8_settle_103 (by decide) ?_
      refine lv_iload_n C.hx C.hb dX8_settle_104 rfl (lv_at hl 1 rfl) ?_
      refine lv_imul C.hx C.hb dX8_settle_105 ?_
      refine lv_iadd C.hx C.hb dX8_settle_106 ?_
      refine W.joinI (P := fun jv => jv = (if ((2 * (itr (f_X8_settle_7_2 x cN) 0 (nV x))) + (2 * (itr (f_X8_settle_7_3 x cN) 0 (nV x)))) ≤ (3 * (itr (f_X8_settle_7_2 x cN) 0 (nV x))) then 1 else (if (3 * (itr (f_X8_settle_7_3 x cN) 0 (nV x))) < ((2 * (itr (f_X8_settle_7_2 x cN) 0 (nV x))) + (2 * (itr (f_X8_settle_7_3 x cN) 0 (nV x)))) then 0 else 1 : Int32) : Int32)) 128 ls [] (fun J17 => ?_) (fun v18 hv18 => ?_)
      · refine lv_icmp_ge (tgt := 123) C.hx C.hb dX8_settle_107 (by decide) (fun c15 => ?_) (fun c15 => ?_)
        · refine lv_iconst (v := 1) C.hx C.hb dX8_settle_123 (by decide) ?_
          refine lv_goto (tgt := 128) C.hx C.hb dX8_settle_124 (by decide) ?_
          exact J17 _ (by rw [if_pos c15])
        · refine lv_iconst (v := 3) C.hx C.hb dX8_settle_110 (by decide) ?_
          refine lv_iload_n C.hx C.hb dX8_settle_111 rfl (lv_at hl 1 rfl) ?_
          refine lv_imul C.hx C.hb dX8_settle_112 ?_
          refine lv_iconst (v := 2) C.hx C.hb dX8_settle_113 (by decide) ?_
          refine lv_iload_n C.hx C.hb dX8_settle_114 rfl (lv_at hl 2 rfl) ?_
          refine lv_imul C.hx C.hb dX8_settle_115 ?_
          refine lv_iconst (v := 2) C.hx C.hb dX8_settle_116 (by decide) ?_
          refine lv_iload_n C.hx C.hb dX8_settle_117 rfl (lv_at hl 1 rfl) ?_
          refine lv_imul C.hx C.hb dX8_settle_118 ?_
          refine lv_iadd C.hx C.hb dX8_settle_119 ?_
          refine lv_icmp_lt (tgt := 127) C.hx C.hb dX8_settle_120 (by decide) (fun c16 => ?_) (fun c16 => ?_)
          · refine lv_iconst (v := 0) C.hx C.hb dX8_settle_127 (by decide) ?_
            exact J17 _ (by rw [if_neg c15, if_pos c16])
          · refine lv_iconst (v := 1) C.hx C.hb dX8_settle_123 (by decide) ?_
            refine lv_goto (tgt := 128) C.hx C.hb dX8_settle_124 (by decide) ?_
            exact J17 _ (by rw [if_neg c15, if_neg c16])
      · refine lv_istore (lv' := [(4, .int v18), (3, .int (itr (f_X8_settle_7_3 x cN) 0 (nV x))), (2, .int (itr (f_X8_settle_7_2 x cN) 0 (nV x))), (0, .ref m0), (1, .int (nI cN))]) C.hx C.hb dX8_settle_128 hl (by decide) rfl (fun ls hl => ?_)
        refine lv_iload C.hx C.hb dX8_settle_130 (lv_at hl 0 rfl) ?_
        refine lv_if_ne (tgt := 177) C.hx C.hb dX8_settle_132 (by decide) (fun c19 => ?_) (fun c19 => ?_)
        · refine lv_aload_n C.hx C.hb dX8_settle_177 rfl (lv_at hl 3 rfl) ?_
          refine g_get (k := 23) (v := .ref (am m0 23)) C hW.1 rfl wu_X8 (by decide) wf_X8_74 rfl rfl dX8_settle_178 ?_
          refine lv_iconst (v := 2) C.hx C.hb dX8_settle_181 (by decide) ?_
          refine lv_iload_n C.hx C.hb dX8_settle_182 rfl (lv_at hl 4 rfl) ?_
          refine lv_imul C.hx C.hb dX8_settle_183 ?_
          refine lv_aload_n C.hx C.hb dX8_settle_184 rfl (lv_at hl 3 rfl) ?_
          refine lv_iload_n C.hx C.hb dX8_settle_185 rfl (lv_at hl 4 rfl) ?_
          refine kVR (As := [.int (nI cN)]) (rest := [.int (2 * (nI cN)), .ref (am m0 23)]) (v := .int (s_X8_timeOf x cN)) C (cM_timeOf l G m0 x z hI cN (show cN < nC x by omega)) lk_X8_163 (g_recv C hW.1 rfl) hW rfl rfl hl (Nat.le_of_ble_eq_true rfl) dX8_settle_186 ⟨⟨by decide, by decide⟩, by decide, by decide⟩ ?_
          have f19 := (timeOf_ix x cN).2
          refine lv_iadd C.hx C.hb dX8_settle_189 ?_
          refine lv_iload_n C.hx C.hb dX8_settle_190 rfl (lv_at hl 2 rfl) ?_
          refine lv_iload_n C.hx C.hb dX8_settle_191 rfl (lv_at hl 1 rfl) ?_
          refine W.joinI (P := fun jv => jv = (if (itr (f_X8_settle_7_2 x cN) 0 (nV x)) ≤ (itr (f_X8_settle_7_3 x cN) 0 (nV x)) then 0 else 1 : Int32)) 200 ls [.int ((2 * (nI cN)) + (s_X8_timeOf x cN)), .ref (am m0 23)] (fun J22 => ?_) (fun v23 hv23 => ?_)
          · refine lv_icmp_le (tgt := 199) C.hx C.hb dX8_settle_192 (by decide) (fun c21 => ?_) (fun c21 => ?_)
            · refine lv_iconst (v := 0) C.hx C.hb dX8_settle_199 (by decide) ?_
              exact J22 _ (by rw [if_pos c21])
            · refine lv_iconst (v := 1) C.hx C.hb dX8_settle_195 (by decide) ?_
              refine lv_goto (tgt := 200) C.hx C.hb dX8_settle_196 (by decide) ?_
              exact J22 _ (by rw [if_neg c21])
          · refine g_iast (f := x 23) (k := ((2 * cN) + (tn (s_X8_timeOf x cN)))) C hS (hW.2.1 23 rfl) (am_A (Or.inl rfl)) (nI_addE (nI_mulE (by decide) rfl) (timeOf_ix x cN).1) (show ((2 * cN) + (tn (s_X8_timeOf x cN))) < 800 by omega) (by decide) dX8_settle_200 (fun H locs e1 o1 z1 hS => ?_)
            have hW : MWd G m0 (up2 x 23 ((2 * cN) + (tn (s_X8_timeOf x cN))) v23) z H := MWd.putA 23 hW rfl e1 o1 (mfs_up rfl) (by decide) (by decide)
            refine lv_aload_n C.hx C.hb dX8_settle_201 rfl (lv_at hl 3 rfl) ?_
            refine g_get (k := 24) (v := .ref (am m0 24)) C hW.1 rfl wu_X8 (by decide) wf_X8_77 rfl rfl dX8_settle_202 ?_
            refine lv_iload_n C.hx C.hb dX8_settle_205 rfl (lv_at hl 4 rfl) ?_
            refine lv_aload_n C.hx C.hb dX8_settle_206 rfl (lv_at hl 3 rfl) ?_
            refine g_get (k := 19) (v := .ref (am m0 19)) C hW.1 rfl wu_X8 (by decide) wf_X8_62 rfl rfl dX8_settle_207 ?_
            refine lv_iload_n C.hx C.hb dX8_settle_210 rfl (lv_at hl 4 rfl) ?_
            refine g_iald (f := x 19) (k := cN) C (hW.2.1 19 rfl) rfl (show cN < 400 by omega) (by decide) dX8_settle_211 ?_
            refine g_iast (f := x 24) (k := cN) C hS (hW.2.1 24 rfl) (am_A (Or.inl rfl)) rfl (show cN < 400 by omega) (by decide) dX8_settle_212 (fun H locs e1 o1 z1 hS => ?_)
            have hW : MWd G m0 (up2 (up2 x 23 ((2 * cN) + (tn (s_X8_timeOf x cN))) v23) 24 cN (x 19 cN)) z H := MWd.putA 24 hW rfl e1 o1 (mfs_up rfl) (by decide) (by decide)
            refine lv_aload_n C.hx C.hb dX8_settle_213 rfl (lv_at hl 3 rfl) ?_
            refine g_get (k := 25) (v := .ref (am m0 25)) C hW.1 rfl wu_X8 (by decide) wf_X8_80 rfl rfl dX8_settle_214 ?_
            refine lv_iload_n C.hx C.hb dX8_settle_217 rfl (lv_at hl 4 rfl) ?_
            refine lv_iload_n C.hx C.hb dX8_settle_218 rfl (lv_at hl 2 rfl) ?_
            refine g_iast (f := x 25) (k := cN) C hS (hW.2.1 25 rfl) (am_A (Or.inl rfl)) rfl (show cN < 400 by omega) (by decide) dX8_settle_219 (fun H locs e1 o1 z1 hS => ?_)
            have hW : MWd G m0 (up2 (up2 (up2 x 23 ((2 * cN) + (tn (s_X8_timeOf x cN))) v23) 24 cN (x 19 cN)) 25 cN (itr (f_X8_settle_7_2 x cN) 0 (nV x))) z H := MWd.putA 25 hW rfl e1 o1 (mfs_up rfl) (by decide) (by decide)
            refine lv_aload_n C.hx C.hb dX8_settle_220 rfl (lv_at hl 3 rfl) ?_
            refine g_get (k := 26) (v := .ref (am m0 26)) C hW.1 rfl wu_X8 (by decide) wf_X8_83 rfl rfl dX8_settle_221 ?_
            refine lv_iload_n C.hx C.hb dX8_settle_224 rfl (lv_at hl 4 rfl) ?_
            refine lv_iload_n C.hx C.hb dX8_settle_225 rfl (lv_at hl 1 rfl) ?_
            refine g_iast (f := x 26) (k := cN) C hS (hW.2.1 26 rfl) (am_A (Or.inl rfl)) rfl (show cN < 400 by omega) (by decide) dX8_settle_226 (fun H locs e1 o1 z1 hS => ?_)
            have hW : MWd G m0 (up2 (up2 (up2 (up2 x 23 ((2 * cN) + (tn (s_X8_timeOf x cN))) v23) 24 cN (x 19 cN)) 25 cN (itr (f_X8_settle_7_2 x cN) 0 (nV x))) 26 cN (itr (f_X8_settle_7_3 x cN) 0 (nV x))) z H := MWd.putA 26 hW rfl e1 o1 (mfs_up rfl) (by decide) (by decide)
            refine lv_aload_n C.hx C.hb dX8_settle_227 rfl (lv_at hl 3 rfl) ?_
            refine g_get (k := 21) (v := .ref (am m0 21)) C hW.1 rfl wu_X8 (by decide) wf_X8_68 rfl rfl dX8_settle_228 ?_
            refine lv_iload_n C.hx C.hb dX8_settle_231 rfl (lv_at hl 4 rfl) ?_
            refine lv_dup2_11 C.hx C.hb dX8_settle_232 rfl rfl ?_
            refine g_iald (f := x 21) (k := cN) C (hW.2.1 21 rfl) rfl (show cN < 400 by omega) (by decide) dX8_settle_233 ?_
            refine lv_iconst (v := 1) C.hx C.hb dX8_settle_234 (by decide) ?_
            refine lv_iadd C.hx C.hb dX8_settle_235 ?_
            refine g_iast (f := x 21) (k := cN) C hS (hW.2.1 21 rfl) (am_A (Or.inl rfl)) rfl (show cN < 400 by omega) (by decide) dX8_settle_236 (fun H locs e1 o1 z1 hS => ?_)
            have hW : MWd G m0 (up2 (up2 (up2 (up2 (up2 x 23 ((2 * cN) + (tn (s_X8_timeOf x cN))) v23) 24 cN (x 19 cN)) 25 cN (itr (f_X8_settle_7_2 x cN) 0 (nV x))) 26 cN (itr (f_X8_settle_7_3 x cN) 0 (nV x))) 21 cN ((x 21 cN) + 1)) z H := MWd.putA 21 hW rfl e1 o1 (mfs_up rfl) (by decide) (by decide)
            refine lv_aload_n C.hx C.hb dX8_settle_237 rfl (lv_at hl 3 rfl) ?_
            refine lv_dup C.hx C.hb dX8_settle_238 rfl ?_
            refine g_get (k := 28) (v := .int (x 28 0)) C hW.1 rfl wu_X8 (by decide) wf_X8_197 rfl rfl dX8_settle_239 ?_
            refine lv_iconst (v := 1) C.hx C.hb dX8_settle_242 (by decide) ?_
            refine lv_iadd C.hx C.hb dX8_settle_243 ?_
            refine g_put (k := 28) tyX8 C hS hW.1 MA_0 rfl wu_X8 tyX8_ok nmX8 (by decide) wf_X8_197 rfl rfl rfl rfl rfl (Nat.le_of_ble_eq_true rfl) dX8_settle_244 (fun H locs e1 o1 z1 hS => ?_)
            have hW : MWd G m0 (up2 (up2 (up2 (up2 (up2 (up2 x 23 ((2 * cN) + (tn (s_X8_timeOf x cN))) v23) 24 cN (x 19 cN)) 25 cN (itr (f_X8_settle_7_2 x cN) 0 (nV x))) 26 cN (itr (f_X8_settle_7_3 x cN) 0 (nV x))) 21 cN ((x 21 cN) + 1)) 28 0 ((x 28 0) + 1)) z H := MWd.putS 28 hW e1 o1 mset_28 rfl (by decide)
            refine lv_aload_n C.hx C.hb dX8_settle_247 rfl (lv_at hl 3 rfl) ?_
            refine g_get (k := 15) (v := .ref (am m0 15)) C hW.1 rfl wu_X8 (by decide) wf_X8_50 rfl rfl dX8_settle_248 ?_
            refine lv_iload_n C.hx C.hb dX8_settle_251 rfl (lv_at hl 4 rfl) ?_
            refine g_iald (f := x 15) (k := cN) C (hW.2.1 15 rfl) rfl (show cN < 400 by omega) (by decide) dX8_settle_252 ?_
            refine lv_iconst (v := 3) C.hx C.hb dX8_settle_253 (by decide) ?_
            refine W.joinI (P := fun jv => jv = (if (x 15 cN) = 3 then 1 else 0 : Int32)) 262 ls [] (fun J25 => ?_) (fun v26 hv26 => ?_)
            · refine lv_icmp_ne (tgt := 261) C.hx C.hb dX8_settle_254 (by decide) (fun c24 => ?_) (fun c24 => ?_)
              · refine lv_iconst (v := 0) C.hx C.hb dX8_settle_261 (by decide) ?_
                exact J25 _ (by rw [if_neg c24])
              · refine lv_iconst (v := 1) C.hx C.hb dX8_settle_257 (by decide) ?_
                refine lv_goto (tgt := 262) C.hx C.hb dX8_settle_258 (by decide) ?_
                exact J25 _ (by rw [if_pos c24])
            · refine lv_istore (lv' := [(5, .int v26), (4, .int v18), (3, .int (itr (f_X8_settle_7_3 x cN) 0 (nV x))), (2, .int (itr (f_X8_settle_7_2 x cN) 0 (nV x))), (0, .ref m0), (1, .int (nI cN))]) C.hx C.hb dX8_settle_262 hl (by decide) rfl (fun ls hl => ?_)
              refine lv_aload_n C.hx C.hb dX8_settle_264 rfl (lv_at hl 4 rfl) ?_
              refine g_get (k := 15) (v := .ref (am m0 15)) C hW.1 rfl wu_X8 (by decide) wf_X8_50 rfl rfl dX8_settle_265 ?_
              refine lv_iload_n C.hx C.hb dX8_settle_268 rfl (lv_at hl 5 rfl) ?_
              refine lv_iload_n C.hx C.hb dX8_settle_269 rfl (lv_at hl 3 rfl) ?_
              refine lv_iload_n C.hx C.hb dX8_settle_270 rfl (lv_at hl 2 rfl) ?_
              refine W.joinI (P := fun jv => jv = (if (itr (f_X8_settle_7_2 x cN) 0 (nV x)) ≤ (itr (f_X8_settle_7_3 x cN) 0 (nV x)) then (if v26 = 0 then 1 else 4 : Int32) else (if v26 = 0 then 2 else 5 : Int32) : Int32)) 297 ls [.int (nI cN), .ref (am m0 15)] (fun J30 => ?_) (fun v31 hv31 => ?_)
              · refine lv_icmp_le (tgt := 287) C.hx C.hb dX8_settle_271 (by decide) (fun c27 => ?_) (fun c27 => ?_)
                · refine lv_iload C.hx C.hb dX8_settle_287 (lv_at hl 0 rfl) ?_
                  refine lv_if_eq (tgt := 296) C.hx C.hb dX8_settle_289 (by decide) (fun c28 => ?_) (fun c28 => ?_)
                  · refine lv_iconst (v := 1) C.hx C.hb dX8_settle_296 (by decide) ?_
                    exact J30 _ (by rw [if_pos c27, if_pos c28])
                  · refine lv_iconst (v := 4) C.hx C.hb dX8_settle_292 (by decide) ?_
                    refine lv_goto (tgt := 297) C.hx C.hb dX8_settle_293 (by decide) ?_
                    exact J30 _ (by rw [if_pos c27, if_neg c28])
                · refine lv_iload C.hx C.hb dX8_settle_274 (lv_at hl 0 rfl) ?_
                  refine lv_if_eq (tgt := 283) C.hx C.hb dX8_settle_276 (by decide) (fun c29 => ?_) (fun c29 => ?_)
                  · refine lv_iconst (v := 2) C.hx C.hb dX8_settle_283 (by decide) ?_
                    refine lv_goto (tgt := 297) C.hx C.hb dX8_settle_284 (by decide) ?_
                    exact J30 _ (by rw [if_neg c27, if_pos c29])
                  · refine lv_iconst (v := 5) C.hx C.hb dX8_settle_279 (by decide) ?_
                    refine lv_goto (tgt := 297) C.hx C.hb dX8_settle_280 (by decide) ?_
                    exact J30 _ (by rw [if_neg c27, if_neg c29])
              · refine g_iast (f := x 15) (k := cN) C hS (hW.2.1 15 rfl) (am_A (Or.inl rfl)) rfl (show cN < 400 by omega) (by decide) dX8_settle_297 (fun H locs e1 o1 z1 hS => ?_)
                have hW : MWd G m0 (up2 (up2 (up2 (up2 (up2 (up2 (up2 x 23 ((2 * cN) + (tn (s_X8_timeOf x cN))) v23) 24 cN (x 19 cN)) 25 cN (itr (f_X8_settle_7_2 x cN) 0 (nV x))) 26 cN (itr (f_X8_settle_7_3 x cN) 0 (nV x))) 21 cN ((x 21 cN) + 1)) 28 0 ((x 28 0) + 1)) 15 cN v31) z H := MWd.putA 15 hW rfl e1 o1 (mfs_up rfl) (by decide) (by decide)
                refine lv_aload_n C.hx C.hb dX8_settle_298 rfl (lv_at hl 4 rfl) ?_
                refine kVWn (As := []) (rest := []) C (cM_lookAtJudges l G m0 (up2 (up2 (up2 (up2 (up2 (up2 (up2 x 23 ((2 * cN) + (tn (s_X8_timeOf x cN))) v23) 24 cN (x 19 cN)) 25 cN (itr (f_X8_settle_7_2 x cN) 0 (nV x))) 26 cN (itr (f_X8_settle_7_3 x cN) 0 (nV x))) 21 cN ((x 21 cN) + 1)) 28 0 ((x 28 0) + 1)) 15 cN v31) z (MI.up (MI.up (MI.up (MI.up (MI.up (MI.up (MI.up hI rfl) rfl) rfl) rfl) rfl) rfl) rfl)) lk_X8_200 (g_recv C hW.1 rfl) hW rfl rfl hl (Nat.le_of_ble_eq_true rfl) dX8_settle_299 ⟨⟨by decide, by decide⟩, by decide, by decide⟩ hS (fun q h => h) (fun H locs hP hz1 hk1 hS => ?_)
                have hW : MWd G m0 (sx_X8_lookAtJudges (up2 (up2 (up2 (up2 (up2 (up2 (up2 x 23 ((2 * cN) + (tn (s_X8_timeOf x cN))) v23) 24 cN (x 19 cN)) 25 cN (itr (f_X8_settle_7_2 x cN) 0 (nV x))) 26 cN (itr (f_X8_settle_7_3 x cN) 0 (nV x))) 21 cN ((x 21 cN) + 1)) 28 0 ((x 28 0) + 1)) 15 cN v31)) z H := hP
                exact wV C hr dX8_settle_302 hS (by rw [hv31] at hW; rw [hv26] at hW; rw [hv23] at hW; rw [hv18] at c19; unfold sx_X8_settle; rw [if_neg c19]; exact hW)
        · refine lv_aload_n C.hx C.hb dX8_settle_135 rfl (lv_at hl 3 rfl) ?_
          refine g_get (k := 20) (v := .ref (am m0 20)) C hW.1 rfl wu_X8 (by decide) wf_X8_65 rfl rfl dX8_settle_136 ?_
          refine lv_iload_n C.hx C.hb dX8_settle_139 rfl (lv_at hl 4 rfl) ?_
          refine g_iald (f := x 20) (k := cN) C (hW.2.1 20 rfl) rfl (show cN < 400 by omega) (by decide) dX8_settle_140 ?_
          refine lv_iconst (v := 2) C.hx C.hb dX8_settle_141 (by decide) ?_
          refine lv_icmp_ge (tgt := 177) C.hx C.hb dX8_settle_142 (by decide) (fun c32 => ?_) (fun c32 => ?_)
          · refine lv_aload_n C.hx C.hb dX8_settle_177 rfl (lv_at hl 3 rfl) ?_
            refine g_get (k := 23) (v := .ref (am m0 23)) C hW.1 rfl wu_X8 (by decide) wf_X8_74 rfl rfl dX8_settle_178 ?_
            refine lv_iconst (v := 2) C.hx C.hb dX8_settle_181 (by decide) ?_
            refine lv_iload_n C.hx C.hb dX8_settle_182 rfl (lv_at hl 4 rfl) ?_
            refine lv_imul C.hx C.hb dX8_settle_183 ?_
            refine lv_aload_n C.hx C.hb dX8_settle_184 rfl (lv_at hl 3 rfl) ?_
            refine lv_iload_n C.hx C.hb dX8_settle_185 rfl (lv_at hl 4 rfl) ?_
            refine kVR (As := [.int (nI cN)]) (rest := [.int (2 * (nI cN)), .ref (am m0 23)]) (v := .int (s_X8_timeOf x cN)) C (cM_timeOf l G m0 x z hI cN (show cN < nC x by omega)) lk_X8_163 (g_recv C hW.1 rfl) hW rfl rfl hl (Nat.le_of_ble_eq_true rfl) dX8_settle_186 ⟨⟨by decide, by decide⟩, by decide, by decide⟩ ?_
            have f32 := (timeOf_ix x cN).2
            refine lv_iadd C.hx C.hb dX8_settle_189 ?_
            refine lv_iload_n C.hx C.hb dX8_settle_190 rfl (lv_at hl 2 rfl) ?_
            refine lv_iload_n C.hx C.hb dX8_settle_191 rfl (lv_at hl 1 rfl) ?_
            refine W.joinI (P := fun jv => jv = (if (itr (f_X8_settle_7_2 x cN) 0 (nV x)) ≤ (itr (f_X8_settle_7_3 x cN) 0 (nV x)) then 0 else 1 : Int32)) 200 ls [.int ((2 * (nI cN)) + (s_X8_timeOf x cN)), .ref (am m0 23)] (fun J35 => ?_) (fun v36 hv36 => ?_)
            · refine lv_icmp_le (tgt := 199) C.hx C.hb dX8_settle_192 (by decide) (fun c34 => ?_) (fun c34 => ?_)
              · refine lv_iconst (v := 0) C.hx C.hb dX8_settle_199 (by decide) ?_
                exact J35 _ (by rw [if_pos c34])
              · refine lv_iconst (v := 1) C.hx C.hb dX8_settle_195 (by decide) ?_
                refine lv_goto (tgt := 200) C.hx C.hb dX8_settle_196 (by decide) ?_
                exact J35 _ (by rw [if_neg c34])
            · refine g_iast (f := x 23) (k := ((2 * cN) + (tn (s_X8_timeOf x cN)))) C hS (hW.2.1 23 rfl) (am_A (Or.inl rfl)) (nI_addE (nI_mulE (by decide) rfl) (timeOf_ix x cN).1) (show ((2 * cN) + (tn (s_X8_timeOf x cN))) < 800 by omega) (by decide) dX8_settle_200 (fun H locs e1 o1 z1 hS => ?_)
              have hW : MWd G m0 (up2 x 23 ((2 * cN) + (tn (s_X8_timeOf x cN))) v36) z H := MWd.putA 23 hW rfl e1 o1 (mfs_up rfl) (by decide) (by decide)
              refine lv_aload_n C.hx C.hb dX8_settle_201 rfl (lv_at hl 3 rfl) ?_
              refine g_get (k := 24) (v := .ref (am m0 24)) C hW.1 rfl wu_X8 (by decide) wf_X8_77 rfl rfl dX8_settle_202 ?_
              refine lv_iload_n C.hx C.hb dX8_settle_205 rfl (lv_at hl 4 rfl) ?_
              refine lv_aload_n C.hx C.hb dX8_settle_206 rfl (lv_at hl 3 rfl) ?_
              refine g_get (k := 19) (v := .ref (am m0 19)) C hW.1 rfl wu_X8 (by decide) wf_X8_62 rfl rfl dX8_settle_207 ?_
              refine lv_iload_n C.hx C.hb dX8_settle_210 rfl (lv_at hl 4 rfl) ?_
              refine g_iald (f := x 19) (k := cN) C (hW.2.1 19 rfl) rfl (show cN < 400 by omega) (by decide) dX8_settle_211 ?_
              refine g_iast (f := x 24) (k := cN) C hS (hW.2.1 24 rfl) (am_A (Or.inl rfl)) rfl (show cN < 400 by omega) (by decide) dX8_settle_212 (fun H locs e1 o1 z1 hS => ?_)
              have hW : MWd G m0 (up2 (up2 x 23 ((2 * cN) + (tn (s_X8_timeOf x cN))) v36) 24 cN (x 19 cN)) z H := MWd.putA 24 hW rfl e1 o1 (mfs_up rfl) (by decide) (by decide)
              refine lv_aload_n C.hx C.hb dX8_settle_213 rfl (lv_at hl 3 rfl) ?_
              refine g_get (k := 25) (v := .ref (am m0 25)) C hW.1 rfl wu_X8 (by decide) wf_X8_80 rfl rfl dX8_settle_214 ?_
              refine lv_iload_n C.hx C.hb dX8_settle_217 rfl (lv_at hl 4 rfl) ?_
              refine lv_iload_n C.hx C.hb dX8_settle_218 rfl (lv_at hl 2 rfl) ?_
              refine g_iast (f := x 25) (k := cN) C hS (hW.2.1 25 rfl) (am_A (Or.inl rfl)) rfl (show cN < 400 by omega) (by decide) dX8_settle_219 (fun H locs e1 o1 z1 hS => ?_)
              have hW : MWd G m0 (up2 (up2 (up2 x 23 ((2 * cN) + (tn (s_X8_timeOf x cN))) v36) 24 cN (x 19 cN)) 25 cN (itr (f_X8_settle_7_2 x cN) 0 (nV x))) z H := MWd.putA 25 hW rfl e1 o1 (mfs_up rfl) (by decide) (by decide)
              refine lv_aload_n C.hx C.hb dX8_settle_220 rfl (lv_at hl 3 rfl) ?_
              refine g_get (k := 26) (v := .ref (am m0 26)) C hW.1 rfl wu_X8 (by decide) wf_X8_83 rfl rfl dX8_settle_221 ?_
              refine lv_iload_n C.hx C.hb dX8_settle_224 rfl (lv_at hl 4 rfl) ?_
              refine lv_iload_n C.hx C.hb dX8_settle_225 rfl (lv_at hl 1 rfl) ?_
              refine g_iast (f := x 26) (k := cN) C hS (hW.2.1 26 rfl) (am_A (Or.inl rfl)) rfl (show cN < 400 by omega) (by decide) dX8_settle_226 (fun H locs e1 o1 z1 hS => ?_)
              have hW : MWd G m0 (up2 (up2 (up2 (up2 x 23 ((2 * cN) + (tn (s_X8_timeOf x cN))) v36) 24 cN (x 19 cN)) 25 cN (itr (f_X8_settle_7_2 x cN) 0 (nV x))) 26 cN (itr (f_X8_settle_7_3 x cN) 0 (nV x))) z H := MWd.putA 26 hW rfl e1 o1 (mfs_up rfl) (by decide) (by decide)
              refine lv_aload_n C.hx C.hb dX8_settle_227 rfl (lv_at hl 3 rfl) ?_
              refine g_get (k := 21) (v := .ref (am m0 21)) C hW.1 rfl wu_X8 (by decide) wf_X8_68 rfl rfl dX8_settle_228 ?_
              refine lv_iload_n C.hx C.hb dX8_settle_231 rfl (lv_at hl 4 rfl) ?_
              refine lv_dup2_11 C.hx C.hb dX8_settle_232 rfl rfl ?_
              refine g_iald (f := x 21) (k := cN) C (hW.2.1 21 rfl) rfl (show cN < 400 by omega) (by decide) dX8_settle_233 ?_
              refine lv_iconst (v := 1) C.hx C.hb dX8_settle_234 (by decide) ?_
              refine lv_iadd C.hx C.hb dX8_settle_235 ?_
              refine g_iast (f := x 21) (k := cN) C hS (hW.2.1 21 rfl) (am_A (Or.inl rfl)) rfl (show cN < 400 by omega) (by decide) dX8_settle_236 (fun H locs e1 o1 z1 hS => ?_)
              have hW : MWd G m0 (up2 (up2 (up2 (up2 (up2 x 23 ((2 * cN) + (tn (s_X8_timeOf x cN))) v36) 24 cN (x 19 cN)) 25 cN (itr (f_X8_settle_7_2 x cN) 0 (nV x))) 26 cN (itr (f_X8_settle_7_3 x cN) 0 (nV x))) 21 cN ((x 21 cN) + 1)) z H := MWd.putA 21 hW rfl e1 o1 (mfs_up rfl) (by decide) (by decide)
              refine lv_aload_n C.hx C.hb dX8_settle_237 rfl (lv_at hl 3 rfl) ?_
              refine lv_dup C.hx C.hb dX8_settle_238 rfl ?_
              refine g_get (k := 28) (v := .int (x 28 0)) C hW.1 rfl wu_X8 (by decide) wf_X8_197 rfl rfl dX8_settle_239 ?_
              refine lv_iconst (v := 1) C.hx C.hb dX8_settle_242 (by decide) ?_
              refine lv_iadd C.hx C.hb dX8_settle_243 ?_
              refine g_put (k := 28) tyX8 C hS hW.1 MA_0 rfl wu_X8 tyX8_ok nmX8 (by decide) wf_X8_197 rfl rfl rfl rfl rfl (Nat.le_of_ble_eq_true rfl) dX8_settle_244 (fun H locs e1 o1 z1 hS => ?_)
              have hW : MWd G m0 (up2 (up2 (up2 (up2 (up2 (up2 x 23 ((2 * cN) + (tn (s_X8_timeOf x cN))) v36) 24 cN (x 19 cN)) 25 cN (itr (f_X8_settle_7_2 x cN) 0 (nV x))) 26 cN (itr (f_X8_settle_7_3 x cN) 0 (nV x))) 21 cN ((x 21 cN) + 1)) 28 0 ((x 28 0) + 1)) z H := MWd.putS 28 hW e1 o1 mset_28 rfl (by decide)
              refine lv_aload_n C.hx C.hb dX8_settle_247 rfl (lv_at hl 3 rfl) ?_
              refine g_get (k := 15) (v := .ref (am m0 15)) C hW.1 rfl wu_X8 (by decide) wf_X8_50 rfl rfl dX8_settle_248 ?_
              refine lv_iload_n C.hx C.hb dX8_settle_251 rfl (lv_at hl 4 rfl) ?_
              refine g_iald (f := x 15) (k := cN) C (hW.2.1 15 rfl) rfl (show cN < 400 by omega) (by decide) dX8_settle_252 ?_
              refine lv_iconst (v := 3) C.hx C.hb dX8_settle_253 (by decide) ?_
              refine W.joinI (P := fun jv => jv = (if (x 15 cN) = 3 then 1 else 0 : Int32)) 262 ls [] (fun J38 => ?_) (fun v39 hv39 => ?_)
              · refine lv_icmp_ne (tgt := 261) C.hx C.hb dX8_settle_254 (by decide) (fun c37 => ?_) (fun c37 => ?_)
                · refine lv_iconst (v := 0) C.hx C.hb dX8_settle_261 (by decide) ?_
                  exact J38 _ (by rw [if_neg c37])
                · refine lv_iconst (v := 1) C.hx C.hb dX8_settle_257 (by decide) ?_
                  refine lv_goto (tgt := 262) C.hx C.hb dX8_settle_258 (by decide) ?_
                  exact J38 _ (by rw [if_pos c37])
              · refine lv_istore (lv' := [(5, .int v39), (4, .int v18), (3, .int (itr (f_X8_settle_7_3 x cN) 0 (nV x))), (2, .int (itr (f_X8_settle_7_2 x cN) 0 (nV x))), (0, .ref m0), (1, .int (nI cN))]) C.hx C.hb dX8_settle_262 hl (by decide) rfl (fun ls hl => ?_)
                refine lv_aload_n C.hx C.hb dX8_settle_264 rfl (lv_at hl 4 rfl) ?_
                refine g_get (k := 15) (v := .ref (am m0 15)) C hW.1 rfl wu_X8 (by decide) wf_X8_50 rfl rfl dX8_settle_265 ?_
                refine lv_iload_n C.hx C.hb dX8_settle_268 rfl (lv_at hl 5 rfl) ?_
                refine lv_iload_n C.hx C.hb dX8_settle_269 rfl (lv_at hl 3 rfl) ?_
                refine lv_iload_n C.hx C.hb dX8_settle_270 rfl (lv_at hl 2 rfl) ?_
                refine W.joinI (P := fun jv => jv = (if (itr (f_X8_settle_7_2 x cN) 0 (nV x)) ≤ (itr (f_X8_settle_7_3 x cN) 0 (nV x)) then (if v39 = 0 then 1 else 4 : Int32) else (if v39 = 0 then 2 else 5 : Int32) : Int32)) 297 ls [.int (nI cN), .ref (am m0 15)] (fun J43 => ?_) (fun v44 hv44 => ?_)
                · refine lv_icmp_le (tgt := 287) C.hx C.hb dX8_settle_271 (by decide) (fun c40 => ?_) (fun c40 => ?_)
                  · refine lv_iload C.hx C.hb dX8_settle_287 (lv_at hl 0 rfl) ?_
                    refine lv_if_eq (tgt := 296) C.hx C.hb dX8_settle_289 (by decide) (fun c41 => ?_) (fun c41 => ?_)
                    · refine lv_iconst (v := 1) C.hx C.hb dX8_settle_296 (by decide) ?_
                      exact J43 _ (by rw [if_pos c40, if_pos c41])
                    · refine lv_iconst (v := 4) C.hx C.hb dX8_settle_292 (by decide) ?_
                      refine lv_goto (tgt := 297) C.hx C.hb dX8_settle_293 (by decide) ?_
                      exact J43 _ (by rw [if_pos c40, if_neg c41])
                  · refine lv_iload C.hx C.hb dX8_settle_274 (lv_at hl 0 rfl) ?_
                    refine lv_if_eq (tgt := 283) C.hx C.hb dX8_settle_276 (by decide) (fun c42 => ?_) (fun c42 => ?_)
                    · refine lv_iconst (v := 2) C.hx C.hb dX8_settle_283 (by decide) ?_
                      refine lv_goto (tgt := 297) C.hx C.hb dX8_settle_284 (by decide) ?_
                      exact J43 _ (by rw [if_neg c40, if_pos c42])
                    · refine lv_iconst (v := 5) C.hx C.hb dX8_settle_279 (by decide) ?_
                      refine lv_goto (tgt := 297) C.hx C.hb dX8_settle_280 (by decide) ?_
                      exact J43 _ (by rw [if_neg c40, if_neg c42])
                · refine g_iast (f := x 15) (k := cN) C hS (hW.2.1 15 rfl) (am_A (Or.inl rfl)) rfl (show cN < 400 by omega) (by decide) dX8_settle_297 (fun H locs e1 o1 z1 hS => ?_)
                  have hW : MWd G m0 (up2 (up2 (up2 (up2 (up2 (up2 (up2 x 23 ((2 * cN) + (tn (s_X8_timeOf x cN))) v36) 24 cN (x 19 cN)) 25 cN (itr (f_X8_settle_7_2 x cN) 0 (nV x))) 26 cN (itr (f_X8_settle_7_3 x cN) 0 (nV x))) 21 cN ((x 21 cN) + 1)) 28 0 ((x 28 0) + 1)) 15 cN v44) z H := MWd.putA 15 hW rfl e1 o1 (mfs_up rfl) (by decide) (by decide)
                  refine lv_aload_n C.hx C.hb dX8_settle_298 rfl (lv_at hl 4 rfl) ?_
                  refine kVWn (As := []) (rest := []) C (cM_lookAtJudges l G m0 (up2 (up2 (up2 (up2 (up2 (up2 (up2 x 23 ((2 * cN) + (tn (s_X8_timeOf x cN))) v36) 24 cN (x 19 cN)) 25 cN (itr (f_X8_settle_7_2 x cN) 0 (nV x))) 26 cN (itr (f_X8_settle_7_3 x cN) 0 (nV x))) 21 cN ((x 21 cN) + 1)) 28 0 ((x 28 0) + 1)) 15 cN v44) z (MI.up (MI.up (MI.up (MI.up (MI.up (MI.up (MI.up hI rfl) rfl) rfl) rfl) rfl) rfl) rfl)) lk_X8_200 (g_recv C hW.1 rfl) hW rfl rfl hl (Nat.le_of_ble_eq_true rfl) dX8_settle_299 ⟨⟨by decide, by decide⟩, by decide, by decide⟩ hS (fun q h => h) (fun H locs hP hz1 hk1 hS => ?_)
                  have hW : MWd G m0 (sx_X8_lookAtJudges (up2 (up2 (up2 (up2 (up2 (up2 (up2 x 23 ((2 * cN) + (tn (s_X8_timeOf x cN))) v36) 24 cN (x 19 cN)) 25 cN (itr (f_X8_settle_7_2 x cN) 0 (nV x))) 26 cN (itr (f_X8_settle_7_3 x cN) 0 (nV x))) 21 cN ((x 21 cN) + 1)) 28 0 ((x 28 0) + 1)) 15 cN v44)) z H := hP
                  exact wV C hr dX8_settle_302 hS (by rw [hv44] at hW; rw [hv39] at hW; rw [hv36] at hW; rw [hv18] at c19; unfold sx_X8_settle; rw [if_pos c19, if_pos c32]; exact hW)
          · refine lv_aload_n C.hx C.hb dX8_settle_145 rfl (lv_at hl 3 rfl) ?_
            refine g_get (k := 19) (v := .ref (am m0 19)) C hW.1 rfl wu_X8 (by decide) wf_X8_62 rfl rfl dX8_settle_146 ?_
            refine lv_iload_n C.hx C.hb dX8_settle_149 rfl (lv_at hl 4 rfl) ?_
            refine g_iald (f := x 19) (k := cN) C (hW.2.1 19 rfl) rfl (show cN < 400 by omega) (by decide) dX8_settle_150 ?_
            refine lv_bipush (v := 7) C.hx C.hb dX8_settle_151 (by decide) ?_
            refine lv_icmp_gt (tgt := 177) C.hx C.hb dX8_settle_153 (by decide) (fun c45 => ?_) (fun c45 => ?_)
            · refine lv_aload_n C.hx C.hb dX8_settle_177 rfl (lv_at hl 3 rfl) ?_
              refine g_get (k := 23) (v := .ref (am m0 23)) C hW.1 rfl wu_X8 (by decide) wf_X8_74 rfl rfl dX8_settle_178 ?_
              refine lv_iconst (v := 2) C.hx C.hb dX8_settle_181 (by decide) ?_
              refine lv_iload_n C.hx C.hb dX8_settle_182 rfl (lv_at hl 4 rfl) ?_
              refine lv_imul C.hx C.hb dX8_settle_183 ?_
              refine lv_aload_n C.hx C.hb dX8_settle_184 rfl (lv_at hl 3 rfl) ?_
              refine lv_iload_n C.hx C.hb dX8_settle_185 rfl (lv_at hl 4 rfl) ?_
              refine kVR (As := [.int (nI cN)]) (rest := [.int (2 * (nI cN)), .ref (am m0 23)]) (v := .int (s_X8_timeOf x cN)) C (cM_timeOf l G m0 x z hI cN (show cN < nC x by omega)) lk_X8_163 (g_recv C hW.1 rfl) hW rfl rfl hl (Nat.le_of_ble_eq_true rfl) dX8_settle_186 ⟨⟨by decide, by decide⟩, by decide, by decide⟩ ?_
              have f45 := (timeOf_ix x cN).2
              refine lv_iadd C.hx C.hb dX8_settle_189 ?_
              refine lv_iload_n C.hx C.hb dX8_settle_190 rfl (lv_at hl 2 rfl) ?_
              refine lv_iload_n C.hx C.hb dX8_settle_191 rfl (lv_at hl 1 rfl) ?_
              refine W.joinI (P := fun jv => jv = (if (itr (f_X8_settle_7_2 x cN) 0 (nV x)) ≤ (itr (f_X8_settle_7_3 x cN) 0 (nV x)) then 0 else 1 : Int32)) 200 ls [.int ((2 * (nI cN)) + (s_X8_timeOf x cN)), .ref (am m0 23)] (fun J48 => ?_) (fun v49 hv49 => ?_)
              · refine lv_icmp_le (tgt := 199) C.hx C.hb dX8_settle_192 (by decide) (fun c47 => ?_) (fun c47 => ?_)
                · refine lv_iconst (v := 0) C.hx C.hb dX8_settle_199 (by decide) ?_
                  exact J48 _ (by rw [if_pos c47])
                · refine lv_iconst (v := 1) C.hx C.hb dX8_settle_195 (by decide) ?_
                  refine lv_goto (tgt := 200) C.hx C.hb dX8_settle_196 (by decide) ?_
                  exact J48 _ (by rw [if_neg c47])
              · refine g_iast (f := x 23) (k := ((2 * cN) + (tn (s_X8_timeOf x cN)))) C hS (hW.2.1 23 rfl) (am_A (Or.inl rfl)) (nI_addE (nI_mulE (by decide) rfl) (timeOf_ix x cN).1) (show ((2 * cN) + (tn (s_X8_timeOf x cN))) < 800 by omega) (by decide) dX8_settle_200 (fun H locs e1 o1 z1 hS => ?_)
                have hW : MWd G m0 (up2 x 23 ((2 * cN) + (tn (s_X8_timeOf x cN))) v49) z H := MWd.putA 23 hW rfl e1 o1 (mfs_up rfl) (by decide) (by decide)
                refine lv_aload_n C.hx C.hb dX8_settle_201 rfl (lv_at hl 3 rfl) ?_
                refine g_get (k := 24) (v := .ref (am m0 24)) C hW.1 rfl wu_X8 (by decide) wf_X8_77 rfl rfl dX8_settle_202 ?_
                refine lv_iload_n C.hx C.hb dX8_settle_205 rfl (lv_at hl 4 rfl) ?_
                refine lv_aload_n C.hx C.hb dX8_settle_206 rfl (lv_at hl 3 rfl) ?_
                refine g_get (k := 19) (v := .ref (am m0 19)) C hW.1 rfl wu_X8 (by decide) wf_X8_62 rfl rfl dX8_settle_207 ?_
                refine lv_iload_n C.hx C.hb dX8_settle_210 rfl (lv_at hl 4 rfl) ?_
                refine g_iald (f := x 19) (k := cN) C (hW.2.1 19 rfl) rfl (show cN < 400 by omega) (by decide) dX8_settle_211 ?_
                refine g_iast (f := x 24) (k := cN) C hS (hW.2.1 24 rfl) (am_A (Or.inl rfl)) rfl (show cN < 400 by omega) (by decide) dX8_settle_212 (fun H locs e1 o1 z1 hS => ?_)
                have hW : MWd G m0 (up2 (up2 x 23 ((2 * cN) + (tn (s_X8_timeOf x cN))) v49) 24 cN (x 19 cN)) z H := MWd.putA 24 hW rfl e1 o1 (mfs_up rfl) (by decide) (by decide)
                refine lv_aload_n C.hx C.hb dX8_settle_213 rfl (lv_at hl 3 rfl) ?_
                refine g_get (k := 25) (v := .ref (am m0 25)) C hW.1 rfl wu_X8 (by decide) wf_X8_80 rfl rfl dX8_settle_214 ?_
                refine lv_iload_n C.hx C.hb dX8_settle_217 rfl (lv_at hl 4 rfl) ?_
                refine lv_iload_n C.hx C.hb dX8_settle_218 rfl (lv_at hl 2 rfl) ?_
                refine g_iast (f := x 25) (k := cN) C hS (hW.2.1 25 rfl) (am_A (Or.inl rfl)) rfl (show cN < 400 by omega) (by decide) dX8_settle_219 (fun H locs e1 o1 z1 hS => ?_)
                have hW : MWd G m0 (up2 (up2 (up2 x 23 ((2 * cN) + (tn (s_X8_timeOf x cN))) v49) 24 cN (x 19 cN)) 25 cN (itr (f_X8_settle_7_2 x cN) 0 (nV x))) z H := MWd.putA 25 hW rfl e1 o1 (mfs_up rfl) (by decide) (by decide)
                refine lv_aload_n C.hx C.hb dX8_settle_220 rfl (lv_at hl 3 rfl) ?_
                refine g_get (k := 26) (v := .ref (am m0 26)) C hW.1 rfl wu_X8 (by decide) wf_X8_83 rfl rfl dX8_settle_221 ?_
                refine lv_iload_n C.hx C.hb dX8_settle_224 rfl (lv_at hl 4 rfl) ?_
                refine lv_iload_n C.hx C.hb dX8_settle_225 rfl (lv_at hl 1 rfl) ?_
                refine g_iast (f := x 26) (k := cN) C hS (hW.2.1 26 rfl) (am_A (Or.inl rfl)) rfl (show cN < 400 by omega) (by decide) dX8_settle_226 (fun H locs e1 o1 z1 hS => ?_)
                have hW : MWd G m0 (up2 (up2 (up2 (up2 x 23 ((2 * cN) + (tn (s_X8_timeOf x cN))) v49) 24 cN (x 19 cN)) 25 cN (itr (f_X8_settle_7_2 x cN) 0 (nV x))) 26 cN (itr (f_X8_settle_7_3 x cN) 0 (nV x))) z H := MWd.putA 26 hW rfl e1 o1 (mfs_up rfl) (by decide) (by decide)
                refine lv_aload_n C.hx C.hb dX8_settle_227 rfl (lv_at hl 3 rfl) ?_
                refine g_get (k := 21) (v := .ref (am m0 21)) C hW.1 rfl wu_X8 (by decide) wf_X8_68 rfl rfl dX8_settle_228 ?_
                refine lv_iload_n C.hx C.hb dX8_settle_231 rfl (lv_at hl 4 rfl) ?_
                refine lv_dup2_11 C.hx C.hb dX8_settle_232 rfl rfl ?_
                refine g_iald (f := x 21) (k := cN) C (hW.2.1 21 rfl) rfl (show cN < 400 by omega) (by decide) dX8_settle_233 ?_
                refine lv_iconst (v := 1) C.hx C.hb dX8_settle_234 (by decide) ?_
                refine lv_iadd C.hx C.hb dX8_settle_235 ?_
                refine g_iast (f := x 21) (k := cN) C hS (hW.2.1 21 rfl) (am_A (Or.inl rfl)) rfl (show cN < 400 by omega) (by decide) dX8_settle_236 (fun H locs e1 o1 z1 hS => ?_)
                have hW : MWd G m0 (up2 (up2 (up2 (up2 (up2 x 23 ((2 * cN) + (tn (s_X8_timeOf x cN))) v49) 24 cN (x 19 cN)) 25 cN (itr (f_X8_settle_7_2 x cN) 0 (nV x))) 26 cN (itr (f_X8_settle_7_3 x cN) 0 (nV x))) 21 cN ((x 21 cN) + 1)) z H := MWd.putA 21 hW rfl e1 o1 (mfs_up rfl) (by decide) (by decide)
                refine lv_aload_n C.hx C.hb dX8_settle_237 rfl (lv_at hl 3 rfl) ?_
                refine lv_dup C.hx C.hb dX8_settle_238 rfl ?_
                refine g_get (k := 28) (v := .int (x 28 0)) C hW.1 rfl wu_X8 (by decide) wf_X8_197 rfl rfl dX8_settle_239 ?_
                refine lv_iconst (v := 1) C.hx C.hb dX8_settle_242 (by decide) ?_
                refine lv_iadd C.hx C.hb dX8_settle_243 ?_
                refine g_put (k := 28) tyX8 C hS hW.1 MA_0 rfl wu_X8 tyX8_ok nmX8 (by decide) wf_X8_197 rfl rfl rfl rfl rfl (Nat.le_of_ble_eq_true rfl) dX8_settle_244 (fun H locs e1 o1 z1 hS => ?_)
                have hW : MWd G m0 (up2 (up2 (up2 (up2 (up2 (up2 x 23 ((2 * cN) + (tn (s_X8_timeOf x cN))) v49) 24 cN (x 19 cN)) 25 cN (itr (f_X8_settle_7_2 x cN) 0 (nV x))) 26 cN (itr (f_X8_settle_7_3 x cN) 0 (nV x))) 21 cN ((x 21 cN) + 1)) 28 0 ((x 28 0) + 1)) z H := MWd.putS 28 hW e1 o1 mset_28 rfl (by decide)
                refine lv_aload_n C.hx C.hb dX8_settle_247 rfl (lv_at hl 3 rfl) ?_
                refine g_get (k := 15) (v := .ref (am m0 15)) C hW.1 rfl wu_X8 (by decide) wf_X8_50 rfl rfl dX8_settle_248 ?_
                refine lv_iload_n C.hx C.hb dX8_settle_251 rfl (lv_at hl 4 rfl) ?_
                refine g_iald (f := x 15) (k := cN) C (hW.2.1 15 rfl) rfl (show cN < 400 by omega) (by decide) dX8_settle_252 ?_
                refine lv_iconst (v := 3) C.hx C.hb dX8_settle_253 (by decide) ?_
                refine W.joinI (P := fun jv => jv = (if (x 15 cN) = 3 then 1 else 0 : Int32)) 262 ls [] (fun J51 => ?_) (fun v52 hv52 => ?_)
                · refine lv_icmp_ne (tgt := 261) C.hx C.hb dX8_settle_254 (by decide) (fun c50 => ?_) (fun c50 => ?_)
                  · refine lv_iconst (v := 0) C.hx C.hb dX8_settle_261 (by decide) ?_
                    exact J51 _ (by rw [if_neg c50])
                  · refine lv_iconst (v := 1) C.hx C.hb dX8_settle_257 (by decide) ?_
                    refine lv_goto (tgt := 262) C.hx C.hb dX8_settle_258 (by decide) ?_
                    exact J51 _ (by rw [if_pos c50])
                · refine lv_istore (lv' := [(5, .int v52), (4, .int v18), (3, .int (itr (f_X8_settle_7_3 x cN) 0 (nV x))), (2, .int (itr (f_X8_settle_7_2 x cN) 0 (nV x))), (0, .ref m0), (1, .int (nI cN))]) C.hx C.hb dX8_settle_262 hl (by decide) rfl (fun ls hl => ?_)
                  refine lv_aload_n C.hx C.hb dX8_settle_264 rfl (lv_at hl 4 rfl) ?_
                  refine g_get (k := 15) (v := .ref (am m0 15)) C hW.1 rfl wu_X8 (by decide) wf_X8_50 rfl rfl dX8_settle_265 ?_
                  refine lv_iload_n C.hx C.hb dX8_settle_268 rfl (lv_at hl 5 rfl) ?_
                  refine lv_iload_n C.hx C.hb dX8_settle_269 rfl (lv_at hl 3 rfl) ?_
                  refine lv_iload_n C.hx C.hb dX8_settle_270 rfl (lv_at hl 2 rfl) ?_
                  refine W.joinI (P := fun jv => jv = (if (itr (f_X8_settle_7_2 x cN) 0 (nV x)) ≤ (itr (f_X8_settle_7_3 x cN) 0 (nV x)) then (if v52 = 0 then 1 else 4 : Int32) else (if v52 = 0 then 2 else 5 : Int32) : Int32)) 297 ls [.int (nI cN), .ref (am m0 15)] (fun J56 => ?_) (fun v57 hv57 => ?_)
                  · refine lv_icmp_le (tgt := 287) C.hx C.hb dX8_settle_271 (by decide) (fun c53 => ?_) (fun c53 => ?_)
                    · refine lv_iload C.hx C.hb dX8_settle_287 (lv_at hl 0 rfl) ?_
                      refine lv_if_eq (tgt := 296) C.hx C.hb dX8_settle_289 (by decide) (fun c54 => ?_) (fun c54 => ?_)
                      · refine lv_iconst (v := 1) C.hx C.hb dX8_settle_296 (by decide) ?_
                        exact J56 _ (by rw [if_pos c53, if_pos c54])
                      · refine lv_iconst (v := 4) C.hx C.hb dX8_settle_292 (by decide) ?_
                        refine lv_goto (tgt := 297) C.hx C.hb dX8_settle_293 (by decide) ?_
                        exact J56 _ (by rw [if_pos c53, if_neg c54])
                    · refine lv_iload C.hx C.hb dX8_settle_274 (lv_at hl 0 rfl) ?_
                      refine lv_if_eq (tgt := 283) C.hx C.hb dX8_settle_276 (by decide) (fun c55 => ?_) (fun c55 => ?_)
                      · refine lv_iconst (v := 2) C.hx C.hb dX8_settle_283 (by decide) ?_
                        refine lv_goto (tgt := 297) C.hx C.hb dX8_settle_284 (by decide) ?_
                        exact J56 _ (by rw [if_neg c53, if_pos c55])
                      · refine lv_iconst (v := 5) C.hx C.hb dX8_settle_279 (by decide) ?_
                        refine lv_goto (tgt := 297) C.hx C.hb dX8_settle_280 (by decide) ?_
                        exact J56 _ (by rw [if_neg c53, if_neg c55])
                  · refine g_iast (f := x 15) (k := cN) C hS (hW.2.1 15 rfl) (am_A (Or.inl rfl)) rfl (show cN < 400 by omega) (by decide) dX8_settle_297 (fun H locs e1 o1 z1 hS => ?_)
                    have hW : MWd G m0 (up2 (up2 (up2 (up2 (up2 (up2 (up2 x 23 ((2 * cN) + (tn (s_X8_timeOf x cN))) v49) 24 cN (x 19 cN)) 25 cN (itr (f_X8_settle_7_2 x cN) 0 (nV x))) 26 cN (itr (f_X8_settle_7_3 x cN) 0 (nV x))) 21 cN ((x 21 cN) + 1)) 28 0 ((x 28 0) + 1)) 15 cN v57) z H := MWd.putA 15 hW rfl e1 o1 (mfs_up rfl) (by decide) (by decide)
                    refine lv_aload_n C.hx C.hb dX8_settle_298 rfl (lv_at hl 4 rfl) ?_
                    refine kVWn (As := []) (rest := []) C (cM_lookAtJudges l G m0 (up2 (up2 (up2 (up2 (up2 (up2 (up2 x 23 ((2 * cN) + (tn (s_X8_timeOf x cN))) v49) 24 cN (x 19 cN)) 25 cN (itr (f_X8_settle_7_2 x cN) 0 (nV x))) 26 cN (itr (f_X8_settle_7_3 x cN) 0 (nV x))) 21 cN ((x 21 cN) + 1)) 28 0 ((x 28 0) + 1)) 15 cN v57) z (MI.up (MI.up (MI.up (MI.up (MI.up (MI.up (MI.up hI rfl) rfl) rfl) rfl) rfl) rfl) rfl)) lk_X8_200 (g_recv C hW.1 rfl) hW rfl rfl hl (Nat.le_of_ble_eq_true rfl) dX8_settle_299 ⟨⟨by decide, by decide⟩, by decide, by decide⟩ hS (fun q h => h) (fun H locs hP hz1 hk1 hS => ?_)
                    have hW : MWd G m0 (sx_X8_lookAtJudges (up2 (up2 (up2 (up2 (up2 (up2 (up2 x 23 ((2 * cN) + (tn (s_X8_timeOf x cN))) v49) 24 cN (x 19 cN)) 25 cN (itr (f_X8_settle_7_2 x cN) 0 (nV x))) 26 cN (itr (f_X8_settle_7_3 x cN) 0 (nV x))) 21 cN ((x 21 cN) + 1)) 28 0 ((x 28 0) + 1)) 15 cN v57)) z H := hP
                    exact wV C hr dX8_settle_302 hS (by rw [hv57] at hW; rw [hv52] at hW; rw [hv49] at hW; rw [hv18] at c19; unfold sx_X8_settle; rw [if_pos c19, if_neg c32, if_pos c45]; exact hW)
            · refine lv_aload_n C.hx C.hb dX8_settle_156 rfl (lv_at hl 3 rfl) ?_
              refine g_get (k := 20) (v := .ref (am m0 20)) C hW.1 rfl wu_X8 (by decide) wf_X8_65 rfl rfl dX8_settle_157 ?_
              refine lv_iload_n C.hx C.hb dX8_settle_160 rfl (lv_at hl 4 rfl) ?_
              refine lv_dup2_11 C.hx C.hb dX8_settle_161 rfl rfl ?_
              refine g_iald (f := x 20) (k := cN) C (hW.2.1 20 rfl) rfl (show cN < 400 by omega) (by decide) dX8_settle_162 ?_
              refine lv_iconst (v := 1) C.hx C.hb dX8_settle_163 (by decide) ?_
              refine lv_iadd C.hx C.hb dX8_settle_164 ?_
              refine g_iast (f := x 20) (k := cN) C hS (hW.2.1 20 rfl) (am_A (Or.inl rfl)) rfl (show cN < 400 by omega) (by decide) dX8_settle_165 (fun H locs e1 o1 z1 hS => ?_)
              have hW : MWd G m0 (up2 x 20 cN ((x 20 cN) + 1)) z H := MWd.putA 20 hW rfl e1 o1 (mfs_up rfl) (by decide) (by decide)
              refine lv_aload_n C.hx C.hb dX8_settle_166 rfl (lv_at hl 3 rfl) ?_
              refine g_get (k := 19) (v := .ref (am m0 19)) C hW.1 rfl wu_X8 (by decide) wf_X8_62 rfl rfl dX8_settle_167 ?_
              refine lv_iload_n C.hx C.hb dX8_settle_170 rfl (lv_at hl 4 rfl) ?_
              refine lv_dup2_11 C.hx C.hb dX8_settle_171 rfl rfl ?_
              refine g_iald (f := x 19) (k := cN) C (hW.2.1 19 rfl) rfl (show cN < 400 by omega) (by decide) dX8_settle_172 ?_
              refine lv_iconst (v := 2) C.hx C.hb dX8_settle_173 (by decide) ?_
              refine lv_iadd C.hx C.hb dX8_settle_174 ?_
              refine g_iast (f := x 19) (k := cN) C hS (hW.2.1 19 rfl) (am_A (Or.inl rfl)) rfl (show cN < 400 by omega) (by decide) dX8_settle_175 (fun H locs e1 o1 z1 hS => ?_)
              have hW : MWd G m0 (up2 (up2 x 20 cN ((x 20 cN) + 1)) 19 cN ((x 19 cN) + 2)) z H := MWd.putA 19 hW rfl e1 o1 (mfs_up rfl) (by decide) (by decide)
              exact wV C hr dX8_settle_176 hS (by rw [hv18] at c19; unfold sx_X8_settle; rw [if_pos c19, if_neg c32, if_neg c45]; exact hW)
    · exact absurd (le_eqn eV) c14
