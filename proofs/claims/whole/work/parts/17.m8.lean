def mfsP (m0 : Nat) (x : XX) (t : Nat) : List Value := [.int (x 0 0), (if 0 < t then .ref (am m0 1) else .null), (if 1 < t then .ref (am m0 2) else .null), (if 2 < t then .ref (am m0 3) else .null), (if 3 < t then .ref (am m0 4) else .null), .int (x 5 0), .int (x 6 0), .int (x 7 0), (if 4 < t then .ref (am m0 8) else .null), (if 5 < t then .ref (am m0 9) else .null), (if 6 < t then .ref (am m0 10) else .null), (if 7 < t then .ref (am m0 11) else .null), .int (x 12 0), (if 8 < t then .ref (am m0 13) else .null), (if 9 < t then .ref (am m0 14) else .null), (if 10 < t then .ref (am m0 15) else .null), (if 11 < t then .ref (am m0 16) else .null), (if 12 < t then .ref (am m0 17) else .null), (if 13 < t then .ref (am m0 18) else .null), (if 14 < t then .ref (am m0 19) else .null), (if 15 < t then .ref (am m0 20) else .null), (if 16 < t then .ref (am m0 21) else .null), (if 17 < t then .ref (am m0 22) else .null), (if 18 < t then .ref (am m0 23) else .null), (if 19 < t then .ref (am m0 24) else .null), (if 20 < t then .ref (am m0 25) else .null), (if 21 < t then .ref (am m0 26) else .null), .int (x 27 0), .int (x 28 0), (if 22 < t then .ref (am m0 29) else .null), (if 23 < t then .ref (am m0 30) else .null), (if 24 < t then .ref (am m0 31) else .null), (if 25 < t then .ref (am m0 32) else .null), (if 26 < t then .ref (am m0 33) else .null), (if 27 < t then .ref (am m0 34) else .null), (if 28 < t then .ref (am m0 35) else .null), .int (x 36 0), (if 29 < t then .ref (am m0 37) else .null), (if 30 < t then .ref (am m0 38) else .null), (if 31 < t then .ref (am m0 39) else .null), (if 32 < t then .ref (am m0 40) else .null), (if 33 < t then .ref (am m0 41) else .null), .int (x 42 0), (if 34 < t then .ref (am m0 43) else .null), (if 35 < t then .ref (am m0 44) else .null), (if 36 < t then .ref (am m0 45) else .null), .int (x 46 0)]
def MB (m0 : Nat) : Nat → Prop := fun q => m0 ≤ q
theorem MB_of {m0 q : Nat} (h : MA m0 q) : MB m0 q := h.1
/-- the object with its first t arrays -/
def PWd (G : GG) (m0 : Nat) (x : XX) (t : Nat) (H : Heap) : Prop :=
  va_at G.1 vwCl (m0, .inr (9, mfsP m0 x t)) H ∧ (∀ k, isI k = true → rkL.getD k 0 < t → va_at G.1 vwCl (am m0 k, .inl (G.2 0, ln k, .inl (fun _ => 0))) H) ∧ (rkL.getD 30 0 < t → va_at G.1 vwCl (am m0 30, .inl (G.2 1, 20, .inr (.inl (fun _ => 0)))) H) ∧ (rkL.getD 33 0 < t → va_at G.1 vwCl (am m0 33, .inl (G.2 2, 20, .inl (fun _ => 0))) H) ∧ H.size = m0 + 1 + t
section PWS
variable {G : GG} {m0 t : Nat} {x : XX} {H H1 H2 : Heap}
theorem PWd.putS (k : Nat) {v : Int32} {x' : XX} (h : PWd G m0 x t H) (e : va_at G.1 vwCl (m0, .inr (9, (mfsP m0 x t).set k (.int v))) H1) (o : ∀ q, q ≠ m0 → H1[q]? = H[q]?) (z1 : H1.size = H.size) (hs : (mfsP m0 x t).set k (.int v) = mfsP m0 x' t) : PWd G m0 x' t H1 :=
  ⟨by rw [← hs]; exact e, fun k' hk' ht => (h.2.1 k' hk' ht).kept (o _ am_m0), fun ht => (h.2.2.1 ht).kept (o _ am_m0), fun ht => (h.2.2.2.1 ht).kept (o _ am_m0), by rw [z1]; exact h.2.2.2.2⟩
theorem PWd.putA (k : Nat) (h : PWd G m0 x t H) (hk : isI k = true) (hr : rkL.getD k 0 = t) (ea : va_at G.1 vwCl (am m0 k, .inl (G.2 0, ln k, .inl (fun _ => 0))) H1) (o1 : ∀ q, q < H.size → H1[q]? = H[q]?) (z1 : H1.size = H.size + 1)
    (eo : va_at G.1 vwCl (m0, .inr (9, (mfsP m0 x t).set k (.ref (am m0 k)))) H2) (o2 : ∀ q, q ≠ m0 → H2[q]? = H1[q]?) (z2 : H2.size = H1.size) (hs : (mfsP m0 x t).set k (.ref (am m0 k)) = mfsP m0 x (t + 1)) (h30 : rkL.getD 30 0 ≠ t) (h33 : rkL.getD 33 0 ≠ t) : PWd G m0 x (t + 1) H2 := by
  refine ⟨by rw [← hs]; exact eo, fun k' hk' ht => ?_, fun ht => ?_, fun ht => ?_, by rw [z2, z1, h.2.2.2.2]; omega⟩
  · by_cases q : k' = k
    · subst q
      exact ea.kept (o2 _ am_m0)
    · have hne := am_inj k (isI_lt hk) k' (isI_lt hk') (Or.inl hk) (Or.inl hk') q
      have hv := h.2.1 k' hk' (by omega)
      exact (hv.kept (o1 _ hv.lt)).kept (o2 _ am_m0)
  · have hv := h.2.2.1 (by omega)
    exact (hv.kept (o1 _ hv.lt)).kept (o2 _ am_m0)
  · have hv := h.2.2.2.1 (by omega)
    exact (hv.kept (o1 _ hv.lt)).kept (o2 _ am_m0)
theorem PWd.putL (h : PWd G m0 x t H) (hr : rkL.getD 30 0 = t) (ea : va_at G.1 vwCl (am m0 30, .inl (G.2 1, 20, .inr (.inl (fun _ => 0)))) H1) (o1 : ∀ q, q < H.size → H1[q]? = H[q]?) (z1 : H1.size = H.size + 1)
    (eo : va_at G.1 vwCl (m0, .inr (9, (mfsP m0 x t).set 30 (.ref (am m0 30)))) H2) (o2 : ∀ q, q ≠ m0 → H2[q]? = H1[q]?) (z2 : H2.size = H1.size) (hs : (mfsP m0 x t).set 30 (.ref (am m0 30)) = mfsP m0 x (t + 1)) (h33 : rkL.getD 33 0 ≠ t) : PWd G m0 x (t + 1) H2 := by
  refine ⟨by rw [← hs]; exact eo, fun k' hk' ht => ?_, fun ht => ea.kept (o2 _ am_m0), fun ht => ?_, by rw [z2, z1, h.2.2.2.2]; omega⟩
  · have hne := am_inj 30 (by decide) k' (isI_lt hk') (Or.inr (Or.inl rfl)) (Or.inl hk') (fun q => by rw [q] at hk'; cases hk')
    have hv := h.2.1 k' hk' (by omega)
    exact (hv.kept (o1 _ hv.lt)).kept (o2 _ am_m0)
  · have hv := h.2.2.2.1 (by omega)
    exact (hv.kept (o1 _ hv.lt)).kept (o2 _ am_m0)
theorem PWd.putZ (h : PWd G m0 x t H) (hr : rkL.getD 33 0 = t) (ea : va_at G.1 vwCl (am m0 33, .inl (G.2 2, 20, .inl (fun _ => 0))) H1) (o1 : ∀ q, q < H.size → H1[q]? = H[q]?) (z1 : H1.size = H.size + 1)
    (eo : va_at G.1 vwCl (m0, .inr (9, (mfsP m0 x t).set 33 (.ref (am m0 33)))) H2) (o2 : ∀ q, q ≠ m0 → H2[q]? = H1[q]?) (z2 : H2.size = H1.size) (hs : (mfsP m0 x t).set 33 (.ref (am m0 33)) = mfsP m0 x (t + 1)) (h30 : rkL.getD 30 0 ≠ t) : PWd G m0 x (t + 1) H2 := by
  refine ⟨by rw [← hs]; exact eo, fun k' hk' ht => ?_, fun ht => ?_, fun ht => ea.kept (o2 _ am_m0), by rw [z2, z1, h.2.2.2.2]; omega⟩
  · have hne := am_inj 33 (by decide) k' (isI_lt hk') (Or.inr (Or.inr rfl)) (Or.inl hk') (fun q => by rw [q] at hk'; cases hk')
    have hv := h.2.1 k' hk' (by omega)
    exact (hv.kept (o1 _ hv.lt)).kept (o2 _ am_m0)
  · have hv := h.2.2.1 (by omega)
    exact (hv.kept (o1 _ hv.lt)).kept (o2 _ am_m0)
end PWS
def x00 : XX := fun _ _ => 0
def x01 : XX := up2 (up2 (up2 x00 5 0 100) 6 0 10) 7 0 100
theorem x01_ar {k : Nat} (h : isI k = true ∨ k = 33) : x01 k = fun _ => 0 := by
  unfold x01
  have h5 : k ≠ 5 := fun q => by rw [q] at h; rcases h with h | h <;> cases h
  have h6 : k ≠ 6 := fun q => by rw [q] at h; rcases h with h | h <;> cases h
  have h7 : k ≠ 7 := fun q => by rw [q] at h; rcases h with h | h <;> cases h
  rw [up2_ne h7, up2_ne h6, up2_ne h5]
  rfl
theorem PWd.full {G : GG} {m0 : Nat} {H : Heap} (h : PWd G m0 x01 37 H) : MWd G m0 x01 (fun _ => 0) H :=
  ⟨h.1, fun k hk => by rw [x01_ar (Or.inl hk)]; exact h.2.1 k hk (am_rk k (isI_lt hk)), h.2.2.1 (by decide), by rw [x01_ar (Or.inr rfl)]; exact h.2.2.2.1 (by decide)⟩
/-- a state that is written place by place -/
def itX (g : Nat → XX → XX) (x : XX) : Nat → XX
  | 0 => x
  | n + 1 => g n (itX g x n)
def g_harm : Nat → XX → XX := fun i X => up2 X 2 i 1
def g_judge : Nat → XX → XX := fun i X => up2 (up2 X 31 i 2) 32 i 1
def g_due : Nat → XX → XX := fun i X => up2 X 4 i (10 * (nI i + 1))
def x02 : XX := itX g_due (itX g_judge (itX g_harm x01 8) 20) 3
abbrev rmI : Room := { frames := 1, cells := 37, slots := 49327, locals := 40 }
set_option maxRecDepth 100000 in
set_option maxHeartbeats 2000000 in
theorem cM_init (l : Launch) (G : GG) (m0 : Nat) : Met l yX8_init (wd yX8_init cX8_init 2 none) rmI (Pk G [.ref m0] (fun H => va_at G.1 vwCl (m0, .inr (9, mfsP m0 x00 0)) H ∧ H.size = m0 + 1)) (Wr none (fun H => MWd G m0 x02 (fun _ => 0) H ∧ H.size = m0 + 38) (MB m0)) 37 49327 (MB m0) := by
  show MW l G yX8_init cX8_init 2 none 1 [.ref m0] _ none _ (MB m0) 37 49327
  refine MW.of RX8 rfl (by decide) (Nat.le_of_ble_eq_true rfl) ?_
  intro p_ e_ s_ m_ args_ below_ meth_ c_ ls hargs C hr hnm hP0 hS hl
  have hl : lv_has ls 2 [(0, .ref m0)] := hl
  have hP : PWd G m0 x00 0 s_.heap := ⟨hP0.1, fun _ _ h => absurd h (Nat.not_lt_zero _), fun h => absurd h (Nat.not_lt_zero _), fun h => absurd h (Nat.not_lt_zero _), hP0.2⟩
  refine lv_aload_n C.hx C.hb dX8_init_0 rfl (lv_at hl 0 rfl) ?_
  refine W.objInit C.hx C.hb C.hown (C.hT _ oi_X8_1) (C.hT _ oi_i) (C.hT _ oi_c) rfl (by rw [C.hml]; exact hl.1) rfl dX8_init_1 (by decide) (Nat.le_of_ble_eq_true rfl) ?_
  refine W.eq (g2 := F0 m_ 4 ls []) rfl ?_
  refine lv_aload_n C.hx C.hb dX8_init_4 rfl (lv_at hl 0 rfl) ?_
  refine lv_bipush (v := 8) C.hx C.hb dX8_init_5 (by decide) ?_
  refine g_newa (ty := .int) (t0 := 0) (N := 8) (a0 := (8, .inl (fun _ => 0))) C hS rfl wa_int rfl (fun h => h) (by decide) (by decide) rfl (by decide) (by decide) (by decide) dX8_init_7 (fun H1 ea oa za hS => ?_)
  rw [show _ = am m0 1 from hP.2.2.2.2] at ea ⊢
  refine g_putF (k := 1) tyX8 C hS (hP.1.kept (oa _ (by rw [hP.2.2.2.2]; omega))) (Nat.le_refl m0) rfl wu_X8 tyX8_ok nmX8 (by decide) wf_X8_9 rfl rfl hnm rfl rfl rfl (Nat.le_of_ble_eq_true rfl) dX8_init_9 (fun H2 locs eo oo zo hS => ?_)
  have hP : PWd G m0 x00 1 H2 := PWd.putA 1 hP rfl rfl ea oa za eo oo zo rfl (by decide) (by decide)
  refine lv_aload_n C.hx C.hb dX8_init_12 rfl (lv_at hl 0 rfl) ?_
  refine lv_bipush (v := 8) C.hx C.hb dX8_init_13 (by decide) ?_
  refine g_newa (ty := .int) (t0 := 0) (N := 8) (a0 := (8, .inl (fun _ => 0))) C hS rfl wa_int rfl (fun h => h) (by decide) (by decide) rfl (by decide) (by decide) (by decide) dX8_init_15 (fun H1 ea oa za hS => ?_)
  rw [show _ = am m0 2 from hP.2.2.2.2] at ea ⊢
  refine g_putF (k := 2) tyX8 C hS (hP.1.kept (oa _ (by rw [hP.2.2.2.2]; omega))) (Nat.le_refl m0) rfl wu_X8 tyX8_ok nmX8 (by decide) wf_X8_13 rfl rfl hnm rfl rfl rfl (Nat.le_of_ble_eq_true rfl) dX8_init_17 (fun H2 locs eo oo zo hS => ?_)
  have hP : PWd G m0 x00 2 H2 := PWd.putA 2 hP rfl rfl ea oa za eo oo zo rfl (by decide) (by decide)
  refine lv_aload_n C.hx C.hb dX8_init_20 rfl (lv_at hl 0 rfl) ?_
  refine lv_bipush (v := 8) C.hx C.hb dX8_init_21 (by decide) ?_
  refine g_newa (ty := .int) (t0 := 0) (N := 8) (a0 := (8, .inl (fun _ => 0))) C hS rfl wa_int rfl (fun h => h) (by decide) (by decide) rfl (by decide) (by decide) (by decide) dX8_init_23 (fun H1 ea oa za hS => ?_)
  rw [show _ = am m0 3 from hP.2.2.2.2] at ea ⊢
  refine g_putF (k := 3) tyX8 C hS (hP.1.kept (oa _ (by rw [hP.2.2.2.2]; omega))) (Nat.le_refl m0) rfl wu_X8 tyX8_ok nmX8 (by decide) wf_X8_16 rfl rfl hnm rfl rfl rfl (Nat.le_of_ble_eq_true rfl) dX8_init_25 (fun H2 locs eo oo zo hS => ?_)
  have hP : PWd G m0 x00 3 H2 := PWd.putA 3 hP rfl rfl ea oa za eo oo zo rfl (by decide) (by decide)
  refine lv_aload_n C.hx C.hb dX8_init_28 rfl (lv_at hl 0 rfl) ?_
  refine lv_iconst (v := 3) C.hx C.hb dX8_init_29 (by decide) ?_
  refine g_newa (ty := .int) (t0 := 0) (N := 3) (a0 := (3, .inl (fun _ => 0))) C hS rfl wa_int rfl (fun h => h) (by decide) (by decide) rfl (by decide) (by decide) (by decide) dX8_init_30 (fun H1 ea oa za hS => ?_)
  rw [show _ = am m0 4 from hP.2.2.2.2] at ea ⊢
  refine g_putF (k := 4) tyX8 C hS (hP.1.kept (oa _ (by rw [hP.2.2.2.2]; omega))) (Nat.le_refl m0) rfl wu_X8 tyX8_ok nmX8 (by decide) wf_X8_19 rfl rfl hnm rfl rfl rfl (Nat.le_of_ble_eq_true rfl) dX8_init_32 (fun H2 locs eo oo zo hS => ?_)
  have hP : PWd G m0 x00 4 H2 := PWd.putA 4 hP rfl rfl ea oa za eo oo zo rfl (by decide) (by decide)
  refine lv_aload_n C.hx C.hb dX8_init_35 rfl (lv_at hl 0 rfl) ?_
  refine lv_bipush (v := 100) C.hx C.hb dX8_init_36 (by decide) ?_
  refine g_put (k := 5) tyX8 C hS hP.1 (Nat.le_refl m0) rfl wu_X8 tyX8_ok nmX8 (by decide) wf_X8_22 rfl rfl rfl rfl rfl (Nat.le_of_ble_eq_true rfl) dX8_init_38 (fun H locs e1 o1 z1 hS => ?_)
  have hP : PWd G m0 (up2 x00 5 0 100) 4 H := PWd.putS 5 hP e1 o1 z1 rfl
  refine lv_aload_n C.hx C.hb dX8_init_41 rfl (lv_at hl 0 rfl) ?_
  refine lv_bipush (v := 10) C.hx C.hb dX8_init_42 (by decide) ?_
  refine g_put (k := 6) tyX8 C hS hP.1 (Nat.le_refl m0) rfl wu_X8 tyX8_ok nmX8 (by decide) wf_X8_26 rfl rfl rfl rfl rfl (Nat.le_of_ble_eq_true rfl) dX8_init_44 (fun H locs e1 o1 z1 hS => ?_)
  have hP : PWd G m0 (up2 (up2 x00 5 0 100) 6 0 10) 4 H := PWd.putS 6 hP e1 o1 z1 rfl
  refine lv_aload_n C.hx C.hb dX8_init_47 rfl (lv_at hl 0 rfl) ?_
  refine lv_bipush (v := 100) C.hx C.hb dX8_init_48 (by decide) ?_
  refine g_put (k := 7) tyX8 C hS hP.1 (Nat.le_refl m0) rfl wu_X8 tyX8_ok nmX8 (by decide) wf_X8_29 rfl rfl rfl rfl rfl (Nat.le_of_ble_eq_true rfl) dX8_init_50 (fun H locs e1 o1 z1 hS => ?_)
  have hP : PWd G m0 (up2 (up2 (up2 x00 5 0 100) 6 0 10) 7 0 100) 4 H := PWd.putS 7 hP e1 o1 z1 rfl
  refine lv_aload_n C.hx C.hb dX8_init_53 rfl (lv_at hl 0 rfl) ?_
  refine lv_sipush (v := 300) C.hx C.hb dX8_init_54 (by decide) ?_
  refine g_newa (ty := .int) (t0 := 0) (N := 300) (a0 := (300, .inl (fun _ => 0))) C hS rfl wa_int rfl (fun h => h) (by decide) (by decide) rfl (by decide) (by decide) (by decide) dX8_init_57 (fun H1 ea oa za hS => ?_)
  rw [show _ = am m0 8 from hP.2.2.2.2] at ea ⊢
  refine g_putF (k := 8) tyX8 C hS (hP.1.kept (oa _ (by rw [hP.2.2.2.2]; omega))) (Nat.le_refl m0) rfl wu_X8 tyX8_ok nmX8 (by decide) wf_X8_32 rfl rfl hnm rfl rfl rfl (Nat.le_of_ble_eq_true rfl) dX8_init_59 (fun H2 locs eo oo zo hS => ?_)
  have hP : PWd G m0 (up2 (up2 (up2 x00 5 0 100) 6 0 10) 7 0 100) 5 H2 := PWd.putA 8 hP rfl rfl ea oa za eo oo zo rfl (by decide) (by decide)
  refine lv_aload_n C.hx C.hb dX8_init_62 rfl (lv_at hl 0 rfl) ?_
  refine lv_sipush (v := 300) C.hx C.hb dX8_init_63 (by decide) ?_
  refine g_newa (ty := .int) (t0 := 0) (N := 300) (a0 := (300, .inl (fun _ => 0))) C hS rfl wa_int rfl (fun h => h) (by decide) (by decide) rfl (by decide) (by decide) (by decide) dX8_init_66 (fun H1 ea oa za hS => ?_)
  rw [show _ = am m0 9 from hP.2.2.2.2] at ea ⊢
  refine g_putF (k := 9) tyX8 C hS (hP.1.kept (oa _ (by rw [hP.2.2.2.2]; omega))) (Nat.le_refl m0) rfl wu_X8 tyX8_ok nmX8 (by decide) wf_X8_35 rfl rfl hnm rfl rfl rfl (Nat.le_of_ble_eq_true rfl) dX8_init_68 (fun H2 locs eo oo zo hS => ?_)
  have hP : PWd G m0 (up2 (up2 (up2 x00 5 0 100) 6 0 10) 7 0 100) 6 H2 := PWd.putA 9 hP rfl rfl ea oa za eo oo zo rfl (by decide) (by decide)
  refine lv_aload_n C.hx C.hb dX8_init_71 rfl (lv_at hl 0 rfl) ?_
  refine lv_sipush (v := 300) C.hx C.hb dX8_init_72 (by decide) ?_
  refine g_newa (ty := .int) (t0 := 0) (N := 300) (a0 := (300, .inl (fun _ => 0))) C hS rfl wa_int rfl (fun h => h) (by decide) (by decide) rfl (by decide) (by decide) (by decide) dX8_init_75 (fun H1 ea oa za hS => ?_)
  rw [show _ = am m0 10 from hP.2.2.2.2] at ea ⊢
  refine g_putF (k := 10) tyX8 C hS (hP.1.kept (oa _ (by rw [hP.2.2.2.2]; omega))) (Nat.le_refl m0) rfl wu_X8 tyX8_ok nmX8 (by decide) wf_X8_38 rfl rfl hnm rfl rfl rfl (Nat.le_of_ble_eq_true rfl) dX8_init_77 (fun H2 locs eo oo zo hS => ?_)
  have hP : PWd G m0 (up2 (up2 (up2 x00 5 0 100) 6 0 10) 7 0 100) 7 H2 := PWd.putA 10 hP rfl rfl ea oa za eo oo zo rfl (by decide) (by decide)
  refine lv_aload_n C.hx C.hb dX8_init_80 rfl (lv_at hl 0 rfl) ?_
  refine lv_sipush (v := 300) C.hx C.hb dX8_init_81 (by decide) ?_
  refine g_newa (ty := .int) (t0 := 0) (N := 300) (a0 := (300, .inl (fun _ => 0))) C hS rfl wa_int rfl (fun h => h) (by decide) (by decide) rfl (by decide) (by decide) (by decide) dX8_init_84 (fun H1 ea oa za hS => ?_)
  rw [show _ = am m0 11 from hP.2.2.2.2] at ea ⊢
  refine g_putF (k := 11) tyX8 C hS (hP.1.kept (oa _ (by rw [hP.2.2.2.2]; omega))) (Nat.le_refl m0) rfl wu_X8 tyX8_ok nmX8 (by decide) wf_X8_41 rfl rfl hnm rfl rfl rfl (Nat.le_of_ble_eq_true rfl) dX8_init_86 (fun H2 locs eo oo zo hS => ?_)
  have hP : PWd G m0 (up2 (up2 (up2 x00 5 0 100) 6 0 10) 7 0 100) 8 H2 := PWd.putA 11 hP rfl rfl ea oa za eo oo zo rfl (by decide) (by decide)
  refine lv_aload_n C.hx C.hb dX8_init_89 rfl (lv_at hl 0 rfl) ?_
  refine lv_sipush (v := 400) C.hx C.hb dX8_init_90 (by decide) ?_
  refine g_newa (ty := .int) (t0 := 0) (N := 400) (a0 := (400, .inl (fun _ => 0))) C hS rfl wa_int rfl (fun h => h) (by decide) (by decide) rfl (by decide) (by decide) (by decide) dX8_init_93 (fun H1 ea oa za hS => ?_)
  rw [show _ = am m0 13 from hP.2.2.2.2] at ea ⊢
  refine g_putF (k := 13) tyX8 C hS (hP.1.kept (oa _ (by rw [hP.2.2.2.2]; omega))) (Nat.le_refl m0) rfl wu_X8 tyX8_ok nmX8 (by decide) wf_X8_44 rfl rfl hnm rfl rfl rfl (Nat.le_of_ble_eq_true rfl) dX8_init_95 (fun H2 locs eo oo zo hS => ?_)
  have hP : PWd G m0 (up2 (up2 (up2 x00 5 0 100) 6 0 10) 7 0 100) 9 H2 := PWd.putA 13 hP rfl rfl ea oa za eo oo zo rfl (by decide) (by decide)
  refine lv_aload_n C.hx C.hb dX8_init_98 rfl (lv_at hl 0 rfl) ?_
  refine lv_sipush (v := 400) C.hx C.hb dX8_init_99 (by decide) ?_
  refine g_newa (ty := .int) (t0 := 0) (N := 400) (a0 := (400, .inl (fun _ => 0))) C hS rfl wa_int rfl (fun h => h) (by decide) (by decide) rfl (by decide) (by decide) (by decide) dX8_init_102 (fun H1 ea oa za hS => ?_)
  rw [show _ = am m0 14 from hP.2.2.2.2] at ea ⊢
  refine g_putF (k := 14) tyX8 C hS (hP.1.kept (oa _ (by rw [hP.2.2.2.2]; omega))) (Nat.le_refl m0) rfl wu_X8 tyX8_ok nmX8 (by decide) wf_X8_47 rfl rfl hnm rfl rfl rfl (Nat.le_of_ble_eq_true rfl) dX8_init_104 (fun H2 locs eo oo zo hS => ?_)
  have hP : PWd G m0 (up2 (up2 (up2 x00 5 0 100) 6 0 10) 7 0 100) 10 H2 := PWd.putA 14 hP rfl rfl ea oa za eo oo zo rfl (by decide) (by decide)
  refine lv_aload_n C.hx C.hb dX8_init_107 rfl (lv_at hl 0 rfl) ?_
  refine lv_sipush (v := 400) C.hx C.hb dX8_init_108 (by decide) ?_
  refine g_newa (ty := .int) (t0 := 0) (N := 400) (a0 := (400, .inl (fun _ => 0))) C hS rfl wa_int rfl (fun h => h) (by decide) (by decide) rfl (by decide) (by decide) (by decide) dX8_init_111 (fun H1 ea oa za hS => ?_)
  rw [show _ = am m0 15 from hP.2.2.2.2] at ea ⊢
  refine g_putF (k := 15) tyX8 C hS (hP.1.kept (oa _ (by rw [hP.2.2.2.2]; omega))) (Nat.le_refl m0) rfl wu_X8 tyX8_ok nmX8 (by decide) wf_X8_50 rfl rfl hnm rfl rfl rfl (Nat.le_of_ble_eq_true rfl) dX8_init_113 (fun H2 locs eo oo zo hS => ?_)
  have hP : PWd G m0 (up2 (up2 (up2 x00 5 0 100) 6 0 10) 7 0 100) 11 H2 := PWd.putA 15 hP rfl rfl ea oa za eo oo zo rfl (by decide) (by decide)
  refine lv_aload_n C.hx C.hb dX8_init_116 rfl (lv_at hl 0 rfl) ?_
  refine lv_sipush (v := 400) C.hx C.hb dX8_init_117 (by decide) ?_
  refine g_newa (ty := .int) (t0 := 0) (N := 400) (a0 := (400, .inl (fun _ => 0))) C hS rfl wa_int rfl (fun h => h) (by decide) (by decide) rfl (by decide) (by decide) (by decide) dX8_init_120 (fun H1 ea oa za hS => ?_)
  rw [show _ = am m0 16 from hP.2.2.2.2] at ea ⊢
  refine g_putF (k := 16) tyX8 C hS (hP.1.kept (oa _ (by rw [hP.2.2.2.2]; omega))) (Nat.le_refl m0) rfl wu_X8 tyX8_ok nmX8 (by decide) wf_X8_53 rfl rfl hnm rfl rfl rfl (Nat.le_of_ble_eq_true rfl) dX8_init_122 (fun H2 locs eo oo zo hS => ?_)
  have hP : PWd G m0 (up2 (up2 (up2 x00 5 0 100) 6 0 10) 7 0 100) 12 H2 := PWd.putA 16 hP rfl rfl ea oa za eo oo zo rfl (by decide) (by decide)
  refine lv_aload_n C.hx C.hb dX8_init_125 rfl (lv_at hl 0 rfl) ?_
  refine lv_sipush (v := 400) C.hx C.hb dX8_init_126 (by decide) ?_
  refine g_newa (ty := .int) (t0 := 0) (N := 400) (a0 := (400, .inl (fun _ => 0))) C hS rfl wa_int rfl (fun h => h) (by decide) (by decide) rfl (by decide) (by decide) (by decide) dX8_init_129 (fun H1 ea oa za hS => ?_)
  rw [show _ = am m0 17 from hP.2.2.2.2] at ea ⊢
  refine g_putF (k := 17) tyX8 C hS (hP.1.kept (oa _ (by rw [hP.2.2.2.2]; omega))) (Nat.le_refl m0) rfl wu_X8 tyX8_ok nmX8 (by decide) wf_X8_56 rfl rfl hnm rfl rfl rfl (Nat.le_of_ble_eq_true rfl) dX8_init_131 (fun H2 locs eo oo zo hS => ?_)
  have hP : PWd G m0 (up2 (up2 (up2 x00 5 0 100) 6 0 10) 7 0 100) 13 H2 := PWd.putA 17 hP rfl rfl ea oa za eo oo zo rfl (by decide) (by decide)
  refine lv_aload_n C.hx C.hb dX8_init_134 rfl (lv_at hl 0 rfl) ?_
  refine lv_sipush (v := 400) C.hx C.hb dX8_init_135 (by decide) ?_
  refine g_newa (ty := .int) (t0 := 0) (N := 400) (a0 := (400, .inl (fun _ => 0))) C hS rfl wa_int rfl (fun h => h) (by decide) (by decide) rfl (by decide) (by decide) (by decide) dX8_init_138 (fun H1 ea oa za hS => ?_)
  rw [show _ = am m0 18 from hP.2.2.2.2] at ea ⊢
  refine g_putF (k := 18) tyX8 C hS (hP.1.kept (oa _ (by rw [hP.2.2.2.2]; omega))) (Nat.le_refl m0) rfl wu_X8 tyX8_ok nmX8 (by decide) wf_X8_59 rfl rfl hnm rfl rfl rfl (Nat.le_of_ble_eq_true rfl) dX8_init_140 (fun H2 locs eo oo zo hS => ?_)
  have hP : PWd G m0 (up2 (up2 (up2 x00 5 0 100) 6 0 10) 7 0 100) 14 H2 := PWd.putA 18 hP rfl rfl ea oa za eo oo zo rfl (by decide) (by decide)
  refine lv_aload_n C.hx C.hb dX8_init_143 rfl (lv_at hl 0 rfl) ?_
  refine lv_sipush (v := 400) C.hx C.hb dX8_init_144 (by decide) ?_
  refine g_newa (ty := .int) (t0 := 0) (N := 400) (a0 := (400, .inl (fun _ => 0))) C hS rfl wa_int rfl (fun h => h) (by decide) (by decide) rfl (by decide) (by decide) (by decide) dX8_init_147 (fun H1 ea oa za hS => ?_)
  rw [show _ = am m0 19 from hP.2.2.2.2] at ea ⊢
  refine g_putF (k := 19) tyX8 C hS (hP.1.kept (oa _ (by rw [hP.2.2.2.2]; omega))) (Nat.le_refl m0) rfl wu_X8 tyX8_ok nmX8 (by decide) wf_X8_62 rfl rfl hnm rfl rfl rfl (Nat.le_of_ble_eq_true rfl) dX8_init_149 (fun H2 locs eo oo zo hS => ?_)
  have hP : PWd G m0 (up2 (up2 (up2 x00 5 0 100) 6 0 10) 7 0 100) 15 H2 := PWd.putA 19 hP rfl rfl ea oa za eo oo zo rfl (by decide) (by decide)
  refine lv_aload_n C.hx C.hb dX8_init_152 rfl (lv_at hl 0 rfl) ?_
  refine lv_sipush (v := 400) C.hx C.hb dX8_init_153 (by decide) ?_
  refine g_newa (ty := .int) (t0 := 0) (N := 400) (a0 := (400, .inl (fun _ => 0))) C hS rfl wa_int rfl (fun h => h) (by decide) (by decide) rfl (by decide) (by decide) (by decide) dX8_init_156 (fun H1 ea oa za hS => ?_)
  rw [show _ = am m0 20 from hP.2.2.2.2] at ea ⊢
  refine g_putF (k := 20) tyX8 C hS (hP.1.kept (oa _ (by rw [hP.2.2.2.2]; omega))) (Nat.le_refl m0) rfl wu_X8 tyX8_ok nmX8 (by decide) wf_X8_65 rfl rfl hnm rfl rfl rfl (Nat.le_of_ble_eq_true rfl) dX8_init_158 (fun H2 locs eo oo zo hS => ?_)
  have hP : PWd G m0 (up2 (up2 (up2 x00 5 0 100) 6 0 10) 7 0 100) 16 H2 := PWd.putA 20 hP rfl rfl ea oa za eo oo zo rfl (by decide) (by decide)
  refine lv_aload_n C.hx C.hb dX8_init_161 rfl (lv_at hl 0 rfl) ?_
  refine lv_sipush (v := 400) C.hx C.hb dX8_init_162 (by decide) ?_
  refine g_newa (ty := .int) (t0 := 0) (N := 400) (a0 := (400, .inl (fun _ => 0))) C hS rfl wa_int rfl (fun h => h) (by decide) (by decide) rfl (by decide) (by decide) (by decide) dX8_init_165 (fun H1 ea oa za hS => ?_)
  rw [show _ = am m0 21 from hP.2.2.2.2] at ea ⊢
  refine g_putF (k := 21) tyX8 C hS (hP.1.kept (oa _ (by rw [hP.2.2.2.2]; omega))) (Nat.le_refl m0) rfl wu_X8 tyX8_ok nmX8 (by decide) wf_X8_68 rfl rfl hnm rfl rfl rfl (Nat.le_of_ble_eq_true rfl) dX8_init_167 (fun H2 locs eo oo zo hS => ?_)
  have hP : PWd G m0 (up2 (up2 (up2 x00 5 0 100) 6 0 10) 7 0 100) 17 H2 := PWd.putA 21 hP rfl rfl ea oa za eo oo zo rfl (by decide) (by decide)
  refine lv_aload_n C.hx C.hb dX8_init_170 rfl (lv_at hl 0 rfl) ?_
  refine lv_sipush (v := 400) C.hx C.hb dX8_init_171 (by decide) ?_
  refine g_newa (ty := .int) (t0 := 0) (N := 400) (a0 := (400, .inl (fun _ => 0))) C hS rfl wa_int rfl (fun h => h) (by decide) (by decide) rfl (by decide) (by decide) (by decide) dX8_init_174 (fun H1 ea oa za hS => ?_)
  rw [show _ = am m0 22 from hP.2.2.2.2] at ea ⊢
  refine g_putF (k := 22) tyX8 C hS (hP.1.kept (oa _ (by rw [hP.2.2.2.2]; omega))) (Nat.le_refl m0) rfl wu_X8 tyX8_ok nmX8 (by decide) wf_X8_71 rfl rfl hnm rfl rfl rfl (Nat.le_of_ble_eq_true rfl) dX8_init_176 (fun H2 locs eo oo zo hS => ?_)
  have hP : PWd G m0 (up2 (up2 (up2 x00 5 0 100) 6 0 10) 7 0 100) 18 H2 := PWd.putA 22 hP rfl rfl ea oa za eo oo zo rfl (by decide) (by decide)
  refine lv_aload_n C.hx C.hb dX8_init_179 rfl (lv_at hl 0 rfl) ?_
  refine lv_sipush (v := 800) C.hx C.hb dX8_init_180 (by decide) ?_
  refine g_newa (ty := .int) (t0 := 0) (N := 800) (a0 := (800, .inl (fun _ => 0))) C hS rfl wa_int rfl (fun h => h) (by decide) (by decide) rfl (by decide) (by decide) (by decide) dX8_init_183 (fun H1 ea oa za hS => ?_)
  rw [show _ = am m0 23 from hP.2.2.2.2] at ea ⊢
  refine g_putF (k := 23) tyX8 C hS (hP.1.kept (oa _ (by rw [hP.2.2.2.2]; omega))) (Nat.le_refl m0) rfl wu_X8 tyX8_ok nmX8 (by decide) wf_X8_74 rfl rfl hnm rfl rfl rfl (Nat.le_of_ble_eq_true rfl) dX8_init_185 (fun H2 locs eo oo zo hS => ?_)
  have hP : PWd G m0 (up2 (up2 (up2 x00 5 0 100) 6 0 10) 7 0 100) 19 H2 := PWd.putA 23 hP rfl rfl ea oa za eo oo zo rfl (by decide) (by decide)
  refine lv_aload_n C.hx C.hb dX8_init_188 rfl (lv_at hl 0 rfl) ?_
  refine lv_sipush (v := 400) C.hx C.hb dX8_init_189 (by decide) ?_
  refine g_newa (ty := .int) (t0 := 0) (N := 400) (a0 := (400, .inl (fun _ => 0))) C hS rfl wa_int rfl (fun h => h) (by decide) (by decide) rfl (by decide) (by decide) (by decide) dX8_init_192 (fun H1 ea oa za hS => ?_)
  rw [show _ = am m0 24 from hP.2.2.2.2] at ea ⊢
  refine g_putF (k := 24) tyX8 C hS (hP.1.kept (oa _ (by rw [hP.2.2.2.2]; omega))) (Nat.le_refl m0) rfl wu_X8 tyX8_ok nmX8 (by decide) wf_X8_77 rfl rfl hnm rfl rfl rfl (Nat.le_of_ble_eq_true rfl) dX8_init_194 (fun H2 locs eo oo zo hS => ?_)
  have hP : PWd G m0 (up2 (up2 (up2 x00 5 0 100) 6 0 10) 7 0 100) 20 H2 := PWd.putA 24 hP rfl rfl ea oa za eo oo zo rfl (by decide) (by decide)
  refine lv_aload_n C.hx C.hb dX8_init_197 rfl (lv_at hl 0 rfl) ?_
  refine lv_sipush (v := 400) C.hx C.hb dX8_init_198 (by decide) ?_
  refine g_newa (ty := .int) (t0 := 0) (N := 400) (a0 := (400, .inl (fun _ => 0))) C hS rfl wa_int rfl (fun h => h) (by decide) (by decide) rfl (by decide) (by decide) (by decide) dX8_init_201 (fun H1 ea oa za hS => ?_)
  rw [show _ = am m0 25 from hP.2.2.2.2] at ea ⊢
  refine g_putF (k := 25) tyX8 C hS (hP.1.kept (oa _ (by rw [hP.2.2.2.2]; omega))) (Nat.le_refl m0) rfl wu_X8 tyX8_ok nmX8 (by decide) wf_X8_80 rfl rfl hnm rfl rfl rfl (Nat.le_of_ble_eq_true rfl) dX8_init_203 (fun H2 locs eo oo zo hS => ?_)
  have hP : PWd G m0 (up2 (up2 (up2 x00 5 0 100) 6 0 10) 7 0 100) 21 H2 := PWd.putA 25 hP rfl rfl ea oa za eo oo zo rfl (by decide) (by decide)
  refine lv_aload_n C.hx C.hb dX8_init_206 rfl (lv_at hl 0 rfl) ?_
  refine lv_sipush (v := 400) C.hx C.hb dX8_init_207 (by decide) ?_
  refine g_newa (ty := .int) (t0 := 0) (N := 400) (a0 := (400, .inl (fun _ => 0))) C hS rfl wa_int rfl (fun h => h) (by decide) (by decide) rfl (by decide) (by decide) (by decide) dX8_init_210 (fun H1 ea oa za hS => ?_)
  rw [show _ = am m0 26 from hP.2.2.2.2] at ea ⊢
  refine g_putF (k := 26) tyX8 C hS (hP.1.kept (oa _ (by rw [hP.2.2.2.2]; omega))) (Nat.le_refl m0) rfl wu_X8 tyX8_ok nmX8 (by decide) wf_X8_83 rfl rfl hnm rfl rfl rfl (Nat.le_of_ble_eq_true rfl) dX8_init_212 (fun H2 locs eo oo zo hS => ?_)
  have hP : PWd G m0 (up2 (up2 (up2 x00 5 0 100) 6 0 10) 7 0 100) 22 H2 := PWd.putA 26 hP rfl rfl ea oa za eo oo zo rfl (by decide) (by decide)
  refine lv_aload_n C.hx C.hb dX8_init_215 rfl (lv_at hl 0 rfl) ?_
  refine lv_bipush (v := 20) C.hx C.hb dX8_init_216 (by decide) ?_
  refine g_newa (ty := .int) (t0 := 0) (N := 20) (a0 := (20, .inl (fun _ => 0))) C hS rfl wa_int rfl (fun h => h) (by decide) (by decide) rfl (by decide) (by decide) (by decide) dX8_init_218 (fun H1 ea oa za hS => ?_)
  rw [show _ = am m0 29 from hP.2.2.2.2] at ea ⊢
  refine g_putF (k := 29) tyX8 C hS (hP.1.kept (oa _ (by rw [hP.2.2.2.2]; omega))) (Nat.le_refl m0) rfl wu_X8 tyX8_ok nmX8 (by decide) wf_X8_86 rfl rfl hnm rfl rfl rfl (Nat.le_of_ble_eq_true rfl) dX8_init_220 (fun H2 locs eo oo zo hS => ?_)
  have hP : PWd G m0 (up2 (up2 (up2 x00 5 0 100) 6 0 10) 7 0 100) 23 H2 := PWd.putA 29 hP rfl rfl ea oa za eo oo zo rfl (by decide) (by decide)
  refine lv_aload_n C.hx C.hb dX8_init_223 rfl (lv_at hl 0 rfl) ?_
  refine lv_bipush (v := 20) C.hx C.hb dX8_init_224 (by decide) ?_
  refine g_newa (ty := .long) (t0 := 1) (N := 20) (a0 := (20, .inr (.inl (fun _ => 0)))) C hS rfl wa_long rfl (fun h => h) (by decide) (by decide) rfl (by decide) (by decide) (by decide) dX8_init_226 (fun H1 ea oa za hS => ?_)
  rw [show _ = am m0 30 from hP.2.2.2.2] at ea ⊢
  refine g_putF (k := 30) tyX8 C hS (hP.1.kept (oa _ (by rw [hP.2.2.2.2]; omega))) (Nat.le_refl m0) rfl wu_X8 tyX8_ok nmX8 (by decide) wf_X8_89 rfl rfl hnm rfl rfl rfl (Nat.le_of_ble_eq_true rfl) dX8_init_228 (fun H2 locs eo oo zo hS => ?_)
  have hP : PWd G m0 (up2 (up2 (up2 x00 5 0 100) 6 0 10) 7 0 100) 24 H2 := PWd.putL hP rfl ea oa za eo oo zo rfl (by decide)
  refine lv_aload_n C.hx C.hb dX8_init_231 rfl (lv_at hl 0 rfl) ?_
  refine lv_bipush (v := 20) C.hx C.hb dX8_init_232 (by decide) ?_
  refine g_newa (ty := .int) (t0 := 0) (N := 20) (a0 := (20, .inl (fun _ => 0))) C hS rfl wa_int rfl (fun h => h) (by decide) (by decide) rfl (by decide) (by decide) (by decide) dX8_init_234 (fun H1 ea oa za hS => ?_)
  rw [show _ = am m0 31 from hP.2.2.2.2] at ea ⊢
  refine g_putF (k := 31) tyX8 C hS (hP.1.kept (oa _ (by rw [hP.2.2.2.2]; omega))) (Nat.le_refl m0) rfl wu_X8 tyX8_ok nmX8 (by decide) wf_X8_93 rfl rfl hnm rfl rfl rfl (Nat.le_of_ble_eq_true rfl) dX8_init_236 (fun H2 locs eo oo zo hS => ?_)
  have hP : PWd G m0 (up2 (up2 (up2 x00 5 0 100) 6 0 10) 7 0 100) 25 H2 := PWd.putA 31 hP rfl rfl ea oa za eo oo zo rfl (by decide) (by decide)
  refine lv_aload_n C.hx C.hb dX8_init_239 rfl (lv_at hl 0 rfl) ?_
  refine lv_bipush (v := 20) C.hx C.hb dX8_init_240 (by decide) ?_
  refine g_newa (ty := .int) (t0 := 0) (N := 20) (a0 := (20, .inl (fun _ => 0))) C hS rfl wa_int rfl (fun h => h) (by decide) (by decide) rfl (by decide) (by decide) (by decide) dX8_init_242 (fun H1 ea oa za hS => ?_)
  rw [show _ = am m0 32 from hP.2.2.2.2] at ea ⊢
  refine g_putF (k := 32) tyX8 C hS (hP.1.kept (oa _ (by rw [hP.2.2.2.2]; omega))) (Nat.le_refl m0) rfl wu_X8 tyX8_ok nmX8 (by decide) wf_X8_96 rfl rfl hnm rfl rfl rfl (Nat.le_of_ble_eq_true rfl) dX8_init_244 (fun H2 locs eo oo zo hS => ?_)
  have hP : PWd G m0 (up2 (up2 (up2 x00 5 0 100) 6 0 10) 7 0 100) 26 H2 := PWd.putA 32 hP rfl rfl ea oa za eo oo zo rfl (by decide) (by decide)
  refine lv_aload_n C.hx C.hb dX8_init_247 rfl (lv_at hl 0 rfl) ?_
  refine lv_bipush (v := 20) C.hx C.hb dX8_init_248 (by decide) ?_
  refine g_newa (ty := .boolean) (t0 := 2) (N := 20) (a0 := (20, .inl (fun _ => 0))) C hS rfl wa_boolean rfl (fun h => h) (by decide) (by decide) rfl (by decide) (by decide) (by decide) dX8_init_250 (fun H1 ea oa za hS => ?_)
  rw [show _ = am m0 33 from hP.2.2.2.2] at ea ⊢
  refine g_putF (k := 33) tyX8 C hS (hP.1.kept (oa _ (by rw [hP.2.2.2.2]; omega))) (Nat.le_refl m0) rfl wu_X8 tyX8_ok nmX8 (by decide) wf_X8_99 rfl rfl hnm rfl rfl rfl (Nat.le_of_ble_eq_true rfl) dX8_init_252 (fun H2 locs eo oo zo hS => ?_)
  have hP : PWd G m0 (up2 (up2 (up2 x00 5 0 100) 6 0 10) 7 0 100) 27 H2 := PWd.putZ hP rfl ea oa za eo oo zo rfl (by decide)
  refine lv_aload_n C.hx C.hb dX8_init_255 rfl (lv_at hl 0 rfl) ?_
  refine lv_sipush (v := 400) C.hx C.hb dX8_init_256 (by decide) ?_
  refine g_newa (ty := .int) (t0 := 0) (N := 400) (a0 := (400, .inl (fun _ => 0))) C hS rfl wa_int rfl (fun h => h) (by decide) (by decide) rfl (by decide) (by decide) (by decide) dX8_init_259 (fun H1 ea oa za hS => ?_)
  rw [show _ = am m0 34 from hP.2.2.2.2] at ea ⊢
  refine g_putF (k := 34) tyX8 C hS (hP.1.kept (oa _ (by rw [hP.2.2.2.2]; omega))) (Nat.le_refl m0) rfl wu_X8 tyX8_ok nmX8 (by decide) wf_X8_103 rfl rfl hnm rfl rfl rfl (Nat.le_of_ble_eq_true rfl) dX8_init_261 (fun H2 locs eo oo zo hS => ?_)
  have hP : PWd G m0 (up2 (up2 (up2 x00 5 0 100) 6 0 10) 7 0 100) 28 H2 := PWd.putA 34 hP rfl rfl ea oa za eo oo zo rfl (by decide) (by decide)
  refine lv_aload_n C.hx C.hb dX8_init_264 rfl (lv_at hl 0 rfl) ?_
  refine lv_sipush (v := 400) C.hx C.hb dX8_init_265 (by decide) ?_
  refine g_newa (ty := .int) (t0 := 0) (N := 400) (a0 := (400, .inl (fun _ => 0))) C hS rfl wa_int rfl (fun h => h) (by decide) (by decide) rfl (by decide) (by decide) (by decide) dX8_init_268 (fun H1 ea oa za hS => ?_)
  rw [show _ = am m0 35 from hP.2.2.2.2] at ea ⊢
  refine g_putF (k := 35) tyX8 C hS (hP.1.kept (oa _ (by rw [hP.2.2.2.2]; omega))) (Nat.le_refl m0) rfl wu_X8 tyX8_ok nmX8 (by decide) wf_X8_106 rfl rfl hnm rfl rfl rfl (Nat.le_of_ble_eq_true rfl) dX8_init_270 (fun H2 locs eo oo zo hS => ?_)
  have hP : PWd G m0 (up2 (up2 (up2 x00 5 0 100) 6 0 10) 7 0 100) 29 H2 := PWd.putA 35 hP rfl rfl ea oa za eo oo zo rfl (by decide) (by decide)
  refine lv_aload_n C.hx C.hb dX8_init_273 rfl (lv_at hl 0 rfl) ?_
  refine lv_sipush (v := 8000) C.hx C.hb dX8_init_274 (by decide) ?_
  refine g_newa (ty := .int) (t0 := 0) (N := 8000) (a0 := (8000, .inl (fun _ => 0))) C hS rfl wa_int rfl (fun h => h) (by decide) (by decide) rfl (by decide) (by decide) (by decide) dX8_init_277 (fun H1 ea oa za hS => ?_)
  rw [show _ = am m0 37 from hP.2.2.2.2] at ea ⊢
  refine g_putF (k := 37) tyX8 C hS (hP.1.kept (oa _ (by rw [hP.2.2.2.2]; omega))) (Nat.le_refl m0) rfl wu_X8 tyX8_ok nmX8 (by decide) wf_X8_109 rfl rfl hnm rfl rfl rfl (Nat.le_of_ble_eq_true rfl) dX8_init_279 (fun H2 locs eo oo zo hS => ?_)
  have hP : PWd G m0 (up2 (up2 (up2 x00 5 0 100) 6 0 10) 7 0 100) 30 H2 := PWd.putA 37 hP rfl rfl ea oa za eo oo zo rfl (by decide) (by decide)
  refine lv_aload_n C.hx C.hb dX8_init_282 rfl (lv_at hl 0 rfl) ?_
  refine lv_sipush (v := 8000) C.hx C.hb dX8_init_283 (by decide) ?_
  refine g_newa (ty := .int) (t0 := 0) (N := 8000) (a0 := (8000, .inl (fun _ => 0))) C hS rfl wa_int rfl (fun h => h) (by decide) (by decide) rfl (by decide) (by decide) (by decide) dX8_init_286 (fun H1 ea oa za hS => ?_)
  rw [show _ = am m0 38 from hP.2.2.2.2] at ea ⊢
  refine g_putF (k := 38) tyX8 C hS (hP.1.kept (oa _ (by rw [hP.2.2.2.2]; omega))) (Nat.le_refl m0) rfl wu_X8 tyX8_ok nmX8 (by decide) wf_X8_112 rfl rfl hnm rfl rfl rfl (Nat.le_of_ble_eq_true rfl) dX8_init_288 (fun H2 locs eo oo zo hS => ?_)
  have hP : PWd G m0 (up2 (up2 (up2 x00 5 0 100) 6 0 10) 7 0 100) 31 H2 := PWd.putA 38 hP rfl rfl ea oa za eo oo zo rfl (by decide) (by decide)
  refine lv_aload_n C.hx C.hb dX8_init_291 rfl (lv_at hl 0 rfl) ?_
  refine lv_sipush (v := 8000) C.hx C.hb dX8_init_292 (by decide) ?_
  refine g_newa (ty := .int) (t0 := 0) (N := 8000) (a0 := (8000, .inl (fun _ => 0))) C hS rfl wa_int rfl (fun h => h) (by decide) (by decide) rfl (by decide) (by decide) (by decide) dX8_init_295 (fun H1 ea oa za hS => ?_)
  rw [show _ = am m0 39 from hP.2.2.2.2] at ea ⊢
  refine g_putF (k := 39) tyX8 C hS (hP.1.kept (oa _ (by rw [hP.2.2.2.2]; omega))) (Nat.le_refl m0) rfl wu_X8 tyX8_ok nmX8 (by decide) wf_X8_115 rfl rfl hnm rfl rfl rfl (Nat.le_of_ble_eq_true rfl) dX8_init_297 (fun H2 locs eo oo zo hS => ?_)
  have hP : PWd G m0 (up2 (up2 (up2 x00 5 0 100) 6 0 10) 7 0 100) 32 H2 := PWd.putA 39 hP rfl rfl ea oa za eo oo zo rfl (by decide) (by decide)
  refine lv_aload_n C.hx C.hb dX8_init_300 rfl (lv_at hl 0 rfl) ?_
  refine lv_sipush (v := 8000) C.hx C.hb dX8_init_301 (by decide) ?_
  refine g_newa (ty := .int) (t0 := 0) (N := 8000) (a0 := (8000, .inl (fun _ => 0))) C hS rfl wa_int rfl (fun h => h) (by decide) (by decide) rfl (by decide) (by decide) (by decide) dX8_init_304 (fun H1 ea oa za hS => ?_)
  rw [show _ = am m0 40 from hP.2.2.2.2] at ea ⊢
  refine g_putF (k := 40) tyX8 C hS (hP.1.kept (oa _ (by rw [hP.2.2.2.2]; omega))) (Nat.le_refl m0) rfl wu_X8 tyX8_ok nmX8 (by decide) wf_X8_118 rfl rfl hnm rfl rfl rfl (Nat.le_of_ble_eq_true rfl) dX8_init_306 (fun H2 locs eo oo zo hS => ?_)
  have hP : PWd G m0 (up2 (up2 (up2 x00 5 0 100) 6 0 10) 7 0 100) 33 H2 := PWd.putA 40 hP rfl rfl ea oa za eo oo zo rfl (by decide) (by decide)
  refine lv_aload_n C.hx C.hb dX8_init_309 rfl (lv_at hl 0 rfl) ?_
  refine lv_sipush (v := 8000) C.hx C.hb dX8_init_310 (by decide) ?_
  refine g_newa (ty := .int) (t0 := 0) (N := 8000) (a0 := (8000, .inl (fun _ => 0))) C hS rfl wa_int rfl (fun h => h) (by decide) (by decide) rfl (by decide) (by decide) (by decide) dX8_init_313 (fun H1 ea oa za hS => ?_)
  rw [show _ = am m0 41 from hP.2.2.2.2] at ea ⊢
  refine g_putF (k := 41) tyX8 C hS (hP.1.kept (oa _ (by rw [hP.2.2.2.2]; omega))) (Nat.le_refl m0) rfl wu_X8 tyX8_ok nmX8 (by decide) wf_X8_121 rfl rfl hnm rfl rfl rfl (Nat.le_of_ble_eq_true rfl) dX8_init_315 (fun H2 locs eo oo zo hS => ?_)
  have hP : PWd G m0 (up2 (up2 (up2 x00 5 0 100) 6 0 10) 7 0 100) 34 H2 := PWd.putA 41 hP rfl rfl ea oa za eo oo zo rfl (by decide) (by decide)
  refine lv_aload_n C.hx C.hb dX8_init_318 rfl (lv_at hl 0 rfl) ?_
  refine lv_sipush (v := 400) C.hx C.hb dX8_init_319 (by decide) ?_
  refine g_newa (ty := .int) (t0 := 0) (N := 400) (a0 := (400, .inl (fun _ => 0))) C hS rfl wa_int rfl (fun h => h) (by decide) (by decide) rfl (by decide) (by decide) (by decide) dX8_init_322 (fun H1 ea oa za hS => ?_)
  rw [show _ = am m0 43 from hP.2.2.2.2] at ea ⊢
  refine g_putF (k := 43) tyX8 C hS (hP.1.kept (oa _ (by rw [hP.2.2.2.2]; omega))) (Nat.le_refl m0) rfl wu_X8 tyX8_ok nmX8 (by decide) wf_X8_124 rfl rfl hnm rfl rfl rfl (Nat.le_of_ble_eq_true rfl) dX8_init_324 (fun H2 locs eo oo zo hS => ?_)
  have hP : PWd G m0 (up2 (up2 (up2 x00 5 0 100) 6 0 10) 7 0 100) 35 H2 := PWd.putA 43 hP rfl rfl ea oa za eo oo zo rfl (by decide) (by decide)
  refine lv_aload_n C.hx C.hb dX8_init_327 rfl (lv_at hl 0 rfl) ?_
  refine lv_sipush (v := 400) C.hx C.hb dX8_init_328 (by decide) ?_
  refine g_newa (ty := .int) (t0 := 0) (N := 400) (a0 := (400, .inl (fun _ => 0))) C hS rfl wa_int rfl (fun h => h) (by decide) (by decide) rfl (by decide) (by decide) (by decide) dX8_init_331 (fun H1 ea oa za hS => ?_)
  rw [show _ = am m0 44 from hP.2.2.2.2] at ea ⊢
  refine g_putF (k := 44) tyX8 C hS (hP.1.kept (oa _ (by rw [hP.2.2.2.2]; omega))) (Nat.le_refl m0) rfl wu_X8 tyX8_ok nmX8 (by decide) wf_X8_127 rfl rfl hnm rfl rfl rfl (Nat.le_of_ble_eq_true rfl) dX8_init_333 (fun H2 locs eo oo zo hS => ?_)
  have hP : PWd G m0 (up2 (up2 (up2 x00 5 0 100) 6 0 10) 7 0 100) 36 H2 := PWd.putA 44 hP rfl rfl ea oa za eo oo zo rfl (by decide) (by decide)
  refine lv_aload_n C.hx C.hb dX8_init_336 rfl (lv_at hl 0 rfl) ?_
  refine lv_sipush (v := 400) C.hx C.hb dX8_init_337 (by decide) ?_
  refine g_newa (ty := .int) (t0 := 0) (N := 400) (a0 := (400, .inl (fun _ => 0))) C hS rfl wa_int rfl (fun h => h) (by decide) (by decide) rfl (by decide) (by decide) (by decide) dX8_init_340 (fun H1 ea oa za hS => ?_)
  rw [show _ = am m0 45 from hP.2.2.2.2] at ea ⊢
  refine g_putF (k := 45) tyX8 C hS (hP.1.kept (oa _ (by rw [hP.2.2.2.2]; omega))) (Nat.le_refl m0) rfl wu_X8 tyX8_ok nmX8 (by decide) wf_X8_130 rfl rfl hnm rfl rfl rfl (Nat.le_of_ble_eq_true rfl) dX8_init_342 (fun H2 locs eo oo zo hS => ?_)
  have hP : PWd G m0 (up2 (up2 (up2 x00 5 0 100) 6 0 10) 7 0 100) 37 H2 := PWd.putA 45 hP rfl rfl ea oa za eo oo zo rfl (by decide) (by decide)
  refine W.widen (k := 37) (n := 49327) (by decide) (by decide) ?_
  have hW : MWd G m0 x01 (fun _ => 0) _ := PWd.full hP
  have hZ := hP.2.2.2.2
  refine lv_iconst (v := 0) C.hx C.hb dX8_init_345 (by decide) ?_
  refine lv_istore_n (lv' := [(1, .int 0), (0, .ref m0)]) C.hx C.hb dX8_init_346 rfl hl (by decide) rfl (fun ls hl => ?_)
  refine W.loopW (N := 8) (Inv := fun i ls H locs ce sl => lv_has ls 2 [(1, .int (nI i)), (0, .ref m0)] ∧ MWd G m0 (itX g_harm x01 i) (fun _ => 0) H ∧ va_S (MB m0) s_.heap H locs ∧ H.size = m0 + 38 ∧ ce = 37 ∧ sl = 49327) 347 [] (fun i1 ls H locs ce sl hi1 hq K1 => ?_) (fun ls H locs ce sl hq => ?_) 0 ls _ _ _ _ (Nat.zero_le _) ⟨lv_sub hl [0, 1] rfl, hW, hS, hZ, rfl, rfl⟩
  · obtain ⟨hl, hW, hS, hZ, rfl, rfl⟩ := hq
    refine lv_iload_n C.hx C.hb dX8_init_347 rfl (lv_at hl 0 rfl) ?_
    refine lv_bipush (v := 8) C.hx C.hb dX8_init_348 (by decide) ?_
    refine lv_icmp_ge (tgt := 366) C.hx C.hb dX8_init_350 (by decide) (fun c1 => absurd c1 (lt_nle (N := 8) (by decide) hi1 (by decide))) (fun c1 => ?_)
    refine lv_aload_n C.hx C.hb dX8_init_353 rfl (lv_at hl 1 rfl) ?_
    refine g_get (k := 2) (v := .ref (am m0 2)) C hW.1 rfl wu_X8 (by decide) wf_X8_13 rfl rfl dX8_init_354 ?_
    refine lv_iload_n C.hx C.hb dX8_init_357 rfl (lv_at hl 0 rfl) ?_
    refine lv_iconst (v := 1) C.hx C.hb dX8_init_358 (by decide) ?_
    refine g_iast (f := (itX g_harm x01 i1) 2) (k := i1) C hS (hW.2.1 2 rfl) (MB_of (am_A (Or.inl rfl))) rfl (show i1 < 8 by omega) (by decide) dX8_init_359 (fun H locs e1 o1 z1 hS => ?_)
    have hW : MWd G m0 (up2 (itX g_harm x01 i1) 2 i1 1) (fun _ => 0) H := MWd.putA 2 hW rfl e1 o1 (mfs_up rfl) (by decide) (by decide)
    have hZ := z1.trans hZ
    refine lv_iinc (v := nI i1 + 1) (lv' := [(1, .int (nI i1 + 1)), (0, .ref m0)]) C.hx C.hb dX8_init_360 hl (k := 0) rfl rfl (by decide) rfl (fun ls hl => ?_)
    refine lv_goto (tgt := 347) C.hx C.hb dX8_init_363 (by decide) ?_
    rw [nI_1 i1] at hl
    exact K1 _ _ _ _ _ ⟨lv_sub hl [0, 1] rfl, hW, hS, hZ, rfl, rfl⟩
  · obtain ⟨hl, hW, hS, hZ, rfl, rfl⟩ := hq
    refine lv_iload_n C.hx C.hb dX8_init_347 rfl (lv_at hl 0 rfl) ?_
    refine lv_bipush (v := 8) C.hx C.hb dX8_init_348 (by decide) ?_
    refine lv_icmp_ge (tgt := 366) C.hx C.hb dX8_init_350 (by decide) (fun c1 => ?_) (fun c1 => absurd (le_eqn (N := 8) (by decide)) c1)
    refine lv_iconst (v := 0) C.hx C.hb dX8_init_366 (by decide) ?_
    refine lv_istore_n (lv' := [(1, .int 0), (0, .ref m0)]) C.hx C.hb dX8_init_367 rfl hl (by decide) rfl (fun ls hl => ?_)
    refine W.loopW (N := 20) (Inv := fun i ls H locs ce sl => lv_has ls 2 [(1, .int (nI i)), (0, .ref m0)] ∧ MWd G m0 (itX g_judge (itX g_harm x01 8) i) (fun _ => 0) H ∧ va_S (MB m0) s_.heap H locs ∧ H.size = m0 + 38 ∧ ce = 37 ∧ sl = 49327) 368 [] (fun i2 ls H locs ce sl hi2 hq K2 => ?_) (fun ls H locs ce sl hq => ?_) 0 ls _ _ _ _ (Nat.zero_le _) ⟨lv_sub hl [0, 1] rfl, hW, hS, hZ, rfl, rfl⟩
    · obtain ⟨hl, hW, hS, hZ, rfl, rfl⟩ := hq
      refine lv_iload_n C.hx C.hb dX8_init_368 rfl (lv_at hl 0 rfl) ?_
      refine lv_bipush (v := 20) C.hx C.hb dX8_init_369 (by decide) ?_
      refine lv_icmp_ge (tgt := 394) C.hx C.hb dX8_init_371 (by decide) (fun c1 => absurd c1 (lt_nle (N := 20) (by decide) hi2 (by decide))) (fun c1 => ?_)
      refine lv_aload_n C.hx C.hb dX8_init_374 rfl (lv_at hl 1 rfl) ?_
      refine g_get (k := 31) (v := .ref (am m0 31)) C hW.1 rfl wu_X8 (by decide) wf_X8_93 rfl rfl dX8_init_375 ?_
      refine lv_iload_n C.hx C.hb dX8_init_378 rfl (lv_at hl 0 rfl) ?_
      refine lv_iconst (v := 2) C.hx C.hb dX8_init_379 (by decide) ?_
      refine g_iast (f := (itX g_judge (itX g_harm x01 8) i2) 31) (k := i2) C hS (hW.2.1 31 rfl) (MB_of (am_A (Or.inl rfl))) rfl (show i2 < 20 by omega) (by decide) dX8_init_380 (fun H locs e1 o1 z1 hS => ?_)
      have hW : MWd G m0 (up2 (itX g_judge (itX g_harm x01 8) i2) 31 i2 2) (fun _ => 0) H := MWd.putA 31 hW rfl e1 o1 (mfs_up rfl) (by decide) (by decide)
      have hZ := z1.trans hZ
      refine lv_aload_n C.hx C.hb dX8_init_381 rfl (lv_at hl 1 rfl) ?_
      refine g_get (k := 32) (v := .ref (am m0 32)) C hW.1 rfl wu_X8 (by decide) wf_X8_96 rfl rfl dX8_init_382 ?_
      refine lv_iload_n C.hx C.hb dX8_init_385 rfl (lv_at hl 0 rfl) ?_
      refine lv_iconst (v := 1) C.hx C.hb dX8_init_386 (by decide) ?_
      refine g_iast (f := (itX g_judge (itX g_harm x01 8) i2) 32) (k := i2) C hS (hW.2.1 32 rfl) (MB_of (am_A (Or.inl rfl))) rfl (show i2 < 20 by omega) (by decide) dX8_init_387 (fun H locs e1 o1 z1 hS => ?_)
      have hW : MWd G m0 (up2 (up2 (itX g_judge (itX g_harm x01 8) i2) 31 i2 2) 32 i2 1) (fun _ => 0) H := MWd.putA 32 hW rfl e1 o1 (mfs_up rfl) (by decide) (by decide)
      have hZ := z1.trans hZ
      refine lv_iinc (v := nI i2 + 1) (lv' := [(1, .int (nI i2 + 1)), (0, .ref m0)]) C.hx C.hb dX8_init_388 hl (k := 0) rfl rfl (by decide) rfl (fun ls hl => ?_)
      refine lv_goto (tgt := 368) C.hx C.hb dX8_init_391 (by decide) ?_
      rw [nI_1 i2] at hl
      exact K2 _ _ _ _ _ ⟨lv_sub hl [0, 1] rfl, hW, hS, hZ, rfl, rfl⟩
    · obtain ⟨hl, hW, hS, hZ, rfl, rfl⟩ := hq
      refine lv_iload_n C.hx C.hb dX8_init_368 rfl (lv_at hl 0 rfl) ?_
      refine lv_bipush (v := 20) C.hx C.hb dX8_init_369 (by decide) ?_
      refine lv_icmp_ge (tgt := 394) C.hx C.hb dX8_init_371 (by decide) (fun c1 => ?_) (fun c1 => absurd (le_eqn (N := 20) (by decide)) c1)
      refine lv_iconst (v := 0) C.hx C.hb dX8_init_394 (by decide) ?_
      refine lv_istore_n (lv' := [(1, .int 0), (0, .ref m0)]) C.hx C.hb dX8_init_395 rfl hl (by decide) rfl (fun ls hl => ?_)
      refine W.loopW (N := 3) (Inv := fun i ls H locs ce sl => lv_has ls 2 [(1, .int (nI i)), (0, .ref m0)] ∧ MWd G m0 (itX g_due (itX g_judge (itX g_harm x01 8) 20) i) (fun _ => 0) H ∧ va_S (MB m0) s_.heap H locs ∧ H.size = m0 + 38 ∧ ce = 37 ∧ sl = 49327) 396 [] (fun i3 ls H locs ce sl hi3 hq K3 => ?_) (fun ls H locs ce sl hq => ?_) 0 ls _ _ _ _ (Nat.zero_le _) ⟨lv_sub hl [0, 1] rfl, hW, hS, hZ, rfl, rfl⟩
      · obtain ⟨hl, hW, hS, hZ, rfl, rfl⟩ := hq
        refine lv_iload_n C.hx C.hb dX8_init_396 rfl (lv_at hl 0 rfl) ?_
        refine lv_iconst (v := 3) C.hx C.hb dX8_init_397 (by decide) ?_
        refine lv_icmp_ge (tgt := 419) C.hx C.hb dX8_init_398 (by decide) (fun c1 => absurd c1 (lt_nle (N := 3) (by decide) hi3 (by decide))) (fun c1 => ?_)
        refine lv_aload_n C.hx C.hb dX8_init_401 rfl (lv_at hl 1 rfl) ?_
        refine g_get (k := 4) (v := .ref (am m0 4)) C hW.1 rfl wu_X8 (by decide) wf_X8_19 rfl rfl dX8_init_402 ?_
        refine lv_iload_n C.hx C.hb dX8_init_405 rfl (lv_at hl 0 rfl) ?_
        refine lv_bipush (v := 10) C.hx C.hb dX8_init_406 (by decide) ?_
        refine lv_iload_n C.hx C.hb dX8_init_408 rfl (lv_at hl 0 rfl) ?_
        refine lv_iconst (v := 1) C.hx C.hb dX8_init_409 (by decide) ?_
        refine lv_iadd C.hx C.hb dX8_init_410 ?_
        refine lv_imul C.hx C.hb dX8_init_411 ?_
        refine g_iast (f := (itX g_due (itX g_judge (itX g_harm x01 8) 20) i3) 4) (k := i3) C hS (hW.2.1 4 rfl) (MB_of (am_A (Or.inl rfl))) rfl (show i3 < 3 by omega) (by decide) dX8_init_412 (fun H locs e1 o1 z1 hS => ?_)
        have hW : MWd G m0 (up2 (itX g_due (itX g_judge (itX g_harm x01 8) 20) i3) 4 i3 (10 * (nI i3 + 1))) (fun _ => 0) H := MWd.putA 4 hW rfl e1 o1 (mfs_up rfl) (by decide) (by decide)
        have hZ := z1.trans hZ
        refine lv_iinc (v := nI i3 + 1) (lv' := [(1, .int (nI i3 + 1)), (0, .ref m0)]) C.hx C.hb dX8_init_413 hl (k := 0) rfl rfl (by decide) rfl (fun ls hl => ?_)
        refine lv_goto (tgt := 396) C.hx C.hb dX8_init_416 (by decide) ?_
        rw [nI_1 i3] at hl
        exact K3 _ _ _ _ _ ⟨lv_sub hl [0, 1] rfl, hW, hS, hZ, rfl, rfl⟩
      · obtain ⟨hl, hW, hS, hZ, rfl, rfl⟩ := hq
        refine lv_iload_n C.hx C.hb dX8_init_396 rfl (lv_at hl 0 rfl) ?_
        refine lv_iconst (v := 3) C.hx C.hb dX8_init_397 (by decide) ?_
        refine lv_icmp_ge (tgt := 419) C.hx C.hb dX8_init_398 (by decide) (fun c1 => ?_) (fun c1 => absurd (le_eqn (N := 3) (by decide)) c1)
        exact wV C hr dX8_init_419 hS ⟨hW, hZ⟩
