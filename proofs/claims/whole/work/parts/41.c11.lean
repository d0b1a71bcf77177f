set_option maxRecDepth 100000 in
set_option maxHeartbeats 400000 in
theorem cC_X1_init (l : Launch) (G : GG) (a sz : Nat) (j : Nat) (c : Nat) : MW l G yX1_init cX1_init 3 none 1 [.ref a, .ref j, .ref c] (fun H => va_at G.1 vwCl (a, .inr (2, [.null, .null])) H ∧ H.size = sz) none (fun H => va_at G.1 vwCl (a, .inr (2, [.ref j, .ref c])) H ∧ H.size = sz) (fun q => q = a) 0 0 := by
  refine MW.of RX1 rfl (by decide) (Nat.le_of_ble_eq_true rfl) ?_
  intro p_ e_ s_ m_ args_ below_ meth_ c_ ls hargs C hr hnm hP hS hl
  have hl : lv_has ls 3 [(0, .ref a), (1, .ref j), (2, .ref c)] := hl
  obtain ⟨hA, hz⟩ := hP
  refine lv_aload_n C.hx C.hb dX1_init_0 rfl (lv_at hl 0 rfl) ?_
  refine W.objInit C.hx C.hb C.hown (C.hT _ oi_X1_1) (C.hT _ oi_i) (C.hT _ oi_c) rfl (by rw [C.hml]; exact hl.1) rfl dX1_init_1 (by decide) (Nat.le_of_ble_eq_true rfl) ?_
  refine W.eq (g2 := F0 m_ 4 ls []) rfl ?_
  refine lv_aload_n C.hx C.hb dX1_init_4 rfl (lv_at hl 0 rfl) ?_
  refine lv_aload_n C.hx C.hb dX1_init_5 rfl (lv_at hl 1 rfl) ?_
  refine g_putF (k := 0) tyX1 C hS hA rfl rfl wu_X1 tyX1_ok nmX1 (by decide) wf_X1_7 rfl rfl hnm rfl rfl rfl (Nat.le_of_ble_eq_true rfl) dX1_init_6 (fun H locs hA o3 z3 hS => ?_)
  have hz := z3.trans hz
  refine lv_aload_n C.hx C.hb dX1_init_9 rfl (lv_at hl 0 rfl) ?_
  refine lv_aload_n C.hx C.hb dX1_init_10 rfl (lv_at hl 2 rfl) ?_
  refine g_putF (k := 1) tyX1 C hS hA rfl rfl wu_X1 tyX1_ok nmX1 (by decide) wf_X1_13 rfl rfl hnm rfl rfl rfl (Nat.le_of_ble_eq_true rfl) dX1_init_11 (fun H locs hA o3 z3 hS => ?_)
  have hz := z3.trans hz
  exact wV C hr dX1_init_14 hS ⟨hA, hz⟩
set_option maxRecDepth 100000 in
set_option maxHeartbeats 400000 in
theorem cC_X2_init (l : Launch) (G : GG) (a sz : Nat) (n : Int32) : MW l G yX2_init cX2_init 2 none 1 [.ref a, .int n] (fun H => va_at G.1 vwCl (a, .inr (3, [.int 0, .int 0, .int 0, .int 0, .int 0, .int 0, .int 0])) H ∧ H.size = sz) none (fun H => va_at G.1 vwCl (a, .inr (3, [.int n, .int 0, .int 0, .int 0, .int 0, .int 0, .int 0])) H ∧ H.size = sz) (fun q => q = a) 0 0 := by
  refine MW.of RX2 rfl (by decide) (Nat.le_of_ble_eq_true rfl) ?_
  intro p_ e_ s_ m_ args_ below_ meth_ c_ ls hargs C hr hnm hP hS hl
  have hl : lv_has ls 2 [(0, .ref a), (1, .int n)] := hl
  obtain ⟨hA, hz⟩ := hP
  refine lv_aload_n C.hx C.hb dX2_init_0 rfl (lv_at hl 0 rfl) ?_
  refine W.objInit C.hx C.hb C.hown (C.hT _ oi_X2_3) (C.hT _ oi_i) (C.hT _ oi_c) rfl (by rw [C.hml]; exact hl.1) rfl dX2_init_1 (by decide) (Nat.le_of_ble_eq_true rfl) ?_
  refine W.eq (g2 := F0 m_ 4 ls []) rfl ?_
  refine lv_aload_n C.hx C.hb dX2_init_4 rfl (lv_at hl 0 rfl) ?_
  refine lv_iconst (v := 0) C.hx C.hb dX2_init_5 (by decide) ?_
  refine g_put (k := 1) tyX2 C hS hA rfl rfl wu_X2 tyX2_ok nmX2 (by decide) wf_X2_9 rfl rfl rfl rfl rfl (Nat.le_of_ble_eq_true rfl) dX2_init_6 (fun H locs hA o3 z3 hS => ?_)
  have hz := z3.trans hz
  refine lv_aload_n C.hx C.hb dX2_init_9 rfl (lv_at hl 0 rfl) ?_
  refine lv_iconst (v := 0) C.hx C.hb dX2_init_10 (by decide) ?_
  refine g_put (k := 2) tyX2 C hS hA rfl rfl wu_X2 tyX2_ok nmX2 (by decide) wf_X2_15 rfl rfl rfl rfl rfl (Nat.le_of_ble_eq_true rfl) dX2_init_11 (fun H locs hA o3 z3 hS => ?_)
  have hz := z3.trans hz
  refine lv_aload_n C.hx C.hb dX2_init_14 rfl (lv_at hl 0 rfl) ?_
  refine lv_iconst (v := 0) C.hx C.hb dX2_init_15 (by decide) ?_
  refine g_put (k := 3) tyX2 C hS hA rfl rfl wu_X2 tyX2_ok nmX2 (by decide) wf_X2_18 rfl rfl rfl rfl rfl (Nat.le_of_ble_eq_true rfl) dX2_init_16 (fun H locs hA o3 z3 hS => ?_)
  have hz := z3.trans hz
  refine lv_aload_n C.hx C.hb dX2_init_19 rfl (lv_at hl 0 rfl) ?_
  refine lv_iconst (v := 0) C.hx C.hb dX2_init_20 (by decide) ?_
  refine g_put (k := 4) tyX2 C hS hA rfl rfl wu_X2 tyX2_ok nmX2 (by decide) wf_X2_21 rfl rfl rfl rfl rfl (Nat.le_of_ble_eq_true rfl) dX2_init_21 (fun H locs hA o3 z3 hS => ?_)
  have hz := z3.trans hz
  refine lv_aload_n C.hx C.hb dX2_init_24 rfl (lv_at hl 0 rfl) ?_
  refine lv_iconst (v := 0) C.hx C.hb dX2_init_25 (by decide) ?_
  refine g_put (k := 5) tyX2 C hS hA rfl rfl wu_X2 tyX2_ok nmX2 (by decide) wf_X2_24 rfl rfl rfl rfl rfl (Nat.le_of_ble_eq_true rfl) dX2_init_26 (fun H locs hA o3 z3 hS => ?_)
  have hz := z3.trans hz
  refine lv_aload_n C.hx C.hb dX2_init_29 rfl (lv_at hl 0 rfl) ?_
  refine lv_iconst (v := 0) C.hx C.hb dX2_init_30 (by decide) ?_
  refine g_put (k := 6) tyX2 C hS hA rfl rfl wu_X2 tyX2_ok nmX2 (by decide) wf_X2_27 rfl rfl rfl rfl rfl (Nat.le_of_ble_eq_true rfl) dX2_init_31 (fun H locs hA o3 z3 hS => ?_)
  have hz := z3.trans hz
  refine lv_aload_n C.hx C.hb dX2_init_34 rfl (lv_at hl 0 rfl) ?_
  refine lv_iload_n C.hx C.hb dX2_init_35 rfl (lv_at hl 1 rfl) ?_
  refine g_put (k := 0) tyX2 C hS hA rfl rfl wu_X2 tyX2_ok nmX2 (by decide) wf_X2_31 rfl rfl rfl rfl rfl (Nat.le_of_ble_eq_true rfl) dX2_init_36 (fun H locs hA o3 z3 hS => ?_)
  have hz := z3.trans hz
  exact wV C hr dX2_init_39 hS ⟨hA, hz⟩
set_option maxRecDepth 100000 in
set_option maxHeartbeats 400000 in
theorem cC_X3_init (l : Launch) (G : GG) (a sz : Nat) (n : Int32) : MW l G yX3_init cX3_init 2 none 1 [.ref a, .int n] (fun H => va_at G.1 vwCl (a, .inr (4, [.int 0, .int 0, .long 0, .int 0, .int 0, .int 0, .int 0, .int 0])) H ∧ H.size = sz) none (fun H => va_at G.1 vwCl (a, .inr (4, [.int ((1 : Int32) <<< (n &&& 31)), .int 0, .long 0, .int 2, .int 1, .int 0, .int 0, .int 0])) H ∧ H.size = sz) (fun q => q = a) 0 0 := by
  refine MW.of RX3 rfl (by decide) (Nat.le_of_ble_eq_true rfl) ?_
  intro p_ e_ s_ m_ args_ below_ meth_ c_ ls hargs C hr hnm hP hS hl
  have hl : lv_has ls 2 [(0, .ref a), (1, .int n)] := hl
  obtain ⟨hA, hz⟩ := hP
  refine lv_aload_n C.hx C.hb dX3_init_0 rfl (lv_at hl 0 rfl) ?_
  refine W.objInit C.hx C.hb C.hown (C.hT _ oi_X3_1) (C.hT _ oi_i) (C.hT _ oi_c) rfl (by rw [C.hml]; exact hl.1) rfl dX3_init_1 (by decide) (Nat.le_of_ble_eq_true rfl) ?_
  refine W.eq (g2 := F0 m_ 4 ls []) rfl ?_
  refine lv_aload_n C.hx C.hb dX3_init_4 rfl (lv_at hl 0 rfl) ?_
  refine lv_iconst (v := 0) C.hx C.hb dX3_init_5 (by decide) ?_
  refine g_put (k := 1) tyX3 C hS hA rfl rfl wu_X3 tyX3_ok nmX3 (by decide) wf_X3_7 rfl rfl rfl rfl rfl (Nat.le_of_ble_eq_true rfl) dX3_init_6 (fun H locs hA o3 z3 hS => ?_)
  have hz := z3.trans hz
  refine lv_aload_n C.hx C.hb dX3_init_9 rfl (lv_at hl 0 rfl) ?_
  refine lv_lconst (v := 0) C.hx C.hb dX3_init_10 (by decide) ?_
  refine g_put (k := 2) tyX3 C hS hA rfl rfl wu_X3 tyX3_ok nmX3 (by decide) wf_X3_13 rfl rfl rfl rfl rfl (Nat.le_of_ble_eq_true rfl) dX3_init_11 (fun H locs hA o3 z3 hS => ?_)
  have hz := z3.trans hz
  refine lv_aload_n C.hx C.hb dX3_init_14 rfl (lv_at hl 0 rfl) ?_
  refine lv_iconst (v := 2) C.hx C.hb dX3_init_15 (by decide) ?_
  refine g_put (k := 3) tyX3 C hS hA rfl rfl wu_X3 tyX3_ok nmX3 (by decide) wf_X3_17 rfl rfl rfl rfl rfl (Nat.le_of_ble_eq_true rfl) dX3_init_16 (fun H locs hA o3 z3 hS => ?_)
  have hz := z3.trans hz
  refine lv_aload_n C.hx C.hb dX3_init_19 rfl (lv_at hl 0 rfl) ?_
  refine lv_iconst (v := 1) C.hx C.hb dX3_init_20 (by decide) ?_
  refine g_put (k := 4) tyX3 C hS hA rfl rfl wu_X3 tyX3_ok nmX3 (by decide) wf_X3_20 rfl rfl rfl rfl rfl (Nat.le_of_ble_eq_true rfl) dX3_init_21 (fun H locs hA o3 z3 hS => ?_)
  have hz := z3.trans hz
  refine lv_aload_n C.hx C.hb dX3_init_24 rfl (lv_at hl 0 rfl) ?_
  refine lv_iconst (v := 0) C.hx C.hb dX3_init_25 (by decide) ?_
  refine g_put (k := 5) tyX3 C hS hA rfl rfl wu_X3 tyX3_ok nmX3 (by decide) wf_X3_23 rfl rfl rfl rfl rfl (Nat.le_of_ble_eq_true rfl) dX3_init_26 (fun H locs hA o3 z3 hS => ?_)
  have hz := z3.trans hz
  refine lv_aload_n C.hx C.hb dX3_init_29 rfl (lv_at hl 0 rfl) ?_
  refine lv_iconst (v := 0) C.hx C.hb dX3_init_30 (by decide) ?_
  refine g_put (k := 6) tyX3 C hS hA rfl rfl wu_X3 tyX3_ok nmX3 (by decide) wf_X3_27 rfl rfl rfl rfl rfl (Nat.le_of_ble_eq_true rfl) dX3_init_31 (fun H locs hA o3 z3 hS => ?_)
  have hz := z3.trans hz
  refine lv_aload_n C.hx C.hb dX3_init_34 rfl (lv_at hl 0 rfl) ?_
  refine lv_iconst (v := 0) C.hx C.hb dX3_init_35 (by decide) ?_
  refine g_put (k := 7) tyX3 C hS hA rfl rfl wu_X3 tyX3_ok nmX3 (by decide) wf_X3_30 rfl rfl rfl rfl rfl (Nat.le_of_ble_eq_true rfl) dX3_init_36 (fun H locs hA o3 z3 hS => ?_)
  have hz := z3.trans hz
  refine lv_aload_n C.hx C.hb dX3_init_39 rfl (lv_at hl 0 rfl) ?_
  refine lv_iconst (v := 1) C.hx C.hb dX3_init_40 (by decide) ?_
  refine lv_iload_n C.hx C.hb dX3_init_41 rfl (lv_at hl 1 rfl) ?_
  refine lv_ishl C.hx C.hb dX3_init_42 ?_
  refine g_putF (k := 0) tyX3 C hS hA rfl rfl wu_X3 tyX3_ok nmX3 (by decide) wf_X3_33 rfl rfl hnm rfl rfl rfl (Nat.le_of_ble_eq_true rfl) dX3_init_43 (fun H locs hA o3 z3 hS => ?_)
  have hz := z3.trans hz
  exact wV C hr dX3_init_46 hS ⟨hA, hz⟩
set_option maxRecDepth 100000 in
set_option maxHeartbeats 400000 in
theorem cC_X5_init (l : Launch) (G : GG) (a sz : Nat) (n : Int32) (au : Int32) (re : Int32) (ma : Int32) (ca : Int32) : MW l G yX5_init cX5_init 6 none 1 [.ref a, .int n, .int au, .int re, .int ma, .int ca] (fun H => va_at G.1 vwCl (a, .inr (6, [.int 0, .int 0, .int 0, .int 0, .int 0, .null, .null])) H ∧ H.size = sz) none (fun H => va_at G.1 vwCl (a, .inr (6, [.int n, .int au, .int re, .int ma, .int ca, .null, .null])) H ∧ H.size = sz) (fun q => q = a) 0 0 := by
  refine MW.of RX5 rfl (by decide) (Nat.le_of_ble_eq_true rfl) ?_
  intro p_ e_ s_ m_ args_ below_ meth_ c_ ls hargs C hr hnm hP hS hl
  have hl : lv_has ls 6 [(0, .ref a), (1, .int n), (2, .int au), (3, .int re), (4, .int ma), (5, .int ca)] := hl
  obtain ⟨hA, hz⟩ := hP
  refine lv_aload_n C.hx C.hb dX5_init_0 rfl (lv_at hl 0 rfl) ?_
  refine W.objInit C.hx C.hb C.hown (C.hT _ oi_X5_1) (C.hT _ oi_i) (C.hT _ oi_c) rfl (by rw [C.hml]; exact hl.1) rfl dX5_init_1 (by decide) (Nat.le_of_ble_eq_true rfl) ?_
  refine W.eq (g2 := F0 m_ 4 ls []) rfl ?_
  refine lv_aload_n C.hx C.hb dX5_init_4 rfl (lv_at hl 0 rfl) ?_
  refine lv_null C.hx C.hb dX5_init_5 ?_
  refine g_put (k := 5) tyX5 C hS hA rfl rfl wu_X5 tyX5_ok nmX5 (by decide) wf_X5_7 rfl rfl rfl rfl rfl (Nat.le_of_ble_eq_true rfl) dX5_init_6 (fun H locs hA o3 z3 hS => ?_)
  have hz := z3.trans hz
  refine lv_aload_n C.hx C.hb dX5_init_9 rfl (lv_at hl 0 rfl) ?_
  refine lv_null C.hx C.hb dX5_init_10 ?_
  refine g_put (k := 6) tyX5 C hS hA rfl rfl wu_X5 tyX5_ok nmX5 (by decide) wf_X5_13 rfl rfl rfl rfl rfl (Nat.le_of_ble_eq_true rfl) dX5_init_11 (fun H locs hA o3 z3 hS => ?_)
  have hz := z3.trans hz
  refine lv_aload_n C.hx C.hb dX5_init_14 rfl (lv_at hl 0 rfl) ?_
  refine lv_iload_n C.hx C.hb dX5_init_15 rfl (lv_at hl 1 rfl) ?_
  refine g_putF (k := 0) tyX5 C hS hA rfl rfl wu_X5 tyX5_ok nmX5 (by decide) wf_X5_16 rfl rfl hnm rfl rfl rfl (Nat.le_of_ble_eq_true rfl) dX5_init_16 (fun H locs hA o3 z3 hS => ?_)
  have hz := z3.trans hz
  refine lv_aload_n C.hx C.hb dX5_init_19 rfl (lv_at hl 0 rfl) ?_
  refine lv_iload_n C.hx C.hb dX5_init_20 rfl (lv_at hl 2 rfl) ?_
  refine g_putF (k := 1) tyX5 C hS hA rfl rfl wu_X5 tyX5_ok nmX5 (by decide) wf_X5_20 rfl rfl hnm rfl rfl rfl (Nat.le_of_ble_eq_true rfl) dX5_init_21 (fun H locs hA o3 z3 hS => ?_)
  have hz := z3.trans hz
  refine lv_aload_n C.hx C.hb dX5_init_24 rfl (lv_at hl 0 rfl) ?_
  refine lv_iload_n C.hx C.hb dX5_init_25 rfl (lv_at hl 3 rfl) ?_
  refine g_putF (k := 2) tyX5 C hS hA rfl rfl wu_X5 tyX5_ok nmX5 (by decide) wf_X5_23 rfl rfl hnm rfl rfl rfl (Nat.le_of_ble_eq_true rfl) dX5_init_26 (fun H locs hA o3 z3 hS => ?_)
  have hz := z3.trans hz
  refine lv_aload_n C.hx C.hb dX5_init_29 rfl (lv_at hl 0 rfl) ?_
  refine lv_iload C.hx C.hb dX5_init_30 (lv_at hl 4 rfl) ?_
  refine g_putF (k := 3) tyX5 C hS hA rfl rfl wu_X5 tyX5_ok nmX5 (by decide) wf_X5_26 rfl rfl hnm rfl rfl rfl (Nat.le_of_ble_eq_true rfl) dX5_init_32 (fun H locs hA o3 z3 hS => ?_)
  have hz := z3.trans hz
  refine lv_aload_n C.hx C.hb dX5_init_35 rfl (lv_at hl 0 rfl) ?_
  refine lv_iload C.hx C.hb dX5_init_36 (lv_at hl 5 rfl) ?_
  refine g_putF (k := 4) tyX5 C hS hA rfl rfl wu_X5 tyX5_ok nmX5 (by decide) wf_X5_29 rfl rfl hnm rfl rfl rfl (Nat.le_of_ble_eq_true rfl) dX5_init_38 (fun H locs hA o3 z3 hS => ?_)
  have hz := z3.trans hz
  exact wV C hr dX5_init_41 hS ⟨hA, hz⟩
set_option maxRecDepth 100000 in
set_option maxHeartbeats 400000 in
theorem cC_X6_init (l : Launch) (G : GG) (a sz : Nat) (n : Int32) : MW l G yX6_init cX6_init 2 none 1 [.ref a, .int n] (fun H => va_at G.1 vwCl (a, .inr (7, [.int 0, .int 0, .int 0, .int 0])) H ∧ H.size = sz) none (fun H => va_at G.1 vwCl (a, .inr (7, [.int n, .int 0, .int 1, .int 0])) H ∧ H.size = sz) (fun q => q = a) 0 0 := by
  refine MW.of RX6 rfl (by decide) (Nat.le_of_ble_eq_true rfl) ?_
  intro p_ e_ s_ m_ args_ below_ meth_ c_ ls hargs C hr hnm hP hS hl
  have hl : lv_has ls 2 [(0, .ref a), (1, .int n)] := hl
  obtain ⟨hA, hz⟩ := hP
  refine lv_aload_n C.hx C.hb dX6_init_0 rfl (lv_at hl 0 rfl) ?_
  refine W.objInit C.hx C.hb C.hown (C.hT _ oi_X6_1) (C.hT _ oi_i) (C.hT _ oi_c) rfl (by rw [C.hml]; exact hl.1) rfl dX6_init_1 (by decide) (Nat.le_of_ble_eq_true rfl) ?_
  refine W.eq (g2 := F0 m_ 4 ls []) rfl ?_
  refine lv_aload_n C.hx C.hb dX6_init_4 rfl (lv_at hl 0 rfl) ?_
  refine lv_iconst (v := 0) C.hx C.hb dX6_init_5 (by decide) ?_
  refine g_put (k := 1) tyX6 C hS hA rfl rfl wu_X6 tyX6_ok nmX6 (by decide) wf_X6_7 rfl rfl rfl rfl rfl (Nat.le_of_ble_eq_true rfl) dX6_init_6 (fun H locs hA o3 z3 hS => ?_)
  have hz := z3.trans hz
  refine lv_aload_n C.hx C.hb dX6_init_9 rfl (lv_at hl 0 rfl) ?_
  refine lv_iconst (v := 1) C.hx C.hb dX6_init_10 (by decide) ?_
  refine g_put (k := 2) tyX6 C hS hA rfl rfl wu_X6 tyX6_ok nmX6 (by decide) wf_X6_13 rfl rfl rfl rfl rfl (Nat.le_of_ble_eq_true rfl) dX6_init_11 (fun H locs hA o3 z3 hS => ?_)
  have hz := z3.trans hz
  refine lv_aload_n C.hx C.hb dX6_init_14 rfl (lv_at hl 0 rfl) ?_
  refine lv_iconst (v := 0) C.hx C.hb dX6_init_15 (by decide) ?_
  refine g_put (k := 3) tyX6 C hS hA rfl rfl wu_X6 tyX6_ok nmX6 (by decide) wf_X6_16 rfl rfl rfl rfl rfl (Nat.le_of_ble_eq_true rfl) dX6_init_16 (fun H locs hA o3 z3 hS => ?_)
  have hz := z3.trans hz
  refine lv_aload_n C.hx C.hb dX6_init_19 rfl (lv_at hl 0 rfl) ?_
  refine lv_iload_n C.hx C.hb dX6_init_20 rfl (lv_at hl 1 rfl) ?_
  refine g_putF (k := 0) tyX6 C hS hA rfl rfl wu_X6 tyX6_ok nmX6 (by decide) wf_X6_19 rfl rfl hnm rfl rfl rfl (Nat.le_of_ble_eq_true rfl) dX6_init_21 (fun H locs hA o3 z3 hS => ?_)
  have hz := z3.trans hz
  exact wV C hr dX6_init_24 hS ⟨hA, hz⟩
set_option maxRecDepth 100000 in
set_option maxHeartbeats 400000 in
theorem cC_X0_init (l : Launch) (G : GG) (a sz : Nat) (n : Int32) (pp rr : Nat) (si g : Int32) (r0 r2 r3 : Value) (hra : rr ≠ a) : MW l G yX0_init cX0_init 5 none 2 [.ref a, .int n, .ref pp, .ref rr, .int si] (fun H => va_at G.1 vwCl (a, .inr (1, [.int 0, .null, .null, .int 0, .null, .null, .int 0, .int 0, .int 0, .int 0, .int 0, .null])) H ∧ va_at G.1 vwCl (rr, .inr (7, [r0, .int g, r2, r3])) H ∧ H.size = sz) none (fun H => va_at G.1 vwCl (a, .inr (1, [.int n, .ref pp, .ref rr, .int g, .ref sz, .null, .int si, .int 1, .int 0, .int (-1), .int 0, .null])) H ∧ va_at G.1 vwCl (sz, .inr (3, [.int (1 + (2 * g)), .int 0, .int 0, .int 0, .int 0, .int 0, .int 0])) H ∧ H.size = sz + 1) (fun q => q = a ∨ sz ≤ q) 1 7 := by
  refine MW.of RX0 rfl (by decide) (Nat.le_of_ble_eq_true rfl) ?_
  intro p_ e_ s_ m_ args_ below_ meth_ c_ ls hargs C hr hnm hP hS hl
  have hl : lv_has ls 5 [(0, .ref a), (1, .int n), (2, .ref pp), (3, .ref rr), (4, .int si)] := hl
  obtain ⟨hA, hR, hz⟩ := hP
  have ha : a < s_.heap.size := hA.lt
  have hr0 : rr < s_.heap.size := hR.lt
  have ha : a < sz := by rw [← hz]; exact ha
  have hr0 : rr < sz := by rw [← hz]; exact hr0
  refine lv_aload_n C.hx C.hb dX0_init_0 rfl (lv_at hl 0 rfl) ?_
  refine W.objInit C.hx C.hb C.hown (C.hT _ oi_X0_3) (C.hT _ oi_i) (C.hT _ oi_c) rfl (by rw [C.hml]; exact hl.1) rfl dX0_init_1 (by decide) (Nat.le_of_ble_eq_true rfl) ?_
  refine W.eq (g2 := F0 m_ 4 ls []) rfl ?_
  refine lv_aload_n C.hx C.hb dX0_init_4 rfl (lv_at hl 0 rfl) ?_
  refine lv_null C.hx C.hb dX0_init_5 ?_
  refine g_put (k := 5) tyX0 C hS hA (Or.inl rfl) rfl wu_X0 tyX0_ok nmX0 (by decide) wf_X0_9 rfl rfl rfl rfl rfl (Nat.le_of_ble_eq_true rfl) dX0_init_6 (fun H locs hA o3 z3 hS => ?_)
  have hz := z3.trans hz
  have hR := hR.kept (o3 _ hra)
  refine lv_aload_n C.hx C.hb dX0_init_9 rfl (lv_at hl 0 rfl) ?_
  refine lv_iconst (v := 1) C.hx C.hb dX0_init_10 (by decide) ?_
  refine g_put (k := 7) tyX0 C hS hA (Or.inl rfl) rfl wu_X0 tyX0_ok nmX0 (by decide) wf_X0_15 rfl rfl rfl rfl rfl (Nat.le_of_ble_eq_true rfl) dX0_init_11 (fun H locs hA o3 z3 hS => ?_)
  have hz := z3.trans hz
  have hR := hR.kept (o3 _ hra)
  refine lv_aload_n C.hx C.hb dX0_init_14 rfl (lv_at hl 0 rfl) ?_
  refine lv_iconst (v := 0) C.hx C.hb dX0_init_15 (by decide) ?_
  refine g_put (k := 8) tyX0 C hS hA (Or.inl rfl) rfl wu_X0 tyX0_ok nmX0 (by decide) wf_X0_19 rfl rfl rfl rfl rfl (Nat.le_of_ble_eq_true rfl) dX0_init_16 (fun H locs hA o3 z3 hS => ?_)
  have hz := z3.trans hz
  have hR := hR.kept (o3 _ hra)
  refine lv_aload_n C.hx C.hb dX0_init_19 rfl (lv_at hl 0 rfl) ?_
  refine lv_iconst (v := (-1)) C.hx C.hb dX0_init_20 (by decide) ?_
  refine g_put (k := 9) tyX0 C hS hA (Or.inl rfl) rfl wu_X0 tyX0_ok nmX0 (by decide) wf_X0_22 rfl rfl rfl rfl rfl (Nat.le_of_ble_eq_true rfl) dX0_init_21 (fun H locs hA o3 z3 hS => ?_)
  have hz := z3.trans hz
  have hR := hR.kept (o3 _ hra)
  refine lv_aload_n C.hx C.hb dX0_init_24 rfl (lv_at hl 0 rfl) ?_
  refine lv_iconst (v := 0) C.hx C.hb dX0_init_25 (by decide) ?_
  refine g_put (k := 10) tyX0 C hS hA (Or.inl rfl) rfl wu_X0 tyX0_ok nmX0 (by decide) wf_X0_25 rfl rfl rfl rfl rfl (Nat.le_of_ble_eq_true rfl) dX0_init_26 (fun H locs hA o3 z3 hS => ?_)
  have hz := z3.trans hz
  have hR := hR.kept (o3 _ hra)
  refine lv_aload_n C.hx C.hb dX0_init_29 rfl (lv_at hl 0 rfl) ?_
  refine lv_null C.hx C.hb dX0_init_30 ?_
  refine g_put (k := 11) tyX0 C hS hA (Or.inl rfl) rfl wu_X0 tyX0_ok nmX0 (by decide) wf_X0_28 rfl rfl rfl rfl rfl (Nat.le_of_ble_eq_true rfl) dX0_init_31 (fun H locs hA o3 z3 hS => ?_)
  have hz := z3.trans hz
  have hR := hR.kept (o3 _ hra)
  refine lv_aload_n C.hx C.hb dX0_init_34 rfl (lv_at hl 0 rfl) ?_
  refine lv_iload_n C.hx C.hb dX0_init_35 rfl (lv_at hl 1 rfl) ?_
  refine g_putF (k := 0) tyX0 C hS hA (Or.inl rfl) rfl wu_X0 tyX0_ok nmX0 (by decide) wf_X0_32 rfl rfl hnm rfl rfl rfl (Nat.le_of_ble_eq_true rfl) dX0_init_36 (fun H locs hA o3 z3 hS => ?_)
  have hz := z3.trans hz
  have hR := hR.kept (o3 _ hra)
  refine lv_aload_n C.hx C.hb dX0_init_39 rfl (lv_at hl 0 rfl) ?_
  refine lv_aload_n C.hx C.hb dX0_init_40 rfl (lv_at hl 2 rfl) ?_
  refine g_putF (k := 1) tyX0 C hS hA (Or.inl rfl) rfl wu_X0 tyX0_ok nmX0 (by decide) wf_X0_35 rfl rfl hnm rfl rfl rfl (Nat.le_of_ble_eq_true rfl) dX0_init_41 (fun H locs hA o3 z3 hS => ?_)
  have hz := z3.trans hz
  have hR := hR.kept (o3 _ hra)
  refine lv_aload_n C.hx C.hb dX0_init_44 rfl (lv_at hl 0 rfl) ?_
  refine lv_aload_n C.hx C.hb dX0_init_45 rfl (lv_at hl 3 rfl) ?_
  refine g_putF (k := 2) tyX0 C hS hA (Or.inl rfl) rfl wu_X0 tyX0_ok nmX0 (by decide) wf_X0_39 rfl rfl hnm rfl rfl rfl (Nat.le_of_ble_eq_true rfl) dX0_init_46 (fun H locs hA o3 z3 hS => ?_)
  have hz := z3.trans hz
  have hR := hR.kept (o3 _ hra)
  refine lv_aload_n C.hx C.hb dX0_init_49 rfl (lv_at hl 0 rfl) ?_
  refine lv_aload_n C.hx C.hb dX0_init_50 rfl (lv_at hl 3 rfl) ?_
  refine g_getN (k := 1) (v := .int g) C hR rfl wu_X6 (by decide) wn_X0_43 rfl rfl dX0_init_51 ?_
  refine g_putF (k := 3) tyX0 C hS hA (Or.inl rfl) rfl wu_X0 tyX0_ok nmX0 (by decide) wf_X0_48 rfl rfl hnm rfl rfl rfl (Nat.le_of_ble_eq_true rfl) dX0_init_54 (fun H locs hA o3 z3 hS => ?_)
  have hz := z3.trans hz
  have hR := hR.kept (o3 _ hra)
  refine lv_aload_n C.hx C.hb dX0_init_57 rfl (lv_at hl 0 rfl) ?_
  refine g_new (ci := 3) tyX2 (fs := [.int 0, .int 0, .int 0, .int 0, .int 0, .int 0, .int 0]) C hS rfl wu_X2 tyX2_ok wl_X0_49 wi_X2 wz_X2 (fun j hj => by match j, hj with | 0, _ => rfl | 1, _ => rfl | 2, _ => rfl | 3, _ => rfl | 4, _ => rfl | 5, _ => rfl | 6, _ => rfl) (by decide) (by decide) dX0_init_58 (fun H hB o4 z4 hS => ?_)
  rw [hz] at hB o4 z4
  refine W.eq (g2 := F0 m_ 61 ls [.ref sz, .ref a]) (by rw [hz]) ?_
  have hA := hA.kept (o4 _ ha)
  have hR := hR.kept (o4 _ hr0)
  have hba : sz ≠ a := by omega
  refine lv_dup C.hx C.hb dX0_init_61 rfl ?_
  refine lv_iconst (v := 1) C.hx C.hb dX0_init_62 (by decide) ?_
  refine lv_iconst (v := 2) C.hx C.hb dX0_init_63 (by decide) ?_
  refine lv_aload_n C.hx C.hb dX0_init_64 rfl (lv_at hl 3 rfl) ?_
  refine g_getN (k := 1) (v := .int g) C hR rfl wu_X6 (by decide) wn_X0_43 rfl rfl dX0_init_65 ?_
  refine lv_imul C.hx C.hb dX0_init_68 ?_
  refine lv_iadd C.hx C.hb dX0_init_69 ?_
  refine kINWn (As := [.int (1 + (2 * g))]) (rest := [.ref sz, .ref a]) C (cC_X2_init l G sz (sz + 1) (1 + (2 * g))) lk_X0_51 ⟨hB, z4⟩ rfl rfl hl (Nat.le_of_ble_eq_true rfl) dX0_init_70 ⟨⟨by decide, by decide⟩, by decide, by decide⟩ hS (fun q h => Or.inr (by rw [h]; exact Nat.le_refl _)) (fun H locs hPq hz1 hk1 hS => ?_)
  obtain ⟨hB, hz⟩ := id hPq
  have hA := hA.kept (hk1 _ (by rw [z4]; omega) (by omega))
  have hR := hR.kept (hk1 _ (by rw [z4]; omega) (by omega))
  refine g_putF (k := 4) tyX0 C hS hA (Or.inl rfl) rfl wu_X0 tyX0_ok nmX0 (by decide) wf_X0_54 rfl rfl hnm rfl rfl rfl (Nat.le_of_ble_eq_true rfl) dX0_init_73 (fun H locs hA o3 z3 hS => ?_)
  have hz := z3.trans hz
  have hR := hR.kept (o3 _ hra)
  have hB := hB.kept (o3 _ hba)
  refine lv_aload_n C.hx C.hb dX0_init_76 rfl (lv_at hl 0 rfl) ?_
  refine lv_iload C.hx C.hb dX0_init_77 (lv_at hl 4 rfl) ?_
  refine g_put (k := 6) tyX0 C hS hA (Or.inl rfl) rfl wu_X0 tyX0_ok nmX0 (by decide) wf_X0_57 rfl rfl rfl rfl rfl (Nat.le_of_ble_eq_true rfl) dX0_init_79 (fun H locs hA o3 z3 hS => ?_)
  have hz := z3.trans hz
  have hR := hR.kept (o3 _ hra)
  have hB := hB.kept (o3 _ hba)
  exact wV C hr dX0_init_82 hS ⟨hA, hB, hz⟩
