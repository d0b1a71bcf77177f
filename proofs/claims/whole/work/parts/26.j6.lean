set_option maxRecDepth 100000 in
set_option maxHeartbeats 400000 in
theorem cJ_initC (l : Launch) (G : GG) (a sz : Nat) : MW l G yJxa1e45_init_da8c8 cJxa1e45_init_da8c8 1 none 1 [.ref a] (fun H => H.size = sz) none (fun H => H.size = sz) (fun _ => False) 0 0 := by
  refine MW.of RJxa1e45 rfl (by decide) (Nat.le_of_ble_eq_true rfl) ?_
  intro p_ e_ s_ m_ args_ below_ meth_ c_ ls hargs C hr hnm hP hS hl
  have hl : lv_has ls 1 [(0, .ref a)] := hl
  refine lv_aload_n C.hx C.hb dJxa1e45_init_da8c8_0 rfl (lv_at hl 0 rfl) ?_
  refine W.objInit C.hx C.hb C.hown (C.hT _ oi_Jxa1e45_1) (C.hT _ oi_i) (C.hT _ oi_c) rfl (by rw [C.hml]; exact hl.1) rfl dJxa1e45_init_da8c8_1 (by decide) (Nat.le_of_ble_eq_true rfl) ?_
  refine W.eq (g2 := F0 m_ 4 ls []) rfl ?_
  exact wV C hr dJxa1e45_init_da8c8_4 hS hP
set_option maxRecDepth 100000 in
set_option maxHeartbeats 400000 in
theorem cJ_initL (l : Launch) (G : GG) (a sz : Nat) (mc : Int32) (w1 w2 : Value) : MW l G yJxc12de_init_da8c8 cJxc12de_init_da8c8 1 none 2 [.ref a] (fun H => va_at G.1 vwCl (a, .inr (0, [.int mc, w1, w2])) H ∧ H.size = sz) none (fun H => va_at G.1 vwCl (a, .inr (0, [.int 0, w1, w2])) H ∧ H.size = sz) (fun q => q = a) 0 0 := by
  refine MW.of RJxc12de rfl (by decide) (Nat.le_of_ble_eq_true rfl) ?_
  intro p_ e_ s_ m_ args_ below_ meth_ c_ ls hargs C hr hnm hP hS hl
  have hl : lv_has ls 1 [(0, .ref a)] := hl
  refine lv_aload_n C.hx C.hb dJxc12de_init_da8c8_0 rfl (lv_at hl 0 rfl) ?_
  refine kIWn (As := []) (rest := []) C (cJ_initC l G a sz) lk_Jxc12de_1 hP.2 rfl rfl hl (Nat.le_of_ble_eq_true rfl) dJxc12de_init_da8c8_1 ⟨⟨by decide, by decide⟩, by decide, by decide⟩ hS (fun q h => h.elim) (fun H locs hPq hz1 hk1 hS => ?_)
  have hA := hP.1.kept (hk1 _ hP.1.lt (fun h => h))
  refine lv_aload_n C.hx C.hb dJxc12de_init_da8c8_4 rfl (lv_at hl 0 rfl) ?_
  refine lv_iconst (v := 0) C.hx C.hb dJxc12de_init_da8c8_5 (by decide) ?_
  refine g_put (k := 0) tyJx4a65c C hS hA rfl rfl wu_Jx4a65c tyJx4a65c_ok nmJx4a65c (by decide) wf_Jxc12de_7 rfl rfl rfl rfl rfl (Nat.le_of_ble_eq_true rfl) dJxc12de_init_da8c8_6 (fun H locs hA o3 z3 hS => ?_)
  exact wV C hr dJxc12de_init_da8c8_9 hS ⟨hA, by rw [z3]; exact hPq⟩
set_option maxRecDepth 100000 in
set_option maxHeartbeats 400000 in
theorem cJ_init (l : Launch) (G : GG) (a sz : Nat) (mc : Int32) (w1 : Value) (hz6 : G.2 6 ≠ a) (hz8 : G.2 8 ≠ a) : MW l G yJx4a65c_init_da8c8 cJx4a65c_init_da8c8 1 none 3 [.ref a] (fun H => va_at G.1 vwCl (a, .inr (0, [.int mc, w1, .int 0])) H ∧ DZ G H ∧ H.size = sz) none (fun H => va_at G.1 vwCl (a, lob 0 (G.2 8) 0) H ∧ H.size = sz) (fun q => q = a) 0 0 := by
  refine MW.of RJx4a65c rfl (by decide) (Nat.le_of_ble_eq_true rfl) ?_
  intro p_ e_ s_ m_ args_ below_ meth_ c_ ls hargs C hr hnm hP hS hl
  have hl : lv_has ls 1 [(0, .ref a)] := hl
  refine lv_aload_n C.hx C.hb dJx4a65c_init_da8c8_0 rfl (lv_at hl 0 rfl) ?_
  refine kIWn (As := []) (rest := []) C (cJ_initL l G a sz mc w1 (.int 0)) lk_Jx4a65c_1 ⟨hP.1, hP.2.2⟩ rfl rfl hl (Nat.le_of_ble_eq_true rfl) dJx4a65c_init_da8c8_1 ⟨⟨by decide, by decide⟩, by decide, by decide⟩ hS (fun q h => h) (fun H locs hPq hz1 hk1 hS => ?_)
  have hA := hPq.1
  have l6 : G.2 6 < s_.heap.size := by obtain ⟨c9, hc9, -⟩ := hP.2.1.1; exact (Array.getElem?_eq_some_iff.mp hc9).1
  have l8 : G.2 8 < s_.heap.size := by obtain ⟨c9, hc9, -⟩ := hP.2.1.2; exact (Array.getElem?_eq_some_iff.mp hc9).1
  have hZ := hP.2.1.kept (hk1 _ l6 hz6) (hk1 _ l8 hz8)
  refine lv_aload_n C.hx C.hb dJx4a65c_init_da8c8_4 rfl (lv_at hl 0 rfl) ?_
  refine g_gets C hZ wf_Jx4a65c_39 dJx4a65c_init_da8c8_5 ?_
  refine g_put (k := 1) tyJx4a65c C hS hA rfl rfl wu_Jx4a65c tyJx4a65c_ok nmJx4a65c (by decide) wf_Jx4a65c_9 rfl rfl rfl rfl rfl (Nat.le_of_ble_eq_true rfl) dJx4a65c_init_da8c8_8 (fun H locs hA o3 z3 hS => ?_)
  exact wV C hr dJx4a65c_init_da8c8_11 hS ⟨hA, by rw [z3]; exact hPq.2⟩
