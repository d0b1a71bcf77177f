set_option maxRecDepth 100000 in
set_option maxHeartbeats 400000 in
theorem cJ_growB (l : Launch) (G : GG) (a ed cap sz ci : Nat) (mc : Int32) (f : Nat → Option Nat) (hok : OKc ci) (hc0 : 0 < cap) (hc : cap ≤ 400) : MW l G yJx4a65c_grow_92f84 cJx4a65c_grow_92f84 4 (some (.array (.object "java/lang/Object"))) 3 [.ref a, .int (nI (cap + 1))] (fun H => va_at G.1 vwCl (a, lob mc ed cap) H ∧ va_at G.1 vwCl (ed, .inl (G.2 5, qs cap f)) H ∧ els G ci cap f H ∧ H.size = sz) (some (.ref sz)) (fun H => va_at G.1 vwCl (a, lob mc sz cap) H ∧ va_at G.1 vwCl (sz, .inl (G.2 5, qs (gl cap) (va_cpy f (fun _ => none) 0 0 cap))) H ∧ H.size = sz + 1) (fun q => q = a ∨ sz ≤ q) 1 600 := by
  refine MW.of RJx4a65c rfl (by decide) (Nat.le_of_ble_eq_true rfl) ?_
  intro p_ e_ s_ m_ args_ below_ meth_ c_ ls hargs C hr hnm hP hS hl
  have hl : lv_has ls 4 [(0, .ref a), (1, .int (nI (cap + 1)))] := hl
  obtain ⟨hA, hB, hE, hsz⟩ := hP
  have ha : a < sz := by rw [← hsz]; exact hA.lt
  have g1 := gl_lt cap
  have g2 := gl_le hc
  refine lv_aload_n C.hx C.hb dJx4a65c_grow_92f84_0 rfl (lv_at hl 0 rfl) ?_
  refine g_get (k := 1) (v := .ref ed) C hA rfl wu_Jx4a65c (by decide) wf_Jx4a65c_9 rfl rfl dJx4a65c_grow_92f84_1 ?_
  refine g_alen (t := 0) C hB 5 rfl dJx4a65c_grow_92f84_4 ?_
  refine lv_istore_n (lv' := [(2, .int (nI cap)), (0, .ref a), (1, .int (nI (cap + 1)))]) C.hx C.hb dJx4a65c_grow_92f84_5 rfl hl (by decide) rfl (fun ls hl => ?_)
  refine lv_iload_n C.hx C.hb dJx4a65c_grow_92f84_6 rfl (lv_at hl 0 rfl) ?_
  refine lv_if_gt (tgt := 20) C.hx C.hb dJx4a65c_grow_92f84_7 (by decide) (fun c1 => ?_) (fun c1 => ?_)
  · refine lv_iload_n C.hx C.hb dJx4a65c_grow_92f84_20 rfl (lv_at hl 0 rfl) ?_
    refine lv_iload_n C.hx C.hb dJx4a65c_grow_92f84_21 rfl (lv_at hl 2 rfl) ?_
    refine lv_iload_n C.hx C.hb dJx4a65c_grow_92f84_22 rfl (lv_at hl 0 rfl) ?_
    refine lv_isub C.hx C.hb dJx4a65c_grow_92f84_23 ?_
    refine lv_iload_n C.hx C.hb dJx4a65c_grow_92f84_24 rfl (lv_at hl 0 rfl) ?_
    refine lv_iconst (v := 1) C.hx C.hb dJx4a65c_grow_92f84_25 (by decide) ?_
    refine lv_ishr C.hx C.hb dJx4a65c_grow_92f84_26 ?_
    refine W.eq (g2 := F0 m_ 27 ls [.int (nI (cap / 2)), .int (nI 1), .int (nI cap)]) (by rw [pk_sub (show cap ≤ cap + 1 by omega), Nat.add_sub_cancel_left, show nI cap >>> ((1 : Int32) &&& 31) = nI (cap / 2) from pk_shrN (by omega) _ 1 (by decide)]) ?_
    refine kSR (As := [.int (nI cap), .int (nI 1), .int (nI (cap / 2))]) (rest := []) (v := .int (nI (gl cap))) C (cJ_newLength l G cap hc) lk_Jx4a65c_73 trivial rfl rfl hl (Nat.le_of_ble_eq_true rfl) dJx4a65c_grow_92f84_27 ⟨⟨by decide, by decide⟩, by decide, by decide⟩ ?_
    refine lv_istore_n (lv' := [(3, .int (nI (gl cap))), (2, .int (nI cap)), (0, .ref a), (1, .int (nI (cap + 1)))]) C.hx C.hb dJx4a65c_grow_92f84_30 rfl hl (by decide) rfl (fun ls hl => ?_)
    refine lv_aload_n C.hx C.hb dJx4a65c_grow_92f84_31 rfl (lv_at hl 2 rfl) ?_
    refine lv_aload_n C.hx C.hb dJx4a65c_grow_92f84_32 rfl (lv_at hl 2 rfl) ?_
    refine g_get (k := 1) (v := .ref ed) C hA rfl wu_Jx4a65c (by decide) wf_Jx4a65c_9 rfl rfl dJx4a65c_grow_92f84_33 ?_
    refine lv_iload_n C.hx C.hb dJx4a65c_grow_92f84_36 rfl (lv_at hl 0 rfl) ?_
    refine kSW (As := [.ref ed, .int (nI (gl cap))]) (rest := [.ref a]) (v := .ref sz) C (cJ_copy l G ed cap (gl cap) sz ci f hok (by omega) g2) lk_Jx4a65c_66 ⟨hB, hE, hsz⟩ rfl rfl hl (Nat.le_of_ble_eq_true rfl) dJx4a65c_grow_92f84_37 ⟨⟨by decide, by decide⟩, by decide, by decide⟩ hS (fun q h => Or.inr h) (fun H locs hPq hz1 hk1 hS => ?_)
    have hA := hA.kept (hk1 _ (by rw [hsz]; exact ha) (by omega))
    have hN := hPq.1
    refine lv_dup_x1 C.hx C.hb dJx4a65c_grow_92f84_40 rfl rfl ?_
    refine g_put (k := 1) tyJx4a65c C hS hA (Or.inl rfl) rfl wu_Jx4a65c tyJx4a65c_ok nmJx4a65c (by decide) wf_Jx4a65c_9 rfl rfl rfl rfl rfl (Nat.le_of_ble_eq_true rfl) dJx4a65c_grow_92f84_41 (fun H locs hA o3 z3 hS => ?_)
    have hN := hN.kept (o3 _ (by omega))
    exact wA C hr (Or.inr ⟨_, rfl⟩) (Or.inr ⟨_, rfl⟩) dJx4a65c_grow_92f84_44 hS rfl ⟨hA, hN, by rw [z3]; exact hPq.2⟩
  · exact absurd (show nI 0 < nI cap from nI_lt hc0 (by omega)) c1
set_option maxRecDepth 100000 in
set_option maxHeartbeats 400000 in
theorem cJ_growB0 (l : Launch) (G : GG) (a ed cap sz ci : Nat) (mc : Int32) (f : Nat → Option Nat) (hok : OKc ci) (hc0 : 0 < cap) (hc : cap ≤ 400) : MW l G yJx4a65c_grow_d5877 cJx4a65c_grow_d5877 1 (some (.array (.object "java/lang/Object"))) 4 [.ref a] (fun H => va_at G.1 vwCl (a, lob mc ed cap) H ∧ va_at G.1 vwCl (ed, .inl (G.2 5, qs cap f)) H ∧ els G ci cap f H ∧ H.size = sz) (some (.ref sz)) (fun H => va_at G.1 vwCl (a, lob mc sz cap) H ∧ va_at G.1 vwCl (sz, .inl (G.2 5, qs (gl cap) (va_cpy f (fun _ => none) 0 0 cap))) H ∧ H.size = sz + 1) (fun q => q = a ∨ sz ≤ q) 1 600 := by
  refine MW.of RJx4a65c rfl (by decide) (Nat.le_of_ble_eq_true rfl) ?_
  intro p_ e_ s_ m_ args_ below_ meth_ c_ ls hargs C hr hnm hP hS hl
  have hl : lv_has ls 1 [(0, .ref a)] := hl
  refine lv_aload_n C.hx C.hb dJx4a65c_grow_d5877_0 rfl (lv_at hl 0 rfl) ?_
  refine lv_aload_n C.hx C.hb dJx4a65c_grow_d5877_1 rfl (lv_at hl 0 rfl) ?_
  refine g_get (k := 2) (v := .int (nI cap)) C hP.1 rfl wu_Jx4a65c (by decide) wf_Jx4a65c_48 rfl rfl dJx4a65c_grow_d5877_2 ?_
  refine lv_iconst (v := 1) C.hx C.hb dJx4a65c_grow_d5877_5 (by decide) ?_
  refine lv_iadd C.hx C.hb dJx4a65c_grow_d5877_6 ?_
  refine W.eq (g2 := F0 m_ 7 ls [.int (nI (cap + 1)), .ref a]) (by rw [nI_1]) ?_
  refine kVW (As := [.int (nI (cap + 1))]) (rest := []) (v := .ref sz) C (cJ_growB l G a ed cap sz ci mc f hok hc0 hc) lk_Jx4a65c_69 (g_recv C hP.1 rfl) hP rfl rfl hl (Nat.le_of_ble_eq_true rfl) dJx4a65c_grow_d5877_7 ⟨⟨by decide, by decide⟩, by decide, by decide⟩ hS (fun q h => h) (fun H locs hPq hz1 hk1 hS => ?_)
  exact wA C hr (Or.inr ⟨_, rfl⟩) (Or.inr ⟨_, rfl⟩) dJx4a65c_grow_d5877_10 hS rfl hPq
set_option maxRecDepth 100000 in
set_option maxHeartbeats 400000 in
theorem cJ_growA (l : Launch) (G : GG) (a sz : Nat) (mc : Int32) : MW l G yJx4a65c_grow_92f84 cJx4a65c_grow_92f84 4 (some (.array (.object "java/lang/Object"))) 3 [.ref a, .int 1] (fun H => va_at G.1 vwCl (a, lob mc (G.2 8) 0) H ∧ DZ G H ∧ H.size = sz) (some (.ref sz)) (fun H => va_at G.1 vwCl (a, lob mc sz 0) H ∧ va_at G.1 vwCl (sz, .inl (G.2 5, qs 10 (fun _ => none))) H ∧ H.size = sz + 1) (fun q => q = a ∨ sz ≤ q) 1 600 := by
  refine MW.of RJx4a65c rfl (by decide) (Nat.le_of_ble_eq_true rfl) ?_
  intro p_ e_ s_ m_ args_ below_ meth_ c_ ls hargs C hr hnm hP hS hl
  have hl : lv_has ls 4 [(0, .ref a), (1, .int 1)] := hl
  obtain ⟨hA, hZ, hsz⟩ := hP
  have ha : a < sz := by rw [← hsz]; exact hA.lt
  refine lv_aload_n C.hx C.hb dJx4a65c_grow_92f84_0 rfl (lv_at hl 0 rfl) ?_
  refine g_get (k := 1) (v := .ref (G.2 8)) C hA rfl wu_Jx4a65c (by decide) wf_Jx4a65c_9 rfl rfl dJx4a65c_grow_92f84_1 ?_
  refine g_tlen C hZ dJx4a65c_grow_92f84_4 ?_
  refine lv_istore_n (lv' := [(2, .int 0), (0, .ref a), (1, .int 1)]) C.hx C.hb dJx4a65c_grow_92f84_5 rfl hl (by decide) rfl (fun ls hl => ?_)
  refine lv_iload_n C.hx C.hb dJx4a65c_grow_92f84_6 rfl (lv_at hl 0 rfl) ?_
  refine lv_if_gt (tgt := 20) C.hx C.hb dJx4a65c_grow_92f84_7 (by decide) (fun c1 => ?_) (fun c1 => ?_)
  · exact absurd c1 (by decide)
  · refine lv_aload_n C.hx C.hb dJx4a65c_grow_92f84_10 rfl (lv_at hl 1 rfl) ?_
    refine g_get (k := 1) (v := .ref (G.2 8)) C hA rfl wu_Jx4a65c (by decide) wf_Jx4a65c_9 rfl rfl dJx4a65c_grow_92f84_11 ?_
    refine g_gets C hZ wf_Jx4a65c_39 dJx4a65c_grow_92f84_14 ?_
    refine lv_acmp_eq (rx := some (G.2 8)) (ry := some (G.2 8)) (tgt := 45) C.hx C.hb dJx4a65c_grow_92f84_17 (by decide) (fun _ => ?_) (fun q => absurd rfl q)
    refine lv_aload_n C.hx C.hb dJx4a65c_grow_92f84_45 rfl (lv_at hl 1 rfl) ?_
    refine lv_bipush (v := 10) C.hx C.hb dJx4a65c_grow_92f84_46 (by decide) ?_
    refine lv_iload_n C.hx C.hb dJx4a65c_grow_92f84_48 rfl (lv_at hl 2 rfl) ?_
    refine g_max C hl mm_Jx4a65c_79 ⟨by decide, Nat.le_of_ble_eq_true rfl, by decide, by decide⟩ dJx4a65c_grow_92f84_49 ?_
    refine g_newq (N := 10) (t0 := 5) C hS wl_Jx4a65c_7 ov_Object rfl (by decide) (by decide) (by decide) (by decide) dJx4a65c_grow_92f84_52 (fun H hN oa za hS => ?_)
    rw [hsz] at hN za ⊢
    have hA := hA.kept (oa _ hA.lt)
    refine W.widen (k := 1) (n := 600) (by omega) (by omega) ?_
    refine lv_dup_x1 C.hx C.hb dJx4a65c_grow_92f84_55 rfl rfl ?_
    refine g_put (k := 1) tyJx4a65c C hS hA (Or.inl rfl) rfl wu_Jx4a65c tyJx4a65c_ok nmJx4a65c (by decide) wf_Jx4a65c_9 rfl rfl rfl rfl rfl (Nat.le_of_ble_eq_true rfl) dJx4a65c_grow_92f84_56 (fun H locs hA o3 z3 hS => ?_)
    have hN := hN.kept (o3 _ (by omega))
    exact wA C hr (Or.inr ⟨_, rfl⟩) (Or.inr ⟨_, rfl⟩) dJx4a65c_grow_92f84_59 hS rfl ⟨hA, hN, by rw [z3]; exact za⟩
set_option maxRecDepth 100000 in
set_option maxHeartbeats 400000 in
theorem cJ_growA0 (l : Launch) (G : GG) (a sz : Nat) (mc : Int32) : MW l G yJx4a65c_grow_d5877 cJx4a65c_grow_d5877 1 (some (.array (.object "java/lang/Object"))) 4 [.ref a] (fun H => va_at G.1 vwCl (a, lob mc (G.2 8) 0) H ∧ DZ G H ∧ H.size = sz) (some (.ref sz)) (fun H => va_at G.1 vwCl (a, lob mc sz 0) H ∧ va_at G.1 vwCl (sz, .inl (G.2 5, qs 10 (fun _ => none))) H ∧ H.size = sz + 1) (fun q => q = a ∨ sz ≤ q) 1 600 := by
  refine MW.of RJx4a65c rfl (by decide) (Nat.le_of_ble_eq_true rfl) ?_
  intro p_ e_ s_ m_ args_ below_ meth_ c_ ls hargs C hr hnm hP hS hl
  have hl : lv_has ls 1 [(0, .ref a)] := hl
  refine lv_aload_n C.hx C.hb dJx4a65c_grow_d5877_0 rfl (lv_at hl 0 rfl) ?_
  refine lv_aload_n C.hx C.hb dJx4a65c_grow_d5877_1 rfl (lv_at hl 0 rfl) ?_
  refine g_get (k := 2) (v := .int (nI 0)) C hP.1 rfl wu_Jx4a65c (by decide) wf_Jx4a65c_48 rfl rfl dJx4a65c_grow_d5877_2 ?_
  refine lv_iconst (v := 1) C.hx C.hb dJx4a65c_grow_d5877_5 (by decide) ?_
  refine lv_iadd C.hx C.hb dJx4a65c_grow_d5877_6 ?_
  refine W.eq (g2 := F0 m_ 7 ls [.int 1, .ref a]) rfl ?_
  refine kVW (As := [.int 1]) (rest := []) (v := .ref sz) C (cJ_growA l G a sz mc) lk_Jx4a65c_69 (g_recv C hP.1 rfl) hP rfl rfl hl (Nat.le_of_ble_eq_true rfl) dJx4a65c_grow_d5877_7 ⟨⟨by decide, by decide⟩, by decide, by decide⟩ hS (fun q h => h) (fun H locs hPq hz1 hk1 hS => ?_)
  exact wA C hr (Or.inr ⟨_, rfl⟩) (Or.inr ⟨_, rfl⟩) dJx4a65c_grow_d5877_10 hS rfl hPq
