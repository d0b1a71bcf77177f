set_option maxRecDepth 100000 in
set_option maxHeartbeats 4000000 in
/-- THE LAW, from its entry -/
theorem whole_start {p : Program} {e : Env} {s : State} {m : MethodId} {below : List Frame} {meth : Method} {c : Code} (l : Launch) {b L : Nat} {xs : Nat → Int32} (hL : L ≤ 2560) (C0 : lw_At p s m meth c b L xs) : W p l e room_1 s m #[Value.ref b] below meth c s.heap [] 0 0 (lw_Z below #[Value.ref b] s) (entryFrame m ([Value.ref b] : List Value).toArray 4) := by
  obtain ⟨hx, hb, hr, hml, hown, hts, hX, hbl, hlocks, hgv⟩ := C0
  obtain ⟨G, hKK, hDZ⟩ := start_G hts hgv
  have C : CX G p s m #[Value.ref b] meth c RL cL_law 4 := ⟨⟨hx, hb, hml, hown, fun w h => hts w (gt_tbl h)⟩, hKK, hlocks⟩
  have l6 : @LT.lt Nat _ (G.2 6) s.heap.size := by obtain ⟨q, hq, -⟩ := hDZ.1; exact (Array.getElem?_eq_some_iff.mp hq).1
  have l8 : @LT.lt Nat _ (G.2 8) s.heap.size := by obtain ⟨q, hq, -⟩ := hDZ.2; exact (Array.getElem?_eq_some_iff.mp hq).1
  obtain ⟨a0, ea⟩ : ∃ a0, a0 = s.heap.size := ⟨_, rfl⟩
  obtain ⟨A, hA⟩ : ∃ A : Nat → Prop, A = fun q => a0 ≤ q ∧ ¬ MA (a0 + 37) q := ⟨_, rfl⟩
  have I : LC G p s m meth c b L xs A (a0 + 37) := by
    refine ⟨C, hX, hbl, hL, fun q h => ?_, fun q h k => ?_, fun r h => ?_, by omega, ?_, ?_⟩
    · rw [hA] at h; rw [← ea]; exact h.1
    · rw [hA] at k; exact k.2 h
    · rw [hA]; exact ⟨by omega, fun k => by have := k.2; omega⟩
    · exact Nat.lt_of_lt_of_le l6 (by omega)
    · exact Nat.lt_of_lt_of_le l8 (by omega)
  have hS : va_S (NA s) s.heap s.heap [] := va_S.rf
  have hl := lv_entry ([.ref b]) (n := 4) (Nat.le_of_ble_eq_true rfl)
  rw [lg_entry_eq]
  generalize (lg_sl ([.ref b]) ++ List.replicate (4 - (lg_sl ([.ref b])).length) Slot.unset).toArray = ls at hl ⊢
  have hl : lv_has ls 4 [(0, .ref b)] := hl
  refine g_new (ci := 8) tyX7 (fs := [.null, .null, .null, .null, .null, .null, .null, .int 0, .int 0, .int 0]) C hS rfl wu_X7 tyX7_ok (List.mem_filter.mpr ⟨by decide +kernel, rfl⟩) wi_X7 wz_X7 (fun j hj => by match j, hj with | 0, _ => rfl | 1, _ => rfl | 2, _ => rfl | 3, _ => rfl | 4, _ => rfl | 5, _ => rfl | 6, _ => rfl | 7, _ => rfl | 8, _ => rfl | 9, _ => rfl) (by decide) (by decide) dL_law_0 (fun H hN o1 z1 hS => ?_)
  rw [← ea] at hN z1 ⊢
  refine lv_dup C.hx C.hb dL_law_3 rfl ?_
  refine kIWn (As := []) (rest := [.ref a0]) C (cC_X7_init l G A a0 (by rw [ea]; exact l6) (by rw [ea]; exact l8) (fun q h1 h2 => by rw [hA]; exact ⟨h1, fun k => by have := k.1; omega⟩) (fun k => by rw [hA] at k; exact absurd k.1 (Nat.not_le.mpr (by rw [ea]; exact l6))) (fun k => by rw [hA] at k; exact absurd k.1 (Nat.not_le.mpr (by rw [ea]; exact l8)))) lk_L_9 ⟨hN, hDZ.kept (o1 _ l6) (o1 _ l8), z1⟩ rfl rfl hl (Nat.le_of_ble_eq_true rfl) dL_law_4 ⟨⟨by decide, by decide⟩, by decide, by decide⟩ hS (fun q h => by show s.heap.size ≤ q; rw [← ea]; exact h) (fun H1 locs1 hP1 hz1 hk1 hS1 => ?_)
  obtain ⟨hC1, y1⟩ := hP1
  refine lv_astore_n (lv' := [(1, .ref a0), (0, .ref b)]) C.hx C.hb dL_law_7 rfl hl (by decide) rfl (fun ls hl => ?_)
  refine g_new (ci := 9) tyX8 (fs := mfsP (a0 + 37) x00 0) C hS1 rfl wu_X8 tyX8_ok (List.mem_filter.mpr ⟨by decide +kernel, rfl⟩) wi_X8 wz_X8 (fun j hj => by match j, hj with | 0, _ => rfl | 1, _ => rfl | 2, _ => rfl | 3, _ => rfl | 4, _ => rfl | 5, _ => rfl | 6, _ => rfl | 7, _ => rfl | 8, _ => rfl | 9, _ => rfl | 10, _ => rfl | 11, _ => rfl | 12, _ => rfl | 13, _ => rfl | 14, _ => rfl | 15, _ => rfl | 16, _ => rfl | 17, _ => rfl | 18, _ => rfl | 19, _ => rfl | 20, _ => rfl | 21, _ => rfl | 22, _ => rfl | 23, _ => rfl | 24, _ => rfl | 25, _ => rfl | 26, _ => rfl | 27, _ => rfl | 28, _ => rfl | 29, _ => rfl | 30, _ => rfl | 31, _ => rfl | 32, _ => rfl | 33, _ => rfl | 34, _ => rfl | 35, _ => rfl | 36, _ => rfl | 37, _ => rfl | 38, _ => rfl | 39, _ => rfl | 40, _ => rfl | 41, _ => rfl | 42, _ => rfl | 43, _ => rfl | 44, _ => rfl | 45, _ => rfl | 46, _ => rfl | j + 47, h => exact absurd h (by omega)) (by decide) (by decide) dL_law_8 (fun H2 hN2 o2 z2 hS2 => ?_)
  rw [y1] at hN2 z2 o2 ⊢
  have hC2 : CWd G A (ad0 a0) cx0 cy0 (fun _ => 0) H2 := hC1.kept (fun q hq _ => o2 q (by rw [← y1]; exact hq))
  refine lv_dup C.hx C.hb dL_law_11 rfl ?_
  refine kIWn (As := []) (rest := [.ref (a0 + 37)]) C (show MW l G yX8_init cX8_init 2 none 1 [.ref (a0 + 37)] _ none _ (MB (a0 + 37)) 37 49327 from cM_init l G (a0 + 37)) lk_L_12 ⟨hN2, z2⟩ rfl rfl hl (Nat.le_of_ble_eq_true rfl) dL_law_12 ⟨⟨by decide, by decide⟩, by decide, by decide⟩ hS2 (fun q h => by show s.heap.size ≤ q; have h : a0 + 37 ≤ q := h; omega) (fun H3 locs3 hP3 hz3 hk3 hS3 => ?_)
  obtain ⟨hM3, y3⟩ := hP3
  have hC3 : CWd G A (ad0 a0) cx0 cy0 (fun _ => 0) H3 := hC2.kept (fun q hq h => hk3 q hq (fun k => by
    have k : a0 + 37 ≤ q := k
    exact I.nm h ⟨k, by omega⟩))
  refine lv_astore_n (lv' := [(2, .ref (a0 + 37)), (1, .ref a0), (0, .ref b)]) C.hx C.hb dL_law_15 rfl hl (by decide) rfl (fun ls hl => ?_)
  refine lv_iconst (v := 0) C.hx C.hb dL_law_16 (by decide) ?_
  refine lv_istore_n (lv' := [(3, .int 0), (2, .ref (a0 + 37)), (1, .ref a0), (0, .ref b)]) C.hx C.hb dL_law_17 rfl hl (by decide) rfl (fun ls hl => ?_)
  refine W.widen (k := 100 + 3 * 0) (n := 60000 + 619 * 0) (by decide) (by decide) ?_
  exact law_loop I hr 513 0 ls H3 locs3 rfl (Nat.zero_le _) ⟨ad0 a0, cx0, cy0, fun _ => 0, x02, fun _ => 0, rfl, hC3, hM3, rel0, by rw [y3]; omega⟩ hS3 (lv_sub hl [0, 2, 1, 3] rfl)
