theorem gc_l : Cond.methodLink RJ7 86 ⟨"java/lang/Object", "getClass", "()Ljava/lang/Class;"⟩ ∈ gtbl := (gt_in 363 (by decide +kernel) rfl)
theorem gc_s : Cond.selects "[Ljava/lang/Object;" ⟨"java/lang/Object", "getClass", "()Ljava/lang/Class;"⟩ ⟨"java/lang/Object", "getClass", "()Ljava/lang/Class;"⟩ ∈ gtbl := (gt_in 1187 (by decide +kernel) rfl)
theorem gc_i : Cond.instanceMethod ⟨"java/lang/Object", "getClass", "()Ljava/lang/Class;"⟩ ∈ gtbl := (gt_in 364 (by decide +kernel) rfl)
theorem gc_n : Cond.native ⟨"java/lang/Object", "getClass", "()Ljava/lang/Class;"⟩ ∈ gtbl := (gt_in 376 (by decide +kernel) rfl)
theorem ov_Rule : Cond.arrayOver (.object "ModeratorsBench$Rule") ∈ lw_tbl := List.mem_of_getElem? (i := 102) (by decide +kernel)
theorem ov_Judge : Cond.arrayOver (.object "ModeratorsBench$Judge") ∈ lw_tbl := List.mem_of_getElem? (i := 104) (by decide +kernel)
theorem ov_Object : Cond.arrayOver (.object "java/lang/Object") ∈ lw_tbl := List.mem_of_getElem? (i := 381) (by decide +kernel)
def gl (c : Nat) : Nat := c + (if 1 < c / 2 then c / 2 else 1)
theorem gl_lt (c : Nat) : c < gl c := by unfold gl; split <;> omega
theorem gl_le {c : Nat} (h : c ≤ 400) : gl c ≤ 600 := by unfold gl; split <;> omega
theorem els.kept {G : GG} {ci n : Nat} {f : Nat → Option Nat} {H H1 : Heap} (h : els G ci n f H) (o : ∀ j y, j < n → f j = some y → H1[y]? = H[y]?) : els G ci n f H1 := fun j hj => by
  obtain ⟨y, fs, h1, h2⟩ := h j hj
  exact ⟨y, fs, h1, h2.kept (o j y hj h1)⟩
theorem els.lt {G : GG} {ci n : Nat} {f : Nat → Option Nat} {H : Heap} (h : els G ci n f H) {j y : Nat} (hj : j < n) (hy : f j = some y) : y < H.size := by
  obtain ⟨y2, fs, h1, h2⟩ := h j hj
  rw [hy] at h1
  cases h1
  exact h2.lt
set_option maxRecDepth 100000 in
set_option maxHeartbeats 400000 in
theorem cJ_newLength (l : Launch) (G : GG) (c : Nat) (hc : c ≤ 400) : MR l G yJ8_newLength_cabcc cJ8_newLength_cabcc 4 (some .int) 2 [.int (nI c), .int (nI 1), .int (nI (c / 2))] (fun _ => True) (some (.int (nI (gl c)))) := by
  refine MR.of RJ8 rfl (by decide) (Nat.le_of_ble_eq_true rfl) ?_
  intro p_ e_ s_ m_ args_ below_ meth_ c_ ls hargs C hr hnm hP hl
  have hl : lv_has ls 4 [(0, .int (nI c)), (1, .int (nI 1)), (2, .int (nI (c / 2)))] := hl
  have g1 := gl_lt c
  have g2 := gl_le hc
  refine lv_iload_n C.hx C.hb dJ8_newLength_cabcc_0 rfl (lv_at hl 0 rfl) ?_
  refine lv_iload_n C.hx C.hb dJ8_newLength_cabcc_1 rfl (lv_at hl 1 rfl) ?_
  refine lv_iload_n C.hx C.hb dJ8_newLength_cabcc_2 rfl (lv_at hl 2 rfl) ?_
  refine g_max C hl mm_J8_194 ⟨by decide, Nat.le_of_ble_eq_true rfl, by decide, by decide⟩ dJ8_newLength_cabcc_3 ?_
  refine lv_iadd C.hx C.hb dJ8_newLength_cabcc_6 ?_
  refine lv_topi (fun nz hnz => ?_)
  obtain rfl : nz = nI (gl c) := hnz.trans (by rw [max_nI (by decide) (by omega), nI_add]; rfl)
  refine lv_istore_n (lv' := [(3, .int (nI (gl c))), (0, .int (nI c)), (1, .int (nI 1)), (2, .int (nI (c / 2)))]) C.hx C.hb dJ8_newLength_cabcc_7 rfl hl (by decide) rfl (fun ls hl => ?_)
  refine lv_iconst (v := 0) C.hx C.hb dJ8_newLength_cabcc_8 (by decide) ?_
  refine lv_iload_n C.hx C.hb dJ8_newLength_cabcc_9 rfl (lv_at hl 0 rfl) ?_
  refine lv_icmp_ge (tgt := 21) C.hx C.hb dJ8_newLength_cabcc_10 (by decide) (fun c1 => ?_) (fun c1 => ?_)
  · exact absurd c1 (nI_nle (by omega) (by omega))
  · refine lv_iload_n C.hx C.hb dJ8_newLength_cabcc_13 rfl (lv_at hl 0 rfl) ?_
    refine lv_ldc (v := 2147483639) C.hx C.hb C.hown (C.hT _ wk_J8_200) dJ8_newLength_cabcc_14 ?_
    refine lv_icmp_gt (tgt := 21) C.hx C.hb dJ8_newLength_cabcc_16 (by decide) (fun c2 => ?_) (fun c2 => ?_)
    · exact absurd c2 (show ¬ nI 2147483639 < nI (gl c) from nI_nlt (by omega) (by decide))
    · refine lv_iload_n C.hx C.hb dJ8_newLength_cabcc_19 rfl (lv_at hl 0 rfl) ?_
      exact rI C hr dJ8_newLength_cabcc_20 rfl
set_option maxRecDepth 100000 in
set_option maxHeartbeats 400000 in
theorem cJ_copy3 (l : Launch) (G : GG) (ed cap w sz ci : Nat) (f : Nat → Option Nat) (hok : OKc ci) (hcw : cap ≤ w) (hw : w ≤ 600) : MW l G yJ7_copyOf_6403c cJ7_copyOf_6403c 4 (some (.array (.object "java/lang/Object"))) 1 [.ref ed, .int (nI w), .ref (G.2 9)] (fun H => va_at G.1 vwCl (ed, .inl (G.2 5, qs cap f)) H ∧ els G ci cap f H ∧ H.size = sz) (some (.ref sz)) (fun H => va_at G.1 vwCl (sz, .inl (G.2 5, qs w (va_cpy f (fun _ => none) 0 0 cap))) H ∧ H.size = sz + 1) (fun q => sz ≤ q) 1 600 := by
  refine MW.of RJ7 rfl (by decide) (Nat.le_of_ble_eq_true rfl) ?_
  intro p_ e_ s_ m_ args_ below_ meth_ c_ ls hargs C hr hnm hP hS hl
  have hl : lv_has ls 4 [(0, .ref ed), (1, .int (nI w)), (2, .ref (G.2 9))] := hl
  obtain ⟨hB, hE, hsz⟩ := hP
  have hB0 : ed < sz := by rw [← hsz]; exact hB.lt
  refine lv_aload_n C.hx C.hb dJ7_copyOf_6403c_0 rfl (lv_at hl 2 rfl) ?_
  refine va_ldcM C.hx C.hb C.hown (C.hT _ wl_J7_110) C.hK.2.2.2.2.2.1 dJ7_copyOf_6403c_1 ?_
  refine lv_acmp_ne (rx := some (G.2 9)) (ry := some (G.2 9)) (tgt := 13) C.hx C.hb dJ7_copyOf_6403c_3 (by decide) (fun q => absurd rfl q) (fun _ => ?_)
  refine lv_iload_n C.hx C.hb dJ7_copyOf_6403c_6 rfl (lv_at hl 1 rfl) ?_
  refine g_newq (t0 := 5) C hS wl_J7_2 ov_Object rfl rfl (show w < 2 ^ 27 by omega) (by decide) (show 0 + w ≤ 600 by omega) dJ7_copyOf_6403c_7 (fun H hN oa za hS => ?_)
  rw [hsz] at hN za ⊢
  have hE : els G ci cap f H := hE.kept (fun j y hj hy => oa _ (hE.lt hj hy))
  have hB := hB.kept (oa _ hB.lt)
  have hes : ed ≠ sz := fun q => by have := hB0; omega
  refine W.widen (k := 1) (n := 600) (by omega) (by omega) ?_
  refine lv_goto (tgt := 24) C.hx C.hb dJ7_copyOf_6403c_10 (by decide) ?_
  refine lv_astore_n (lv' := [(3, .ref sz), (0, .ref ed), (1, .int (nI w)), (2, .ref (G.2 9))]) C.hx C.hb dJ7_copyOf_6403c_24 rfl hl (by decide) rfl (fun ls hl => ?_)
  refine lv_aload_n C.hx C.hb dJ7_copyOf_6403c_25 rfl (lv_at hl 1 rfl) ?_
  refine lv_iconst (v := 0) C.hx C.hb dJ7_copyOf_6403c_26 (by decide) ?_
  refine lv_aload_n C.hx C.hb dJ7_copyOf_6403c_27 rfl (lv_at hl 0 rfl) ?_
  refine lv_iconst (v := 0) C.hx C.hb dJ7_copyOf_6403c_28 (by decide) ?_
  refine lv_aload_n C.hx C.hb dJ7_copyOf_6403c_29 rfl (lv_at hl 1 rfl) ?_
  refine g_alen (t := 0) C hB 5 rfl dJ7_copyOf_6403c_30 ?_
  refine lv_iload_n C.hx C.hb dJ7_copyOf_6403c_31 rfl (lv_at hl 2 rfl) ?_
  refine g_min C hl mm_J7_304 ⟨by decide, Nat.le_of_ble_eq_true rfl, by decide, by decide⟩ dJ7_copyOf_6403c_32 ?_
  refine W.eq (g2 := F0 m_ 35 ls [.int (nI cap), .int (nI 0), .ref sz, .int (nI 0), .ref ed]) (by rw [show (if nI w < nI (qs cap f).1 then nI w else nI (qs cap f).1) = nI cap from by show (if nI w < nI cap then nI w else nI cap) = _; rw [min_nI (by omega) (by omega), if_neg (by omega)]]; rfl) ?_
  refine g_copyq C hS hl ac_J7_150 ac_n ac_s ac_i hB hN (Nat.le_refl sz) (by omega) (by omega) (by omega) (by omega) (fun k hk y hy => by obtain ⟨y2, fs, h1, h2⟩ := hE (0 + k) (by omega); rw [hy] at h1; cases h1; exact hel_of C hok h2) (by decide) (Nat.le_of_ble_eq_true rfl) dJ7_copyOf_6403c_35 (fun H locs hN o2 z2 hS => ?_)
  refine lv_aload_n C.hx C.hb dJ7_copyOf_6403c_38 rfl (lv_at hl 0 rfl) ?_
  exact wA C hr (Or.inr ⟨_, rfl⟩) (Or.inr ⟨_, rfl⟩) dJ7_copyOf_6403c_39 hS rfl ⟨hN, by rw [z2]; exact za⟩
theorem kSW {p : Program} {l : Launch} {e : Env} {R : Room} {s : State} {m : MethodId} {args : Array Value} {below : List Frame} {meth : Method} {c : Code} {H : Heap} {locs : List Loc} {cells slots : Nat} {Q : State → Prop} {G : GG} {own : String} {cc : ByteArray} {nL : Nat} {pc : Nat} {ls : Array Slot} {rest : List Value} {A : Nat → Prop} {H0 : Heap} {lvs : List (Nat × Value)} {y : MethodName} {bytes : ByteArray} {n np k idx : Nat} {ret : Option FieldType} {As : List Value} {P P' : Heap → Prop} {mc ms : Nat} {A1 : Nat → Prop} {st : List Value} {v : Value} (C : CX G p s m args meth c own cc nL) (hM : MW l G y bytes n ret k As P (some v) P' A1 mc ms) (lk : LkS own idx y bytes n ret np) (hP : P H) (hst : st = As.reverse ++ rest) (hn : As.length = np) (hsz : lv_has ls nL lvs) (hcat : (rest.map fun v => v.category).sum ≤ 8) (hdg : decode cc pc = .ok (.invokestatic idx, 3)) (hR : (k + 1 ≤ R.frames ∧ 8 + (n + 11) + 40 * k ≤ R.locals) ∧ cells + mc ≤ R.cells ∧ slots + ms ≤ R.slots) (hS : va_S A H0 H locs) (hA : ∀ q, A1 q → A q)
    (kk : ∀ (H1 : Heap) (locs1 : List Loc), P' H1 → H.size ≤ H1.size → (∀ q : Nat, q < H.size → ¬ A1 q → H1[q]? = H[q]?) → va_S A H0 H1 locs1 → W p l e R s m args below meth c H1 locs1 (cells + mc) (slots + ms) Q (F0 m (pc + 3) ls (v :: rest))) : W p l e R s m args below meth c H locs cells slots Q (F0 m pc ls st) :=
  g_callW (va_runS (As := As) (rest := rest) C.1 hM ⟨LkB.B C lk.1 lk.2.1 hR.1, C.hT _ lk.2.2⟩ (Pk.preS C hP) rfl hn hsz.1 hst (lv_room hcat) hdg hR.2) hS hA kk
set_option maxRecDepth 100000 in
set_option maxHeartbeats 400000 in
theorem cJ_copy (l : Launch) (G : GG) (ed cap w sz ci : Nat) (f : Nat → Option Nat) (hok : OKc ci) (hcw : cap ≤ w) (hw : w ≤ 600) : MW l G yJ7_copyOf_1904c cJ7_copyOf_1904c 2 (some (.array (.object "java/lang/Object"))) 2 [.ref ed, .int (nI w)] (fun H => va_at G.1 vwCl (ed, .inl (G.2 5, qs cap f)) H ∧ els G ci cap f H ∧ H.size = sz) (some (.ref sz)) (fun H => va_at G.1 vwCl (sz, .inl (G.2 5, qs w (va_cpy f (fun _ => none) 0 0 cap))) H ∧ H.size = sz + 1) (fun q => sz ≤ q) 1 600 := by
  refine MW.of RJ7 rfl (by decide) (Nat.le_of_ble_eq_true rfl) ?_
  intro p_ e_ s_ m_ args_ below_ meth_ c_ ls hargs C hr hnm hP hS hl
  have hl : lv_has ls 2 [(0, .ref ed), (1, .int (nI w))] := hl
  refine lv_aload_n C.hx C.hb dJ7_copyOf_1904c_0 rfl (lv_at hl 0 rfl) ?_
  refine lv_iload_n C.hx C.hb dJ7_copyOf_1904c_1 rfl (lv_at hl 1 rfl) ?_
  refine lv_aload_n C.hx C.hb dJ7_copyOf_1904c_2 rfl (lv_at hl 0 rfl) ?_
  refine va_getC C.hx C.hb (by rw [C.hml]; exact hl.1.symm) C.hown (C.hT _ gc_l) (va_Dc.use C.hK.2.2.2.2.2.2) (C.hT _ gc_s) (C.hT _ gc_i) (C.hT _ gc_n) C.hK.2.2.2.2.2.1 ⟨_, hP.1, rfl, va_nmO (C.hK.1.2 5 _ rfl).2 (by decide)⟩ (by decide) (Nat.le_of_ble_eq_true rfl) dJ7_copyOf_1904c_3 ?_
  refine kSW (As := [.ref ed, .int (nI w), .ref (G.2 9)]) (rest := []) (v := .ref sz) C (cJ_copy3 l G ed cap w sz ci f hok hcw hw) lk_J7_300 hP rfl rfl hl (Nat.le_of_ble_eq_true rfl) dJ7_copyOf_1904c_6 ⟨⟨by decide, by decide⟩, by decide, by decide⟩ hS (fun q h => h) (fun H locs hPq hz1 hk1 hS => ?_)
  exact wA C hr (Or.inr ⟨_, rfl⟩) (Or.inr ⟨_, rfl⟩) dJ7_copyOf_1904c_9 hS rfl hPq
