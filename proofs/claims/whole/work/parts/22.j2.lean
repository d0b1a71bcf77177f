theorem w_same : Cond.sameField "java/util/ArrayList" "java/util/AbstractList" "modCount" "I" ∈ gtbl := (gt_in 123 (by decide +kernel) rfl)
theorem ac_n : Cond.native arraycopyName ∈ gtbl := (gt_in 388 (by decide +kernel) rfl)
theorem ac_s : Cond.static arraycopyName ∈ gtbl := (gt_in 387 (by decide +kernel) rfl)
theorem ac_i : Cond.initialized "java/lang/System" ∈ gtbl := wz_J10
theorem ac_J7_150 : Cond.methodLink RJ7 150 arraycopyName ∈ gtbl := (gt_in 386 (by decide +kernel) rfl)
theorem ac_Jx4a65c_112 : Cond.methodLink RJx4a65c 112 arraycopyName ∈ gtbl := (gt_in 555 (by decide +kernel) rfl)
theorem cs_X6 : Cond.castable RX6 "java/lang/Object" ∈ lw_tbl := List.mem_of_getElem? (i := 1176) (by decide +kernel)
theorem cs_X3 : Cond.castable RX3 "java/lang/Object" ∈ lw_tbl := List.mem_of_getElem? (i := 1177) (by decide +kernel)
theorem cs_X7 : Cond.castable RX7 "java/lang/Object" ∈ lw_tbl := List.mem_of_getElem? (i := 1178) (by decide +kernel)
theorem cs_Jx4a65c : Cond.castable RJx4a65c "java/lang/Object" ∈ lw_tbl := List.mem_of_getElem? (i := 1179) (by decide +kernel)
theorem cs_X4 : Cond.castable RX4 "java/lang/Object" ∈ lw_tbl := List.mem_of_getElem? (i := 1180) (by decide +kernel)
theorem cs_X8 : Cond.castable RX8 "java/lang/Object" ∈ lw_tbl := List.mem_of_getElem? (i := 1181) (by decide +kernel)
theorem cs_X5 : Cond.castable RX5 "java/lang/Object" ∈ lw_tbl := List.mem_of_getElem? (i := 1182) (by decide +kernel)
theorem cs_X0 : Cond.castable RX0 "java/lang/Object" ∈ lw_tbl := List.mem_of_getElem? (i := 1183) (by decide +kernel)
theorem cs_X2 : Cond.castable RX2 "java/lang/Object" ∈ lw_tbl := List.mem_of_getElem? (i := 1184) (by decide +kernel)
theorem cs_X1 : Cond.castable RX1 "java/lang/Object" ∈ lw_tbl := List.mem_of_getElem? (i := 1185) (by decide +kernel)
def OKc (ci : Nat) : Prop := ∃ q : vw_C, vwCl[ci]? = some q ∧ Cond.castable q.1 "java/lang/Object" ∈ lw_tbl
theorem okc1 : OKc 1 := ⟨_, rfl, cs_X0⟩
theorem okc2 : OKc 2 := ⟨_, rfl, cs_X1⟩
theorem okc6 : OKc 6 := ⟨_, rfl, cs_X5⟩
/-- the first n places hold made objects of one kind -/
def els (G : GG) (ci n : Nat) (f : Nat → Option Nat) (H : Heap) : Prop := ∀ j, j < n → ∃ (y : Nat) (fs : List Value), f j = some y ∧ va_at G.1 vwCl (y, .inr (ci, fs)) H
section JS
variable {p : Program} {l : Launch} {e : Env} {R : Room} {s : State} {m : MethodId} {args : Array Value} {below : List Frame} {meth : Method} {c : Code} {H : Heap} {locs : List Loc} {cells slots : Nat} {Q : State → Prop}
variable {G : GG} {own : String} {cc : ByteArray} {nL : Nat} {pc : Nat} {ls : Array Slot} {rest : List Value} {A : Nat → Prop} {H0 : Heap}
theorem hel_of {ci y : Nat} {fs : List Value} (C : CX G p s m args meth c own cc nL) (hok : OKc ci) (h : va_at G.1 vwCl (y, .inr (ci, fs)) H) : ∃ cv : Cell, H[y]? = some cv ∧ cv.vm.isStatics = false ∧ (∃ kC : Class, s.vm.classes[cv.cls]? = some kC) ∧ ∀ comp : ClassId, s.vm.findClass "java/lang/Object" = some comp → s.vm.assignable cv.cls comp = true := by
  obtain ⟨q, hq, hm⟩ := hok
  obtain ⟨cv, g1, g3, g2⟩ := g_recv C h hq
  obtain ⟨kC, hkC, -⟩ := Vm.findClass_spec g2
  exact ⟨cv, g1, g3, ⟨kC, hkC⟩, fun comp hc => asg_obj C hm _ _ g2 hc⟩
/-- modCount, an inherited field -/
theorem g_getM {a : Nat} {mc : Int32} {w1 w2 : Value} (C : CX G p s m args meth c RJx4a65c cc nL) (h : va_at G.1 vwCl (a, .inr (0, [.int mc, w1, w2])) H) (hdg : decode cc pc = .ok (.getfield 63, 3))
    (kk : W p l e R s m args below meth c H locs cells slots Q (F0 m (pc + 3) ls (.int mc :: rest))) : W p l e R s m args below meth c H locs cells slots Q (F0 m pc ls (.ref a :: rest)) :=
  va_get C.hx C.hb C.hT wu_Jx4a65c C.hown C.hK.1 (va_one h) 0 rfl rfl 0 (by decide) (C.hT _ wf_Jx4a65c_63) (u_same (C.hT _ w_same)) rfl hdg kk
theorem g_putM {a : Nat} {mc v : Int32} {w1 w2 : Value} (C : CX G p s m args meth c RJx4a65c cc nL) (hS : va_S A H0 H locs) (h : va_at G.1 vwCl (a, .inr (0, [.int mc, w1, w2])) H) (ha : A a) (hdg : decode cc pc = .ok (.putfield 63, 3))
    (kk : ∀ (H1 : Heap) (locs1 : List Loc), va_at G.1 vwCl (a, .inr (0, [.int v, w1, w2])) H1 → (∀ q, q ≠ a → H1[q]? = H[q]?) → H1.size = H.size → va_S A H0 H1 locs1 → W p l e R s m args below meth c H1 locs1 cells slots Q (F0 m (pc + 3) ls rest)) : W p l e R s m args below meth c H locs cells slots Q (F0 m pc ls (.int v :: .ref a :: rest)) := by
  have hK := C.hK.1
  have hap := va_apart (own := RJx4a65c) C.hT wu_Jx4a65c tyJx4a65c tyJx4a65c_ok nmJx4a65c hK (ci := 0) rfl
  obtain ⟨r, h1, cell, q1, q2, q3, q4⟩ := h
  have hr : r = (RJx4a65c, TJx4a65c, 3) := Option.some.inj (h1.symm.trans rfl)
  subst hr
  obtain ⟨hSl, hfc, kC, hkC, hkind⟩ := hK.1 0 _ rfl
  obtain ⟨cf, kf, fi, f, hi, hsl⟩ := hSl 0 (by decide)
  have hlay := C.hT _ (wu_Jx4a65c _ (u_in_lay (k := 0) (by decide)))
  unfold u_lay at hlay
  rw [if_neg (by decide)] at hlay
  have hst := (u_facts hfc hkC (u_lays C.hT wu_Jx4a65c (k := 0) (by decide)) hi).1
  have h6 := u_store (v := .int v) (ty := .int) hfc hkC hkind hlay hi (tyJx4a65c_ok 0 (by decide)) rfl rfl
  refine W.putK C.hx C.hb (f := f) ⟨C.hown, C.hT _ wf_Jx4a65c_63, ⟨_, _, _, u_same (C.hT _ w_same) _ hi⟩, hst⟩ (by rw [q2]; exact h6) q1 q3 (by rw [hsl]; exact k2_hasslot (q4 0 (by decide))) rfl rfl hdg fun H' e1 e2 e3 => ?_
  rw [hsl] at e1 ⊢
  exact kk H' _ ⟨_, rfl, t_OB.to (V := updV (vp_V [.int mc, w1, w2]) 0 (.int v)) ⟨_, e1, q2, q3, t_set q4 hap (by decide) (.int v)⟩ (fun j _ => vp_updV_set (Nat.le_of_ble_eq_true rfl) (.int v) j)⟩ e3 e2 (hS.put e2 e3 ha)
end JS
/-- one element taken out -/
def rmf (f : Nat → Option Nat) (i n : Nat) : Nat → Option Nat := fun j => if j < i then f j else if j + 1 < n then f (j + 1) else if j + 1 = n then none else f j
theorem rmf1 {f : Nat → Option Nat} {i n : Nat} (h : i < n - 1) : va_up (va_cpy f f (i + 1) i (n - 1 - i)) (n - 1) none = rmf f i n := by
  funext j
  unfold va_up rmf
  by_cases h1 : j = n - 1
  · rw [if_pos h1, if_neg (by omega), if_neg (by omega), if_pos (by omega)]
  · rw [if_neg h1]
    by_cases h2 : j < i
    · rw [pk_cpy_out (by omega), if_pos h2]
    · rw [if_neg h2]
      by_cases h3 : j + 1 < n
      · rw [pk_cpy_in (by omega) (by omega), if_pos h3, show i + 1 + (j - i) = j + 1 by omega]
      · rw [pk_cpy_out (by omega), if_neg h3, if_neg (by omega)]
theorem rmf2 {f : Nat → Option Nat} {i n : Nat} (hi : i < n) (h : n - 1 ≤ i) : va_up f (n - 1) none = rmf f i n := by
  funext j
  unfold va_up rmf
  by_cases h1 : j = n - 1
  · rw [if_pos h1, if_neg (by omega), if_neg (by omega), if_pos (by omega)]
  · rw [if_neg h1]
    by_cases h2 : j < i
    · rw [if_pos h2]
    · rw [if_neg h2, if_neg (by omega), if_neg (by omega)]
theorem leN {a b : Nat} (h : nI a ≤ nI b) (hb : a < 2 ^ 31 ∧ b < 2 ^ 31) : a ≤ b := (nI_leI hb.1 hb.2).mp h
theorem gtN {a b : Nat} (h : ¬ nI a ≤ nI b) (hb : a < 2 ^ 31 ∧ b < 2 ^ 31) : b < a := Nat.lt_of_not_le (fun q => h ((nI_leI hb.1 hb.2).mpr q))
set_option maxRecDepth 100000 in
set_option maxHeartbeats 400000 in
theorem cJ_fastRemove (l : Launch) (G : GG) (a ed n cap : Nat) (mc : Int32) (f : Nat → Option Nat) (i : Nat) (hi : i < n) (hn : n ≤ cap) (hc : cap < 2 ^ 31) (hea : ed ≠ a) (hne : ∀ j y, j < n → f j = some y → y ≠ a) : MW l G yJx4a65c_fastRemove_b59b0 cJx4a65c_fastRemove_b59b0 4 none 1 [.ref a, .ref ed, .int (nI i)] (fun H => va_at G.1 vwCl (a, lob mc ed n) H ∧ va_at G.1 vwCl (ed, .inl (G.2 5, qs cap f)) H ∧ els G 2 n f H) none (fun H => va_at G.1 vwCl (a, lob (mc + 1) ed (n - 1)) H ∧ va_at G.1 vwCl (ed, .inl (G.2 5, qs cap (rmf f i n))) H) (fun q => q = a ∨ q = ed) 0 0 := by
  refine MW.of RJx4a65c rfl (by decide) (Nat.le_of_ble_eq_true rfl) ?_
  intro p_ e_ s_ m_ args_ below_ meth_ c_ ls hargs C hr hnm hP hS hl
  have hl : lv_has ls 4 [(0, .ref a), (1, .ref ed), (2, .int (nI i))] := hl
  obtain ⟨hA, hB, hE⟩ := hP
  refine lv_aload_n C.hx C.hb dJx4a65c_fastRemove_b59b0_0 rfl (lv_at hl 0 rfl) ?_
  refine lv_dup C.hx C.hb dJx4a65c_fastRemove_b59b0_1 rfl ?_
  refine g_getM C hA dJx4a65c_fastRemove_b59b0_2 ?_
  refine lv_iconst (v := 1) C.hx C.hb dJx4a65c_fastRemove_b59b0_5 (by decide) ?_
  refine lv_iadd C.hx C.hb dJx4a65c_fastRemove_b59b0_6 ?_
  refine g_putM C hS hA (Or.inl rfl) dJx4a65c_fastRemove_b59b0_7 (fun H locs hA o1 z1 hS => ?_)
  have hB := hB.kept (o1 _ hea)
  have hE : els G 2 n f H := fun j hj => by obtain ⟨y, fs, h1, h2⟩ := hE j hj; exact ⟨y, fs, h1, h2.kept (o1 _ (hne j y hj h1))⟩
  refine lv_aload_n C.hx C.hb dJx4a65c_fastRemove_b59b0_10 rfl (lv_at hl 0 rfl) ?_
  refine g_get (k := 2) (v := .int (nI n)) C hA rfl wu_Jx4a65c (by decide) wf_Jx4a65c_48 rfl rfl dJx4a65c_fastRemove_b59b0_11 ?_
  refine lv_iconst (v := 1) C.hx C.hb dJx4a65c_fastRemove_b59b0_14 (by decide) ?_
  refine lv_isub C.hx C.hb dJx4a65c_fastRemove_b59b0_15 ?_
  refine lv_topi (fun nz hnz => ?_)
  obtain rfl : nz = nI (n - 1) := hnz.trans (pk_sub (a := n) (b := 1) (by omega))
  refine lv_dup C.hx C.hb dJx4a65c_fastRemove_b59b0_16 rfl ?_
  refine lv_istore_n (lv' := [(3, .int (nI (n - 1))), (0, .ref a), (1, .ref ed), (2, .int (nI i))]) C.hx C.hb dJx4a65c_fastRemove_b59b0_17 rfl hl (by decide) rfl (fun ls hl => ?_)
  refine lv_iload_n C.hx C.hb dJx4a65c_fastRemove_b59b0_18 rfl (lv_at hl 3 rfl) ?_
  refine lv_icmp_le (tgt := 34) C.hx C.hb dJx4a65c_fastRemove_b59b0_19 (by decide) (fun c1 => ?_) (fun c1 => ?_)
  · refine lv_aload_n C.hx C.hb dJx4a65c_fastRemove_b59b0_34 rfl (lv_at hl 2 rfl) ?_
    refine lv_aload_n C.hx C.hb dJx4a65c_fastRemove_b59b0_35 rfl (lv_at hl 1 rfl) ?_
    refine lv_iload_n C.hx C.hb dJx4a65c_fastRemove_b59b0_36 rfl (lv_at hl 0 rfl) ?_
    refine lv_dup_x1 C.hx C.hb dJx4a65c_fastRemove_b59b0_37 rfl rfl ?_
    refine g_put (k := 2) tyJx4a65c C hS hA (Or.inl rfl) rfl wu_Jx4a65c tyJx4a65c_ok nmJx4a65c (by decide) wf_Jx4a65c_48 rfl rfl rfl rfl rfl (Nat.le_of_ble_eq_true rfl) dJx4a65c_fastRemove_b59b0_38 (fun H locs hA o3 z3 hS => ?_)
    have hB := hB.kept (o3 _ hea)
    refine lv_null C.hx C.hb dJx4a65c_fastRemove_b59b0_41 ?_
    refine g_aastN (t0 := 5) C hS hB (Or.inr rfl) rfl rfl (show n - 1 < cap by omega) hc dJx4a65c_fastRemove_b59b0_42 (fun H locs hB o4 z4 hS => ?_)
    have hA := hA.kept (o4 _ (Ne.symm hea))
    exact wV C hr dJx4a65c_fastRemove_b59b0_43 hS ⟨hA, by rw [← rmf2 hi (leN c1 (by omega))]; exact hB⟩
  · refine lv_aload_n C.hx C.hb dJx4a65c_fastRemove_b59b0_22 rfl (lv_at hl 2 rfl) ?_
    refine lv_iload_n C.hx C.hb dJx4a65c_fastRemove_b59b0_23 rfl (lv_at hl 3 rfl) ?_
    refine lv_iconst (v := 1) C.hx C.hb dJx4a65c_fastRemove_b59b0_24 (by decide) ?_
    refine lv_iadd C.hx C.hb dJx4a65c_fastRemove_b59b0_25 ?_
    refine lv_aload_n C.hx C.hb dJx4a65c_fastRemove_b59b0_26 rfl (lv_at hl 2 rfl) ?_
    refine lv_iload_n C.hx C.hb dJx4a65c_fastRemove_b59b0_27 rfl (lv_at hl 3 rfl) ?_
    refine lv_iload_n C.hx C.hb dJx4a65c_fastRemove_b59b0_28 rfl (lv_at hl 0 rfl) ?_
    refine lv_iload_n C.hx C.hb dJx4a65c_fastRemove_b59b0_29 rfl (lv_at hl 3 rfl) ?_
    refine lv_isub C.hx C.hb dJx4a65c_fastRemove_b59b0_30 ?_
    refine W.eq (g2 := F0 m_ 31 ls [.int (nI (n - 1 - i)), .int (nI i), .ref ed, .int (nI (i + 1)), .ref ed]) (by rw [nI_1, pk_sub (by have := gtN c1 (by omega); omega)]) ?_
    refine g_copyq C hS hl ac_Jx4a65c_112 ac_n ac_s ac_i hB hB (Or.inr rfl) hc hc (by have := gtN c1 (by omega); omega) (by have := gtN c1 (by omega); omega) (fun k hk y hy => by obtain ⟨y2, fs, h1, h2⟩ := hE (i + 1 + k) (by omega); rw [hy] at h1; cases h1; exact hel_of C okc2 h2) (by decide) (Nat.le_of_ble_eq_true rfl) dJx4a65c_fastRemove_b59b0_31 (fun H locs hB o2 z2 hS => ?_)
    have hA := hA.kept (o2 _ (Ne.symm hea))
    refine lv_aload_n C.hx C.hb dJx4a65c_fastRemove_b59b0_34 rfl (lv_at hl 2 rfl) ?_
    refine lv_aload_n C.hx C.hb dJx4a65c_fastRemove_b59b0_35 rfl (lv_at hl 1 rfl) ?_
    refine lv_iload_n C.hx C.hb dJx4a65c_fastRemove_b59b0_36 rfl (lv_at hl 0 rfl) ?_
    refine lv_dup_x1 C.hx C.hb dJx4a65c_fastRemove_b59b0_37 rfl rfl ?_
    refine g_put (k := 2) tyJx4a65c C hS hA (Or.inl rfl) rfl wu_Jx4a65c tyJx4a65c_ok nmJx4a65c (by decide) wf_Jx4a65c_48 rfl rfl rfl rfl rfl (Nat.le_of_ble_eq_true rfl) dJx4a65c_fastRemove_b59b0_38 (fun H locs hA o3 z3 hS => ?_)
    have hB := hB.kept (o3 _ hea)
    refine lv_null C.hx C.hb dJx4a65c_fastRemove_b59b0_41 ?_
    refine g_aastN (t0 := 5) C hS hB (Or.inr rfl) rfl rfl (show n - 1 < cap by omega) hc dJx4a65c_fastRemove_b59b0_42 (fun H locs hB o4 z4 hS => ?_)
    have hA := hA.kept (o4 _ (Ne.symm hea))
    exact wV C hr dJx4a65c_fastRemove_b59b0_43 hS ⟨hA, by rw [← rmf1 (gtN c1 (by omega))]; exact hB⟩
set_option maxRecDepth 100000 in
set_option maxHeartbeats 400000 in
theorem cJ_remove (l : Launch) (G : GG) (a ed n cap : Nat) (mc : Int32) (f : Nat → Option Nat) (i : Nat) (v : Nat) (hv : f i = some v) (hi : i < n) (hn : n ≤ cap) (hc : cap < 2 ^ 31) (hea : ed ≠ a) (hne : ∀ j y, j < n → f j = some y → y ≠ a) : MW l G yJx4a65c_remove_915e3 cJx4a65c_remove_915e3 4 (some (.object "java/lang/Object")) 3 [.ref a, .int (nI i)] (fun H => va_at G.1 vwCl (a, lob mc ed n) H ∧ va_at G.1 vwCl (ed, .inl (G.2 5, qs cap f)) H ∧ els G 2 n f H) (some (.ref v)) (fun H => va_at G.1 vwCl (a, lob (mc + 1) ed (n - 1)) H ∧ va_at G.1 vwCl (ed, .inl (G.2 5, qs cap (rmf f i n))) H) (fun q => q = a ∨ q = ed) 0 0 := by
  refine MW.of RJx4a65c rfl (by decide) (Nat.le_of_ble_eq_true rfl) ?_
  intro p_ e_ s_ m_ args_ below_ meth_ c_ ls hargs C hr hnm hP hS hl
  have hl : lv_has ls 4 [(0, .ref a), (1, .int (nI i))] := hl
  refine lv_iload_n C.hx C.hb dJx4a65c_remove_915e3_0 rfl (lv_at hl 1 rfl) ?_
  refine lv_aload_n C.hx C.hb dJx4a65c_remove_915e3_1 rfl (lv_at hl 0 rfl) ?_
  refine g_get (k := 2) (v := .int (nI n)) C hP.1 rfl wu_Jx4a65c (by decide) wf_Jx4a65c_48 rfl rfl dJx4a65c_remove_915e3_2 ?_
  refine kSR (As := [.int (nI i), .int (nI n)]) (rest := []) (v := .int (nI i)) C (cJ_chk l G i n hi (by omega)) lk_Jx4a65c_118 trivial rfl rfl hl (Nat.le_of_ble_eq_true rfl) dJx4a65c_remove_915e3_5 ⟨⟨by decide, by decide⟩, by decide, by decide⟩ ?_
  refine lv_pop C.hx C.hb dJx4a65c_remove_915e3_8 rfl ?_
  refine lv_aload_n C.hx C.hb dJx4a65c_remove_915e3_9 rfl (lv_at hl 0 rfl) ?_
  refine g_get (k := 1) (v := .ref ed) C hP.1 rfl wu_Jx4a65c (by decide) wf_Jx4a65c_9 rfl rfl dJx4a65c_remove_915e3_10 ?_
  refine lv_astore_n (lv' := [(2, .ref ed), (0, .ref a), (1, .int (nI i))]) C.hx C.hb dJx4a65c_remove_915e3_13 rfl hl (by decide) rfl (fun ls hl => ?_)
  refine lv_aload_n C.hx C.hb dJx4a65c_remove_915e3_14 rfl (lv_at hl 0 rfl) ?_
  refine lv_iload_n C.hx C.hb dJx4a65c_remove_915e3_15 rfl (lv_at hl 2 rfl) ?_
  refine g_aald (t0 := 5) C hP.2.1 rfl rfl (show i < cap by omega) hc hv dJx4a65c_remove_915e3_16 ?_
  refine lv_astore_n (lv' := [(3, .ref v), (2, .ref ed), (0, .ref a), (1, .int (nI i))]) C.hx C.hb dJx4a65c_remove_915e3_17 rfl hl (by decide) rfl (fun ls hl => ?_)
  refine lv_aload_n C.hx C.hb dJx4a65c_remove_915e3_18 rfl (lv_at hl 2 rfl) ?_
  refine lv_aload_n C.hx C.hb dJx4a65c_remove_915e3_19 rfl (lv_at hl 1 rfl) ?_
  refine lv_iload_n C.hx C.hb dJx4a65c_remove_915e3_20 rfl (lv_at hl 3 rfl) ?_
  refine kVWn (As := [.ref ed, .int (nI i)]) (rest := []) C (cJ_fastRemove l G a ed n cap mc f i hi hn hc hea hne) lk_Jx4a65c_144 (g_recv C hP.1 rfl) hP rfl rfl hl (Nat.le_of_ble_eq_true rfl) dJx4a65c_remove_915e3_21 ⟨⟨by decide, by decide⟩, by decide, by decide⟩ hS (fun q h => h) (fun H locs hPq hz1 hk1 hS => ?_)
  refine lv_aload_n C.hx C.hb dJx4a65c_remove_915e3_24 rfl (lv_at hl 0 rfl) ?_
  exact wA C hr (Or.inl ⟨_, rfl⟩) (Or.inr ⟨_, rfl⟩) dJx4a65c_remove_915e3_25 hS rfl hPq
