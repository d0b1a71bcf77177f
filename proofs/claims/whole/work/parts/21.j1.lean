theorem mm_max_c : Cond.code Lib.Math.max.name Lib.Math.max.code 2 (some .int) ∈ gtbl := gt_in 355 (by decide +kernel) rfl
theorem mm_max_s : Cond.static Lib.Math.max.name ∈ gtbl := gt_in 354 (by decide +kernel) rfl
theorem mm_J8_194 : Cond.methodLink RJ8 194 Lib.Math.max.name ∈ gtbl := gt_in 353 (by decide +kernel) rfl
theorem mm_Jx4a65c_79 : Cond.methodLink RJx4a65c 79 Lib.Math.max.name ∈ gtbl := gt_in 389 (by decide +kernel) rfl
theorem mm_X7_361 : Cond.methodLink RX7 361 Lib.Math.max.name ∈ gtbl := gt_in 717 (by decide +kernel) rfl
theorem mm_min_c : Cond.code Lib.Math.min.name Lib.Math.min.code 2 (some .int) ∈ gtbl := gt_in 385 (by decide +kernel) rfl
theorem mm_min_s : Cond.static Lib.Math.min.name ∈ gtbl := gt_in 384 (by decide +kernel) rfl
theorem mm_J7_304 : Cond.methodLink RJ7 304 Lib.Math.min.name ∈ gtbl := gt_in 383 (by decide +kernel) rfl
theorem mm_X0_96 : Cond.methodLink RX0 96 Lib.Math.min.name ∈ gtbl := gt_in 739 (by decide +kernel) rfl
theorem mm_X7_268 : Cond.methodLink RX7 268 Lib.Math.min.name ∈ gtbl := gt_in 769 (by decide +kernel) rfl
theorem mm_X4_42 : Cond.methodLink RX4 42 Lib.Math.min.name ∈ gtbl := gt_in 795 (by decide +kernel) rfl
theorem mm_i : Cond.initialized "java/lang/Math" ∈ gtbl := wz_J9
section MMX
variable {p : Program} {l : Launch} {e : Env} {R : Room} {s : State} {m : MethodId} {args : Array Value} {below : List Frame} {meth : Method} {c : Code} {H : Heap} {locs : List Loc} {cells slots : Nat} {Q : State → Prop} {G : GG} {own : String} {cc : ByteArray} {nL : Nat} {pc : Nat} {ls : Array Slot} {rest : List Value} {lvs : List (Nat × Value)}
theorem g_max {x y : Int32} {index : Nat} (C : CX G p s m args meth c own cc nL) (hl : lv_has ls nL lvs) (hk : Cond.methodLink own index Lib.Math.max.name ∈ gtbl) (hR : 1 ≤ R.frames ∧ (rest.map fun v => v.category).sum + 13 ≤ R.locals ∧ cells ≤ R.cells ∧ slots ≤ R.slots) (hdg : decode cc pc = .ok (.invokestatic index, 3))
    (kk : W p l e R s m args below meth c H locs cells slots Q (F0 m (pc + 3) ls (.int (if x < y then y else x) :: rest))) : W p l e R s m args below meth c H locs cells slots Q (F0 m pc ls (.int y :: .int x :: rest)) :=
  va_mmax C.hx C.hb (by rw [C.hml]; exact hl.1.symm) C.hown (C.hT _ hk) (C.hT _ mm_max_s) (C.hT _ mm_i) (C.hT _ mm_max_c) hR.1 hR.2.1 hR.2.2.1 hR.2.2.2 hdg kk
theorem g_min {x y : Int32} {index : Nat} (C : CX G p s m args meth c own cc nL) (hl : lv_has ls nL lvs) (hk : Cond.methodLink own index Lib.Math.min.name ∈ gtbl) (hR : 1 ≤ R.frames ∧ (rest.map fun v => v.category).sum + 13 ≤ R.locals ∧ cells ≤ R.cells ∧ slots ≤ R.slots) (hdg : decode cc pc = .ok (.invokestatic index, 3))
    (kk : W p l e R s m args below meth c H locs cells slots Q (F0 m (pc + 3) ls (.int (if y < x then y else x) :: rest))) : W p l e R s m args below meth c H locs cells slots Q (F0 m pc ls (.int y :: .int x :: rest)) :=
  va_mmin C.hx C.hb (by rw [C.hml]; exact hl.1.symm) C.hown (C.hT _ hk) (C.hT _ mm_min_s) (C.hT _ mm_i) (C.hT _ mm_min_c) hR.1 hR.2.1 hR.2.2.1 hR.2.2.2 hdg kk
end MMX
def bcA (n : Int32) : Int32 := n - (((n).toUInt32 >>> ((1 : Int32).toUInt32 &&& Int32.toUInt32 31)).toInt32 &&& 1431655765)
def bcB (n : Int32) : Int32 := (n &&& 858993459) + (((n).toUInt32 >>> ((2 : Int32).toUInt32 &&& Int32.toUInt32 31)).toInt32 &&& 858993459)
def bcC (n : Int32) : Int32 := (n + ((n).toUInt32 >>> ((4 : Int32).toUInt32 &&& Int32.toUInt32 31)).toInt32) &&& 252645135
def bcD (n : Int32) : Int32 := n + ((n).toUInt32 >>> ((8 : Int32).toUInt32 &&& Int32.toUInt32 31)).toInt32
def bcE (n : Int32) : Int32 := n + ((n).toUInt32 >>> ((16 : Int32).toUInt32 &&& Int32.toUInt32 31)).toInt32
def s_bitCount (n : Int32) : Int32 := bcE (bcD (bcC (bcB (bcA n)))) &&& 63
set_option maxRecDepth 100000 in
set_option maxHeartbeats 400000 in
theorem cJ_bitCount (l : Launch) (G : GG) (n : Int32) : MR l G yJ6_bitCount_0f7a4 cJ6_bitCount_0f7a4 1 (some .int) 0 [.int n] (fun _ => True) (some (.int (s_bitCount n))) := by
  refine MR.of RJ6 rfl (by decide) (Nat.le_of_ble_eq_true rfl) ?_
  intro p_ e_ s_ m_ args_ below_ meth_ c_ ls hargs C hr hnm hP hl
  have hl : lv_has ls 1 [(0, .int n)] := hl
  refine lv_iload_n C.hx C.hb dJ6_bitCount_0f7a4_0 rfl (lv_at hl 0 rfl) ?_
  refine lv_iload_n C.hx C.hb dJ6_bitCount_0f7a4_1 rfl (lv_at hl 0 rfl) ?_
  refine lv_iconst (v := 1) C.hx C.hb dJ6_bitCount_0f7a4_2 (by decide) ?_
  refine lv_iushr C.hx C.hb dJ6_bitCount_0f7a4_3 rfl ?_
  refine lv_ldcw (v := 1431655765) C.hx C.hb C.hown (C.hT _ wk_J6_265) dJ6_bitCount_0f7a4_4 ?_
  refine lv_iand C.hx C.hb dJ6_bitCount_0f7a4_7 ?_
  refine lv_isub C.hx C.hb dJ6_bitCount_0f7a4_8 ?_
  refine lv_topi (fun t1 ht1 => ?_)
  have ht1 : t1 = bcA n := ht1
  refine lv_istore_n (lv' := [(0, .int t1)]) C.hx C.hb dJ6_bitCount_0f7a4_9 rfl hl (by decide) rfl (fun ls hl => ?_)
  refine lv_iload_n C.hx C.hb dJ6_bitCount_0f7a4_10 rfl (lv_at hl 0 rfl) ?_
  refine lv_ldcw (v := 858993459) C.hx C.hb C.hown (C.hT _ wk_J6_266) dJ6_bitCount_0f7a4_11 ?_
  refine lv_iand C.hx C.hb dJ6_bitCount_0f7a4_14 ?_
  refine lv_iload_n C.hx C.hb dJ6_bitCount_0f7a4_15 rfl (lv_at hl 0 rfl) ?_
  refine lv_iconst (v := 2) C.hx C.hb dJ6_bitCount_0f7a4_16 (by decide) ?_
  refine lv_iushr C.hx C.hb dJ6_bitCount_0f7a4_17 rfl ?_
  refine lv_ldcw (v := 858993459) C.hx C.hb C.hown (C.hT _ wk_J6_266) dJ6_bitCount_0f7a4_18 ?_
  refine lv_iand C.hx C.hb dJ6_bitCount_0f7a4_21 ?_
  refine lv_iadd C.hx C.hb dJ6_bitCount_0f7a4_22 ?_
  refine lv_topi (fun t2 ht2 => ?_)
  have ht2 : t2 = bcB t1 := ht2
  refine lv_istore_n (lv' := [(0, .int t2)]) C.hx C.hb dJ6_bitCount_0f7a4_23 rfl hl (by decide) rfl (fun ls hl => ?_)
  refine lv_iload_n C.hx C.hb dJ6_bitCount_0f7a4_24 rfl (lv_at hl 0 rfl) ?_
  refine lv_iload_n C.hx C.hb dJ6_bitCount_0f7a4_25 rfl (lv_at hl 0 rfl) ?_
  refine lv_iconst (v := 4) C.hx C.hb dJ6_bitCount_0f7a4_26 (by decide) ?_
  refine lv_iushr C.hx C.hb dJ6_bitCount_0f7a4_27 rfl ?_
  refine lv_iadd C.hx C.hb dJ6_bitCount_0f7a4_28 ?_
  refine lv_ldcw (v := 252645135) C.hx C.hb C.hown (C.hT _ wk_J6_267) dJ6_bitCount_0f7a4_29 ?_
  refine lv_iand C.hx C.hb dJ6_bitCount_0f7a4_32 ?_
  refine lv_topi (fun t3 ht3 => ?_)
  have ht3 : t3 = bcC t2 := ht3
  refine lv_istore_n (lv' := [(0, .int t3)]) C.hx C.hb dJ6_bitCount_0f7a4_33 rfl hl (by decide) rfl (fun ls hl => ?_)
  refine lv_iload_n C.hx C.hb dJ6_bitCount_0f7a4_34 rfl (lv_at hl 0 rfl) ?_
  refine lv_iload_n C.hx C.hb dJ6_bitCount_0f7a4_35 rfl (lv_at hl 0 rfl) ?_
  refine lv_bipush (v := 8) C.hx C.hb dJ6_bitCount_0f7a4_36 (by decide) ?_
  refine lv_iushr C.hx C.hb dJ6_bitCount_0f7a4_38 rfl ?_
  refine lv_iadd C.hx C.hb dJ6_bitCount_0f7a4_39 ?_
  refine lv_topi (fun t4 ht4 => ?_)
  have ht4 : t4 = bcD t3 := ht4
  refine lv_istore_n (lv' := [(0, .int t4)]) C.hx C.hb dJ6_bitCount_0f7a4_40 rfl hl (by decide) rfl (fun ls hl => ?_)
  refine lv_iload_n C.hx C.hb dJ6_bitCount_0f7a4_41 rfl (lv_at hl 0 rfl) ?_
  refine lv_iload_n C.hx C.hb dJ6_bitCount_0f7a4_42 rfl (lv_at hl 0 rfl) ?_
  refine lv_bipush (v := 16) C.hx C.hb dJ6_bitCount_0f7a4_43 (by decide) ?_
  refine lv_iushr C.hx C.hb dJ6_bitCount_0f7a4_45 rfl ?_
  refine lv_iadd C.hx C.hb dJ6_bitCount_0f7a4_46 ?_
  refine lv_topi (fun t5 ht5 => ?_)
  have ht5 : t5 = bcE t4 := ht5
  refine lv_istore_n (lv' := [(0, .int t5)]) C.hx C.hb dJ6_bitCount_0f7a4_47 rfl hl (by decide) rfl (fun ls hl => ?_)
  refine lv_iload_n C.hx C.hb dJ6_bitCount_0f7a4_48 rfl (lv_at hl 0 rfl) ?_
  refine lv_bipush (v := 63) C.hx C.hb dJ6_bitCount_0f7a4_49 (by decide) ?_
  refine lv_iand C.hx C.hb dJ6_bitCount_0f7a4_51 ?_
  exact rI C hr dJ6_bitCount_0f7a4_52 (by rw [ht5, ht4, ht3, ht2, ht1]; rfl)
abbrev lob (mc : Int32) (ed n : Nat) : va_E := .inr (0, [.int mc, .ref ed, .int (nI n)])
theorem max_nI {a b : Nat} (ha : a < 2 ^ 31) (hb : b < 2 ^ 31) : (if nI a < nI b then nI b else nI a) = nI (if a < b then b else a) := by
  by_cases h : a < b
  · rw [if_pos (nI_lt h hb), if_pos h]
  · rw [if_neg (nI_nlt (Nat.le_of_not_lt h) ha), if_neg h]
theorem min_nI {a b : Nat} (ha : a < 2 ^ 31) (hb : b < 2 ^ 31) : (if nI b < nI a then nI b else nI a) = nI (if b < a then b else a) := by
  by_cases h : b < a
  · rw [if_pos (nI_lt h ha), if_pos h]
  · rw [if_neg (nI_nlt (Nat.le_of_not_lt h) hb), if_neg h]
set_option maxRecDepth 100000 in
set_option maxHeartbeats 400000 in
theorem cJ_chk3 (l : Launch) (G : GG) (i n : Nat) (hi : i < n) (hn : n < 2 ^ 31) : MR l G yJ3_checkIndex_8e157 cJ3_checkIndex_8e157 3 (some .int) 1 [.int (nI i), .int (nI n), .null] (fun _ => True) (some (.int (nI i))) := by
  refine MR.of RJ3 rfl (by decide) (Nat.le_of_ble_eq_true rfl) ?_
  intro p_ e_ s_ m_ args_ below_ meth_ c_ ls hargs C hr hnm hP hl
  have hl : lv_has ls 3 [(0, .int (nI i)), (1, .int (nI n)), (2, .null)] := hl
  refine lv_iload_n C.hx C.hb dJ3_checkIndex_8e157_0 rfl (lv_at hl 0 rfl) ?_
  refine lv_if_lt (tgt := 9) C.hx C.hb dJ3_checkIndex_8e157_1 (by decide) (fun c1 => ?_) (fun c1 => ?_)
  · exact absurd c1 (nI_pos (by omega))
  · refine lv_iload_n C.hx C.hb dJ3_checkIndex_8e157_4 rfl (lv_at hl 0 rfl) ?_
    refine lv_iload_n C.hx C.hb dJ3_checkIndex_8e157_5 rfl (lv_at hl 1 rfl) ?_
    refine lv_icmp_lt (tgt := 16) C.hx C.hb dJ3_checkIndex_8e157_6 (by decide) (fun c2 => ?_) (fun c2 => ?_)
    · refine lv_iload_n C.hx C.hb dJ3_checkIndex_8e157_16 rfl (lv_at hl 0 rfl) ?_
      exact rI C hr dJ3_checkIndex_8e157_17 rfl
    · exact absurd (nI_lt hi hn) c2
set_option maxRecDepth 100000 in
set_option maxHeartbeats 400000 in
theorem cJ_chk (l : Launch) (G : GG) (i n : Nat) (hi : i < n) (hn : n < 2 ^ 31) : MR l G yJ15_checkIndex_7cf53 cJ15_checkIndex_7cf53 2 (some .int) 2 [.int (nI i), .int (nI n)] (fun _ => True) (some (.int (nI i))) := by
  refine MR.of RJ15 rfl (by decide) (Nat.le_of_ble_eq_true rfl) ?_
  intro p_ e_ s_ m_ args_ below_ meth_ c_ ls hargs C hr hnm hP hl
  have hl : lv_has ls 2 [(0, .int (nI i)), (1, .int (nI n))] := hl
  refine lv_iload_n C.hx C.hb dJ15_checkIndex_7cf53_0 rfl (lv_at hl 0 rfl) ?_
  refine lv_iload_n C.hx C.hb dJ15_checkIndex_7cf53_1 rfl (lv_at hl 1 rfl) ?_
  refine lv_null C.hx C.hb dJ15_checkIndex_7cf53_2 ?_
  refine kSR (As := [.int (nI i), .int (nI n), .null]) (rest := []) (v := .int (nI i)) C (cJ_chk3 l G i n hi hn) lk_J15_105 trivial rfl rfl hl (Nat.le_of_ble_eq_true rfl) dJ15_checkIndex_7cf53_3 ⟨⟨by decide, by decide⟩, by decide, by decide⟩ ?_
  exact rI C hr dJ15_checkIndex_7cf53_6 rfl
set_option maxRecDepth 100000 in
set_option maxHeartbeats 400000 in
theorem cJ_size (l : Launch) (G : GG) (a ed n : Nat) (mc : Int32) : MR l G yJx4a65c_size_8abf5 cJx4a65c_size_8abf5 1 (some .int) 0 [.ref a] (fun H => va_at G.1 vwCl (a, lob mc ed n) H) (some (.int (nI n))) := by
  refine MR.of RJx4a65c rfl (by decide) (Nat.le_of_ble_eq_true rfl) ?_
  intro p_ e_ s_ m_ args_ below_ meth_ c_ ls hargs C hr hnm hP hl
  have hl : lv_has ls 1 [(0, .ref a)] := hl
  refine lv_aload_n C.hx C.hb dJx4a65c_size_8abf5_0 rfl (lv_at hl 0 rfl) ?_
  refine g_get (k := 2) (v := .int (nI n)) C hP rfl wu_Jx4a65c (by decide) wf_Jx4a65c_48 rfl rfl dJx4a65c_size_8abf5_1 ?_
  exact rI C hr dJx4a65c_size_8abf5_4 rfl
set_option maxRecDepth 100000 in
set_option maxHeartbeats 400000 in
theorem cJ_elem (l : Launch) (G : GG) (a ed n cap : Nat) (mc : Int32) (f : Nat → Option Nat) (i v : Nat) (hi : i < cap) (hc : cap < 2 ^ 31) (hv : f i = some v) : MR l G yJx4a65c_elementData_915e3 cJx4a65c_elementData_915e3 2 (some (.object "java/lang/Object")) 0 [.ref a, .int (nI i)] (fun H => va_at G.1 vwCl (a, lob mc ed n) H ∧ va_at G.1 vwCl (ed, .inl (G.2 5, qs cap f)) H) (some (.ref v)) := by
  refine MR.of RJx4a65c rfl (by decide) (Nat.le_of_ble_eq_true rfl) ?_
  intro p_ e_ s_ m_ args_ below_ meth_ c_ ls hargs C hr hnm hP hl
  have hl : lv_has ls 2 [(0, .ref a), (1, .int (nI i))] := hl
  refine lv_aload_n C.hx C.hb dJx4a65c_elementData_915e3_0 rfl (lv_at hl 0 rfl) ?_
  refine g_get (k := 1) (v := .ref ed) C hP.1 rfl wu_Jx4a65c (by decide) wf_Jx4a65c_9 rfl rfl dJx4a65c_elementData_915e3_1 ?_
  refine lv_iload_n C.hx C.hb dJx4a65c_elementData_915e3_4 rfl (lv_at hl 1 rfl) ?_
  refine g_aald (t0 := 5) C hP.2 rfl rfl hi hc hv dJx4a65c_elementData_915e3_5 ?_
  exact rA C hr (Or.inl ⟨_, rfl⟩) (Or.inr ⟨_, rfl⟩) dJx4a65c_elementData_915e3_6 rfl
set_option maxRecDepth 100000 in
set_option maxHeartbeats 400000 in
theorem cJ_get (l : Launch) (G : GG) (a ed n cap : Nat) (mc : Int32) (f : Nat → Option Nat) (i v : Nat) (hi : i < n) (hn : n ≤ cap) (hc : cap < 2 ^ 31) (hv : f i = some v) : MR l G yJx4a65c_get_915e3 cJx4a65c_get_915e3 2 (some (.object "java/lang/Object")) 3 [.ref a, .int (nI i)] (fun H => va_at G.1 vwCl (a, lob mc ed n) H ∧ va_at G.1 vwCl (ed, .inl (G.2 5, qs cap f)) H) (some (.ref v)) := by
  refine MR.of RJx4a65c rfl (by decide) (Nat.le_of_ble_eq_true rfl) ?_
  intro p_ e_ s_ m_ args_ below_ meth_ c_ ls hargs C hr hnm hP hl
  have hl : lv_has ls 2 [(0, .ref a), (1, .int (nI i))] := hl
  refine lv_iload_n C.hx C.hb dJx4a65c_get_915e3_0 rfl (lv_at hl 1 rfl) ?_
  refine lv_aload_n C.hx C.hb dJx4a65c_get_915e3_1 rfl (lv_at hl 0 rfl) ?_
  refine g_get (k := 2) (v := .int (nI n)) C hP.1 rfl wu_Jx4a65c (by decide) wf_Jx4a65c_48 rfl rfl dJx4a65c_get_915e3_2 ?_
  refine kSR (As := [.int (nI i), .int (nI n)]) (rest := []) (v := .int (nI i)) C (cJ_chk l G i n hi (by omega)) lk_Jx4a65c_118 trivial rfl rfl hl (Nat.le_of_ble_eq_true rfl) dJx4a65c_get_915e3_5 ⟨⟨by decide, by decide⟩, by decide, by decide⟩ ?_
  refine lv_pop C.hx C.hb dJx4a65c_get_915e3_8 rfl ?_
  refine lv_aload_n C.hx C.hb dJx4a65c_get_915e3_9 rfl (lv_at hl 0 rfl) ?_
  refine lv_iload_n C.hx C.hb dJx4a65c_get_915e3_10 rfl (lv_at hl 1 rfl) ?_
  refine kVR (As := [.int (nI i)]) (rest := []) (v := .ref v) C (cJ_elem l G a ed n cap mc f i v (by omega) hc hv) lk_Jx4a65c_123 (g_recv C hP.1 rfl) hP rfl rfl hl (Nat.le_of_ble_eq_true rfl) dJx4a65c_get_915e3_11 ⟨⟨by decide, by decide⟩, by decide, by decide⟩ ?_
  exact rA C hr (Or.inl ⟨_, rfl⟩) (Or.inr ⟨_, rfl⟩) dJx4a65c_get_915e3_14 rfl
