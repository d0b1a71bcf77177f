/-! THE REFERENCE'S METHODS, by program: s_X8_f is what f answers, sx_X8_f the state behind it -/
abbrev tn (i : Int32) : Nat := i.toNatClampNeg
abbrev nP (x : Nat → Nat → Int32) : Nat := tn (x 12 0)
abbrev nC (x : Nat → Nat → Int32) : Nat := tn (x 27 0)
abbrev nG (x : Nat → Nat → Int32) : Nat := tn (x 36 0)
abbrev nV (x : Nat → Nat → Int32) : Nat := tn (x 42 0)
def MI (x : Nat → Nat → Int32) : Prop := (x 12 0 = nI (nP x) ∧ nP x ≤ 300) ∧ (x 27 0 = nI (nC x) ∧ nC x ≤ 400) ∧ (x 36 0 = nI (nG x) ∧ nG x ≤ 400) ∧ (x 42 0 = nI (nV x) ∧ nV x ≤ 8000) ∧
  (∀ c, c < nC x → (x 13 c = nI (tn (x 13 c)) ∧ tn (x 13 c) < nP x) ∧ (x 14 c = nI (tn (x 14 c)) ∧ tn (x 14 c) < 8) ∧ (x 17 c = nI (tn (x 17 c)) ∧ tn (x 17 c) < 3)) ∧
  (∀ v, v < nV x → (x 38 v = nI (tn (x 38 v)) ∧ tn (x 38 v) < nC x) ∧ (x 39 v = nI (tn (x 39 v)) ∧ tn (x 39 v) < 2))
theorem MI.po {x : Nat → Nat → Int32} (h : MI x) {c : Nat} (hc : c < nC x) : x 13 c = nI (tn (x 13 c)) ∧ tn (x 13 c) < nP x := (h.2.2.2.2.1 c hc).1
theorem MI.ru {x : Nat → Nat → Int32} (h : MI x) {c : Nat} (hc : c < nC x) : x 14 c = nI (tn (x 14 c)) ∧ tn (x 14 c) < 8 := (h.2.2.2.2.1 c hc).2.1
theorem MI.cg {x : Nat → Nat → Int32} (h : MI x) {c : Nat} (hc : c < nC x) : x 17 c = nI (tn (x 17 c)) ∧ tn (x 17 c) < 3 := (h.2.2.2.2.1 c hc).2.2
theorem MI.vc {x : Nat → Nat → Int32} (h : MI x) {v : Nat} (hv : v < nV x) : x 38 v = nI (tn (x 38 v)) ∧ tn (x 38 v) < nC x := (h.2.2.2.2.2 v hv).1
theorem MI.vt {x : Nat → Nat → Int32} (h : MI x) {v : Nat} (hv : v < nV x) : x 39 v = nI (tn (x 39 v)) ∧ tn (x 39 v) < 2 := (h.2.2.2.2.2 v hv).2
theorem nI_addE {x y : Int32} {a b : Nat} (h : x = nI a) (k : y = nI b) : x + y = nI (a + b) := by rw [h, k]; exact nI_add a b
theorem nI_subE {x y : Int32} {a b : Nat} (h : x = nI a) (k : y = nI b) (q : b ≤ a) : x - y = nI (a - b) := by rw [h, k]; exact pk_sub q
theorem pos_ne {b : Int32} {N : Nat} (e : b = nI N) (h : ¬ b = 0) : 0 < N := Nat.pos_of_ne_zero (fun q => h (by rw [e, q]; rfl))
theorem nI_mulE {x y : Int32} {a b : Nat} (h : x = nI a) (k : y = nI b) : x * y = nI (a * b) := by rw [h, k]; exact pk_mul a b
theorem nb01 {v : Int32} (h : v = 0 ∨ v = 1) : narrow .boolean (.int v) = .int v := by rcases h with h | h <;> subst h <;> rfl
theorem lt_nle {b : Int32} {N i : Nat} (e : b = nI N) (h : i < N) (hN : N < 2 ^ 31) : ¬ b ≤ nI i := by rw [e]; exact nI_ge h hN
theorem le_eqn {b : Int32} {N : Nat} (e : b = nI N) : b ≤ nI N := by rw [e]; exact Int32.le_refl _
def isS (k : Nat) : Bool := k == 0 || k == 5 || k == 6 || k == 7 || k == 12 || k == 27 || k == 28 || k == 36 || k == 42 || k == 46
theorem mfs_up {m0 k j : Nat} {x : Nat → Nat → Int32} {v : Int32} (h : isS k = false) : mfs m0 (up2 x k j v) = mfs m0 x := by
  simp only [isS, Bool.or_eq_false_iff, beq_eq_false_iff_ne, ne_eq] at h
  obtain ⟨⟨⟨⟨⟨⟨⟨⟨⟨h0, h5⟩, h6⟩, h7⟩, h12⟩, h27⟩, h28⟩, h36⟩, h42⟩, h46⟩ := h
  unfold mfs
  rw [up2_ne (Ne.symm h0), up2_ne (Ne.symm h5), up2_ne (Ne.symm h6), up2_ne (Ne.symm h7), up2_ne (Ne.symm h12), up2_ne (Ne.symm h27), up2_ne (Ne.symm h28), up2_ne (Ne.symm h36), up2_ne (Ne.symm h42), up2_ne (Ne.symm h46)]
theorem mset_0 {m0 : Nat} {x : Nat → Nat → Int32} {v : Int32} : (mfs m0 x).set 0 (.int v) = mfs m0 (up2 x 0 0 v) := rfl
theorem mset_5 {m0 : Nat} {x : Nat → Nat → Int32} {v : Int32} : (mfs m0 x).set 5 (.int v) = mfs m0 (up2 x 5 0 v) := rfl
theorem mset_6 {m0 : Nat} {x : Nat → Nat → Int32} {v : Int32} : (mfs m0 x).set 6 (.int v) = mfs m0 (up2 x 6 0 v) := rfl
theorem mset_7 {m0 : Nat} {x : Nat → Nat → Int32} {v : Int32} : (mfs m0 x).set 7 (.int v) = mfs m0 (up2 x 7 0 v) := rfl
theorem mset_12 {m0 : Nat} {x : Nat → Nat → Int32} {v : Int32} : (mfs m0 x).set 12 (.int v) = mfs m0 (up2 x 12 0 v) := rfl
theorem mset_27 {m0 : Nat} {x : Nat → Nat → Int32} {v : Int32} : (mfs m0 x).set 27 (.int v) = mfs m0 (up2 x 27 0 v) := rfl
theorem mset_28 {m0 : Nat} {x : Nat → Nat → Int32} {v : Int32} : (mfs m0 x).set 28 (.int v) = mfs m0 (up2 x 28 0 v) := rfl
theorem mset_36 {m0 : Nat} {x : Nat → Nat → Int32} {v : Int32} : (mfs m0 x).set 36 (.int v) = mfs m0 (up2 x 36 0 v) := rfl
theorem mset_42 {m0 : Nat} {x : Nat → Nat → Int32} {v : Int32} : (mfs m0 x).set 42 (.int v) = mfs m0 (up2 x 42 0 v) := rfl
theorem mset_46 {m0 : Nat} {x : Nat → Nat → Int32} {v : Int32} : (mfs m0 x).set 46 (.int v) = mfs m0 (up2 x 46 0 v) := rfl
theorem ne_lt {b : Int32} {N M : Nat} (e : b = nI N) (h : ¬ b = nI M) (q : N ≤ M) : N < M := Nat.lt_of_le_of_ne q (fun k => h (by rw [e, k]))
def itr (f : Nat → Int32 → Int32) (a : Int32) : Nat → Int32
  | 0 => a
  | n + 1 => f n (itr f a n)
section SW
variable {p : Program} {l : Launch} {e : Env} {R : Room} {s : State} {m : MethodId} {args : Array Value} {below : List Frame} {meth : Method} {c : Code} {H : Heap} {locs : List Loc} {cells slots : Nat} {Q : State → Prop} {cc : ByteArray} {pc : Nat} {ls : Array Slot} {rest : List Value}
theorem sw_in (hexec : p.tables.exec = Jvm.exec) (hb : c.code = cc) {dflt lo hi : Int} {offs : Array Int} {len : Nat} {x v : Int32} {off : Int} {tgt : Nat} (hdg : decode cc pc = .ok (.tableswitch dflt lo hi offs, len)) (h : x = v) (h1 : ¬ v.toInt < lo) (h2 : ¬ hi < v.toInt) (ho : offs[(v.toInt - lo).toNat]? = some off) (ht : (pc : Int) + off = (tgt : Int)) (k : W p l e R s m args below meth c H locs cells slots Q (F0 m tgt ls rest)) : W p l e R s m args below meth c H locs cells slots Q (F0 m pc ls (.int x :: rest)) := by
  subst h
  exact lv_tableIn hexec hb hdg h1 h2 ho ht k
theorem sw_lk (hexec : p.tables.exec = Jvm.exec) (hb : c.code = cc) {dflt : Int} {ps : Array (Int × Int)} {len : Nat} {x v : Int32} {off : Int} {tgt : Nat} (hdg : decode cc pc = .ok (.lookupswitch dflt ps, len)) (h : x = v) (hp : (ps.toList.zip (ps.toList.drop 1)).all (fun (a, next) => a.1 < next.1) = true) (ho : Op.lookupswitch.offset ps.toList dflt v.toInt = off) (ht : (pc : Int) + off = (tgt : Int)) (k : W p l e R s m args below meth c H locs cells slots Q (F0 m tgt ls rest)) : W p l e R s m args below meth c H locs cells slots Q (F0 m pc ls (.int x :: rest)) := by
  subst h
  exact lv_lookup hexec hb hdg hp ho ht k
end SW
def s_X8_within (v : Int32) (least : Int32) (most : Int32) : Int32 := (if v < least then 0 else (if most < v then 0 else 1 : Int32) : Int32)
set_option maxRecDepth 100000 in
set_option maxHeartbeats 400000 in
theorem cM_within (l : Launch) (G : GG) (v : Int32) (least : Int32) (most : Int32) : MR l G yX8_within cX8_within 3 (some .boolean) 0 [.int v, .int least, .int most] (fun _ => True) (some (.int (s_X8_within v least most))) := by
  refine MR.of RX8 rfl (by decide) (Nat.le_of_ble_eq_true rfl) ?_
  intro p_ e_ s_ m_ args_ below_ meth_ c_ ls hargs C hr hnm hW hl
  have hl : lv_has ls 3 [(0, .int v), (1, .int least), (2, .int most)] := hl
  refine lv_iload_n C.hx C.hb dX8_within_0 rfl (lv_at hl 0 rfl) ?_
  refine lv_iload_n C.hx C.hb dX8_within_1 rfl (lv_at hl 1 rfl) ?_
  refine W.joinI (P := fun jv => jv = (if v < least then 0 else (if most < v then 0 else 1 : Int32) : Int32)) 15 ls [] (fun J3 => ?_) (fun v4 hv4 => ?_)
  · refine lv_icmp_lt (tgt := 14) C.hx C.hb dX8_within_2 (by decide) (fun c1 => ?_) (fun c1 => ?_)
    · refine lv_iconst (v := 0) C.hx C.hb dX8_within_14 (by decide) ?_
      exact J3 _ (by rw [if_pos c1])
    · refine lv_iload_n C.hx C.hb dX8_within_5 rfl (lv_at hl 0 rfl) ?_
      refine lv_iload_n C.hx C.hb dX8_within_6 rfl (lv_at hl 2 rfl) ?_
      refine lv_icmp_gt (tgt := 14) C.hx C.hb dX8_within_7 (by decide) (fun c2 => ?_) (fun c2 => ?_)
      · refine lv_iconst (v := 0) C.hx C.hb dX8_within_14 (by decide) ?_
        exact J3 _ (by rw [if_neg c1, if_pos c2])
      · refine lv_iconst (v := 1) C.hx C.hb dX8_within_10 (by decide) ?_
        refine lv_goto (tgt := 15) C.hx C.hb dX8_within_11 (by decide) ?_
        exact J3 _ (by rw [if_neg c1, if_neg c2])
  · exact rZ C hr dX8_within_15 (by rw [hv4]; unfold s_X8_within; with_reducible rfl) (nb01 (by rw [hv4]; (repeat' split) <;> simp))
def s_X8_isJudge (j : Int32) : Int32 := (if j < 0 then 0 else (if 20 ≤ j then 0 else 1 : Int32) : Int32)
set_option maxRecDepth 100000 in
set_option maxHeartbeats 400000 in
theorem cM_isJudge (l : Launch) (G : GG) (j : Int32) : MR l G yX8_isJudge cX8_isJudge 1 (some .boolean) 0 [.int j] (fun _ => True) (some (.int (s_X8_isJudge j))) := by
  refine MR.of RX8 rfl (by decide) (Nat.le_of_ble_eq_true rfl) ?_
  intro p_ e_ s_ m_ args_ below_ meth_ c_ ls hargs C hr hnm hW hl
  have hl : lv_has ls 1 [(0, .int j)] := hl
  refine lv_iload_n C.hx C.hb dX8_isJudge_0 rfl (lv_at hl 0 rfl) ?_
  refine W.joinI (P := fun jv => jv = (if j < 0 then 0 else (if 20 ≤ j then 0 else 1 : Int32) : Int32)) 15 ls [] (fun J3 => ?_) (fun v4 hv4 => ?_)
  · refine lv_if_lt (tgt := 14) C.hx C.hb dX8_isJudge_1 (by decide) (fun c1 => ?_) (fun c1 => ?_)
    · refine lv_iconst (v := 0) C.hx C.hb dX8_isJudge_14 (by decide) ?_
      exact J3 _ (by rw [if_pos c1])
    · refine lv_iload_n C.hx C.hb dX8_isJudge_4 rfl (lv_at hl 0 rfl) ?_
      refine lv_bipush (v := 20) C.hx C.hb dX8_isJudge_5 (by decide) ?_
      refine lv_icmp_ge (tgt := 14) C.hx C.hb dX8_isJudge_7 (by decide) (fun c2 => ?_) (fun c2 => ?_)
      · refine lv_iconst (v := 0) C.hx C.hb dX8_isJudge_14 (by decide) ?_
        exact J3 _ (by rw [if_neg c1, if_pos c2])
      · refine lv_iconst (v := 1) C.hx C.hb dX8_isJudge_10 (by decide) ?_
        refine lv_goto (tgt := 15) C.hx C.hb dX8_isJudge_11 (by decide) ?_
        exact J3 _ (by rw [if_neg c1, if_neg c2])
  · exact rZ C hr dX8_isJudge_15 (by rw [hv4]; unfold s_X8_isJudge; with_reducible rfl) (nb01 (by rw [hv4]; (repeat' split) <;> simp))
def s_X8_isCase (x : Nat → Nat → Int32) (c : Int32) : Int32 := (if c < 0 then 0 else (if (x 27 0) ≤ c then 0 else 1 : Int32) : Int32)
set_option maxRecDepth 100000 in
set_option maxHeartbeats 400000 in
theorem cM_isCase (l : Launch) (G : GG) (m0 : Nat) (x : Nat → Nat → Int32) (z : Nat → Int64) (hI : MI x) (c : Int32) : MR l G yX8_isCase cX8_isCase 2 (some .boolean) 0 [.ref m0, .int c] (MWd G m0 x z) (some (.int (s_X8_isCase x c))) := by
  refine MR.of RX8 rfl (by decide) (Nat.le_of_ble_eq_true rfl) ?_
  intro p_ e_ s_ m_ args_ below_ meth_ c_ ls hargs C hr hnm hW hl
  obtain ⟨⟨eP, bP⟩, ⟨eC, bC⟩, ⟨eG, bG⟩, ⟨eV, bV⟩, -, -⟩ := id hI
  have hl : lv_has ls 2 [(0, .ref m0), (1, .int c)] := hl
  refine lv_iload_n C.hx C.hb dX8_isCase_0 rfl (lv_at hl 1 rfl) ?_
  refine W.joinI (P := fun jv => jv = (if c < 0 then 0 else (if (x 27 0) ≤ c then 0 else 1 : Int32) : Int32)) 17 ls [] (fun J3 => ?_) (fun v4 hv4 => ?_)
  · refine lv_if_lt (tgt := 16) C.hx C.hb dX8_isCase_1 (by decide) (fun c1 => ?_) (fun c1 => ?_)
    · refine lv_iconst (v := 0) C.hx C.hb dX8_isCase_16 (by decide) ?_
      exact J3 _ (by rw [if_pos c1])
    · refine lv_iload_n C.hx C.hb dX8_isCase_4 rfl (lv_at hl 1 rfl) ?_
      refine lv_aload_n C.hx C.hb dX8_isCase_5 rfl (lv_at hl 0 rfl) ?_
      refine g_get (k := 27) (v := .int (x 27 0)) C hW.1 rfl wu_X8 (by decide) wf_X8_133 rfl rfl dX8_isCase_6 ?_
      refine lv_icmp_ge (tgt := 16) C.hx C.hb dX8_isCase_9 (by decide) (fun c2 => ?_) (fun c2 => ?_)
      · refine lv_iconst (v := 0) C.hx C.hb dX8_isCase_16 (by decide) ?_
        exact J3 _ (by rw [if_neg c1, if_pos c2])
      · refine lv_iconst (v := 1) C.hx C.hb dX8_isCase_12 (by decide) ?_
        refine lv_goto (tgt := 17) C.hx C.hb dX8_isCase_13 (by decide) ?_
        exact J3 _ (by rw [if_neg c1, if_neg c2])
  · exact rZ C hr dX8_isCase_17 (by rw [hv4]; unfold s_X8_isCase; with_reducible rfl) (nb01 (by rw [hv4]; (repeat' split) <;> simp))
theorem within_nz {v b : Int32} {n : Nat} (h : ¬ s_X8_within v 0 b = 0) (hb : b.toInt = n) : ∃ k : Nat, k ≤ n ∧ v = nI k := by
  unfold s_X8_within at h
  by_cases h1 : v < 0
  · rw [if_pos h1] at h; exact absurd rfl h
  · rw [if_neg h1] at h
    by_cases h2 : b < v
    · rw [if_pos h2] at h; exact absurd rfl h
    · exact nI_of2 hb h1 (Int32.not_lt.mp h2)
theorem isJudge_nz {j : Int32} (h : ¬ s_X8_isJudge j = 0) : ∃ k : Nat, k < 20 ∧ j = nI k := by
  unfold s_X8_isJudge at h
  by_cases h1 : j < 0
  · rw [if_pos h1] at h; exact absurd rfl h
  · rw [if_neg h1] at h
    by_cases h2 : 20 ≤ j
    · rw [if_pos h2] at h; exact absurd rfl h
    · obtain ⟨k, hk, rfl⟩ := nI_of h1
      exact ⟨k, Nat.lt_of_not_le (fun q => h2 (show nI 20 ≤ nI k from nI_le q hk)), rfl⟩
theorem isCase_nz {x : Nat → Nat → Int32} (hI : MI x) {c : Int32} (h : ¬ s_X8_isCase x c = 0) : ∃ k : Nat, k < nC x ∧ c = nI k := by
  unfold s_X8_isCase at h
  by_cases h1 : c < 0
  · rw [if_pos h1] at h; exact absurd rfl h
  · rw [if_neg h1] at h
    by_cases h2 : x 27 0 ≤ c
    · rw [if_pos h2] at h; exact absurd rfl h
    · obtain ⟨k, hk, rfl⟩ := nI_of h1
      rw [hI.2.1.1] at h2
      exact ⟨k, Nat.lt_of_not_le (fun q => h2 (nI_le q hk)), rfl⟩
def s_X8_tick (x : Nat → Nat → Int32) (n : Int32) : Int32 := (if (s_X8_within n 1 1000) = 0 then (-1) else (if ((x 0 0) + n) ≤ 1000000 then (x 0 0) + n else (-1)))
def sx_X8_tick (x : Nat → Nat → Int32) (n : Int32) : Nat → Nat → Int32 := (if (s_X8_within n 1 1000) = 0 then x else (if ((x 0 0) + n) ≤ 1000000 then (up2 x 0 0 ((x 0 0) + n)) else x))
set_option maxRecDepth 100000 in
set_option maxHeartbeats 400000 in
theorem cM_tick (l : Launch) (G : GG) (m0 : Nat) (x : Nat → Nat → Int32) (z : Nat → Int64) (n : Int32) : MW l G yX8_tick cX8_tick 2 (some .int) 1 [.ref m0, .int n] (MWd G m0 x z) (some (.int (s_X8_tick x n))) (MWd G m0 (sx_X8_tick x n) z) (MA m0) 0 0 := by
  refine MW.of RX8 rfl (by decide) (Nat.le_of_ble_eq_true rfl) ?_
  intro p_ e_ s_ m_ args_ below_ meth_ c_ ls hargs C hr hnm hW hS hl
  have hl : lv_has ls 2 [(0, .ref m0), (1, .int n)] := hl
  refine lv_iload_n C.hx C.hb dX8_tick_0 rfl (lv_at hl 1 rfl) ?_
  refine lv_iconst (v := 1) C.hx C.hb dX8_tick_1 (by decide) ?_
  refine lv_sipush (v := 1000) C.hx C.hb dX8_tick_2 (by decide) ?_
  refine kSR (As := [.int n, .int 1, .int 1000]) (rest := []) (v := .int (s_X8_within n 1 1000)) C (cM_within l G n 1 1000) lk_X8_136 trivial rfl rfl hl (Nat.le_of_ble_eq_true rfl) dX8_tick_5 ⟨⟨by decide, by decide⟩, by decide, by decide⟩ ?_
  refine lv_if_eq (tgt := 22) C.hx C.hb dX8_tick_8 (by decide) (fun c1 => ?_) (fun c1 => ?_)
  · refine lv_iconst (v := (-1)) C.hx C.hb dX8_tick_22 (by decide) ?_
    exact wI C hr dX8_tick_23 hS (by unfold s_X8_tick; rw [if_pos c1]) (by unfold sx_X8_tick; rw [if_pos c1]; exact hW)
  · refine lv_aload_n C.hx C.hb dX8_tick_11 rfl (lv_at hl 0 rfl) ?_
    refine g_get (k := 0) (v := .int (x 0 0)) C hW.1 rfl wu_X8 (by decide) wf_X8_140 rfl rfl dX8_tick_12 ?_
    refine lv_iload_n C.hx C.hb dX8_tick_15 rfl (lv_at hl 1 rfl) ?_
    refine lv_iadd C.hx C.hb dX8_tick_16 ?_
    refine lv_ldc (v := 1000000) C.hx C.hb C.hown (C.hT _ wk_X8_143) dX8_tick_17 ?_
    refine lv_icmp_le (tgt := 24) C.hx C.hb dX8_tick_19 (by decide) (fun c2 => ?_) (fun c2 => ?_)
    · refine lv_aload_n C.hx C.hb dX8_tick_24 rfl (lv_at hl 0 rfl) ?_
      refine lv_dup C.hx C.hb dX8_tick_25 rfl ?_
      refine g_get (k := 0) (v := .int (x 0 0)) C hW.1 rfl wu_X8 (by decide) wf_X8_140 rfl rfl dX8_tick_26 ?_
      refine lv_iload_n C.hx C.hb dX8_tick_29 rfl (lv_at hl 1 rfl) ?_
      refine lv_iadd C.hx C.hb dX8_tick_30 ?_
      refine g_put (k := 0) tyX8 C hS hW.1 MA_0 rfl wu_X8 tyX8_ok nmX8 (by decide) wf_X8_140 rfl rfl rfl rfl rfl (Nat.le_of_ble_eq_true rfl) dX8_tick_31 (fun H locs e1 o1 z1 hS => ?_)
      have hW : MWd G m0 (up2 x 0 0 ((x 0 0) + n)) z H := MWd.putS 0 hW e1 o1 mset_0 rfl (by decide)
      refine lv_aload_n C.hx C.hb dX8_tick_34 rfl (lv_at hl 0 rfl) ?_
      refine g_get (k := 0) (v := .int ((x 0 0) + n)) C hW.1 rfl wu_X8 (by decide) wf_X8_140 rfl rfl dX8_tick_35 ?_
      exact wI C hr dX8_tick_38 hS (by unfold s_X8_tick; rw [if_neg c1, if_pos c2]) (by unfold sx_X8_tick; rw [if_neg c1, if_pos c2]; exact hW)
    · refine lv_iconst (v := (-1)) C.hx C.hb dX8_tick_22 (by decide) ?_
      exact wI C hr dX8_tick_23 hS (by unfold s_X8_tick; rw [if_neg c1, if_neg c2]) (by unfold sx_X8_tick; rw [if_neg c1, if_neg c2]; exact hW)
def s_X8_rule (r : Int32) (g : Int32) (h : Int32) (f : Int32) : Int32 := (if (s_X8_within r 0 7) = 0 then (-1) else (if (s_X8_within g 0 2) = 0 then (-1) else (if (s_X8_within h 1 100) = 0 then (-1) else (if (s_X8_within f 0 2) = 0 then (-1) else 1))))
def sx_X8_rule (x : Nat → Nat → Int32) (r : Int32) (g : Int32) (h : Int32) (f : Int32) : Nat → Nat → Int32 := (if (s_X8_within r 0 7) = 0 then x else (if (s_X8_within g 0 2) = 0 then x else (if (s_X8_within h 1 100) = 0 then x else (if (s_X8_within f 0 2) = 0 then x else (up2 (up2 (up2 x 1 (tn r) g) 2 (tn r) h) 3 (tn r) f)))))
set_option maxRecDepth 100000 in
set_option maxHeartbeats 400000 in
theorem cM_rule (l : Launch) (G : GG) (m0 : Nat) (x : Nat → Nat → Int32) (z : Nat → Int64) (r : Int32) (g : Int32) (h : Int32) (f : Int32) : MW l G yX8_rule cX8_rule 5 (some .int) 1 [.ref m0, .int r, .int g, .int h, .int f] (MWd G m0 x z) (some (.int (s_X8_rule r g h f))) (MWd G m0 (sx_X8_rule x r g h f) z) (MA m0) 0 0 := by
  refine MW.of RX8 rfl (by decide) (Nat.le_of_ble_eq_true rfl) ?_
  intro p_ e_ s_ m_ args_ below_ meth_ c_ ls hargs C hr hnm hW hS hl
  have hl : lv_has ls 5 [(0, .ref m0), (1, .int r), (2, .int g), (3, .int h), (4, .int f)] := hl
  refine lv_iload_n C.hx C.hb dX8_rule_0 rfl (lv_at hl 1 rfl) ?_
  refine lv_iconst (v := 0) C.hx C.hb dX8_rule_1 (by decide) ?_
  refine lv_bipush (v := 7) C.hx C.hb dX8_rule_2 (by decide) ?_
  refine kSR (As := [.int r, .int 0, .int 7]) (rest := []) (v := .int (s_X8_within r 0 7)) C (cM_within l G r 0 7) lk_X8_136 trivial rfl rfl hl (Nat.le_of_ble_eq_true rfl) dX8_rule_4 ⟨⟨by decide, by decide⟩, by decide, by decide⟩ ?_
  refine lv_if_eq (tgt := 39) C.hx C.hb dX8_rule_7 (by decide) (fun c1 => ?_) (fun c1 => ?_)
  · refine lv_iconst (v := (-1)) C.hx C.hb dX8_rule_39 (by decide) ?_
    exact wI C hr dX8_rule_40 hS (by unfold s_X8_rule; rw [if_pos c1]) (by unfold sx_X8_rule; rw [if_pos c1]; exact hW)
  · obtain ⟨rN, hrN, rfl⟩ := within_nz (n := 7) c1 (by decide)
    have trN : tn (nI rN) = rN := nI_clamp (by omega)
    refine lv_iload_n C.hx C.hb dX8_rule_10 rfl (lv_at hl 2 rfl) ?_
    refine lv_iconst (v := 0) C.hx C.hb dX8_rule_11 (by decide) ?_
    refine lv_iconst (v := 2) C.hx C.hb dX8_rule_12 (by decide) ?_
    refine kSR (As := [.int g, .int 0, .int 2]) (rest := []) (v := .int (s_X8_within g 0 2)) C (cM_within l G g 0 2) lk_X8_136 trivial rfl rfl hl (Nat.le_of_ble_eq_true rfl) dX8_rule_13 ⟨⟨by decide, by decide⟩, by decide, by decide⟩ ?_
    refine lv_if_eq (tgt := 39) C.hx C.hb dX8_rule_16 (by decide) (fun c2 => ?_) (fun c2 => ?_)
    · refine lv_iconst (v := (-1)) C.hx C.hb dX8_rule_39 (by decide) ?_
      exact wI C hr dX8_rule_40 hS (by unfold s_X8_rule; (try simp only [trN]); rw [if_neg c1, if_pos c2]) (by unfold sx_X8_rule; (try simp only [trN]); rw [if_neg c1, if_pos c2]; exact hW)
    · refine lv_iload_n C.hx C.hb dX8_rule_19 rfl (lv_at hl 3 rfl) ?_
      refine lv_iconst (v := 1) C.hx C.hb dX8_rule_20 (by decide) ?_
      refine lv_bipush (v := 100) C.hx C.hb dX8_rule_21 (by decide) ?_
      refine kSR (As := [.int h, .int 1, .int 100]) (rest := []) (v := .int (s_X8_within h 1 100)) C (cM_within l G h 1 100) lk_X8_136 trivial rfl rfl hl (Nat.le_of_ble_eq_true rfl) dX8_rule_23 ⟨⟨by decide, by decide⟩, by decide, by decide⟩ ?_
      refine lv_if_eq (tgt := 39) C.hx C.hb dX8_rule_26 (by decide) (fun c3 => ?_) (fun c3 => ?_)
      · refine lv_iconst (v := (-1)) C.hx C.hb dX8_rule_39 (by decide) ?_
        exact wI C hr dX8_rule_40 hS (by unfold s_X8_rule; (try simp only [trN]); rw [if_neg c1, if_neg c2, if_pos c3]) (by unfold sx_X8_rule; (try simp only [trN]); rw [if_neg c1, if_neg c2, if_pos c3]; exact hW)
      · refine lv_iload C.hx C.hb dX8_rule_29 (lv_at hl 4 rfl) ?_
        refine lv_iconst (v := 0) C.hx C.hb dX8_rule_31 (by decide) ?_
        refine lv_iconst (v := 2) C.hx C.hb dX8_rule_32 (by decide) ?_
        refine kSR (As := [.int f, .int 0, .int 2]) (rest := []) (v := .int (s_X8_within f 0 2)) C (cM_within l G f 0 2) lk_X8_136 trivial rfl rfl hl (Nat.le_of_ble_eq_true rfl) dX8_rule_33 ⟨⟨by decide, by decide⟩, by decide, by decide⟩ ?_
        refine lv_if_ne (tgt := 41) C.hx C.hb dX8_rule_36 (by decide) (fun c4 => ?_) (fun c4 => ?_)
        · refine lv_aload_n C.hx C.hb dX8_rule_41 rfl (lv_at hl 0 rfl) ?_
          refine g_get (k := 1) (v := .ref (am m0 1)) C hW.1 rfl wu_X8 (by decide) wf_X8_9 rfl rfl dX8_rule_42 ?_
          refine lv_iload_n C.hx C.hb dX8_rule_45 rfl (lv_at hl 1 rfl) ?_
          refine lv_iload_n C.hx C.hb dX8_rule_46 rfl (lv_at hl 2 rfl) ?_
          refine g_iast (f := x 1) (k := rN) C hS (hW.2.1 1 rfl) (am_A (Or.inl rfl)) rfl (show rN < 8 by omega) (by decide) dX8_rule_47 (fun H locs e1 o1 z1 hS => ?_)
          have hW : MWd G m0 (up2 x 1 rN g) z H := MWd.putA 1 hW rfl e1 o1 (mfs_up rfl) (by decide) (by decide)
          refine lv_aload_n C.hx C.hb dX8_rule_48 rfl (lv_at hl 0 rfl) ?_
          refine g_get (k := 2) (v := .ref (am m0 2)) C hW.1 rfl wu_X8 (by decide) wf_X8_13 rfl rfl dX8_rule_49 ?_
          refine lv_iload_n C.hx C.hb dX8_rule_52 rfl (lv_at hl 1 rfl) ?_
          refine lv_iload_n C.hx C.hb dX8_rule_53 rfl (lv_at hl 3 rfl) ?_
          refine g_iast (f := x 2) (k := rN) C hS (hW.2.1 2 rfl) (am_A (Or.inl rfl)) rfl (show rN < 8 by omega) (by decide) dX8_rule_54 (fun H locs e1 o1 z1 hS => ?_)
          have hW : MWd G m0 (up2 (up2 x 1 rN g) 2 rN h) z H := MWd.putA 2 hW rfl e1 o1 (mfs_up rfl) (by decide) (by decide)
          refine lv_aload_n C.hx C.hb dX8_rule_55 rfl (lv_at hl 0 rfl) ?_
          refine g_get (k := 3) (v := .ref (am m0 3)) C hW.1 rfl wu_X8 (by decide) wf_X8_16 rfl rfl dX8_rule_56 ?_
          refine lv_iload_n C.hx C.hb dX8_rule_59 rfl (lv_at hl 1 rfl) ?_
          refine lv_iload C.hx C.hb dX8_rule_60 (lv_at hl 4 rfl) ?_
          refine g_iast (f := x 3) (k := rN) C hS (hW.2.1 3 rfl) (am_A (Or.inl rfl)) rfl (show rN < 8 by omega) (by decide) dX8_rule_62 (fun H locs e1 o1 z1 hS => ?_)
          have hW : MWd G m0 (up2 (up2 (up2 x 1 rN g) 2 rN h) 3 rN f) z H := MWd.putA 3 hW rfl e1 o1 (mfs_up rfl) (by decide) (by decide)
          refine lv_iconst (v := 1) C.hx C.hb dX8_rule_63 (by decide) ?_
          exact wI C hr dX8_rule_64 hS (by unfold s_X8_rule; (try simp only [trN]); rw [if_neg c1, if_neg c2, if_neg c3, if_neg c4]) (by unfold sx_X8_rule; (try simp only [trN]); rw [if_neg c1, if_neg c2, if_neg c3, if_neg c4]; exact hW)
        · refine lv_iconst (v := (-1)) C.hx C.hb dX8_rule_39 (by decide) ?_
          exact wI C hr dX8_rule_40 hS (by unfold s_X8_rule; (try simp only [trN]); rw [if_neg c1, if_neg c2, if_neg c3, if_pos c4]) (by unfold sx_X8_rule; (try simp only [trN]); rw [if_neg c1, if_neg c2, if_neg c3, if_pos c4]; exact hW)
def s_X8_ladder (f : Int32) (q : Int32) : Int32 := (if (s_X8_within f 1 10000) = 0 then (-1) else (if (s_X8_within q 1 10000) = 0 then (-1) else 1))
def sx_X8_ladder (x : Nat → Nat → Int32) (f : Int32) (q : Int32) : Nat → Nat → Int32 := (if (s_X8_within f 1 10000) = 0 then x else (if (s_X8_within q 1 10000) = 0 then x else (up2 (up2 x 5 0 f) 6 0 q)))
set_option maxRecDepth 100000 in
set_option maxHeartbeats 400000 in
theorem cM_ladder (l : Launch) (G : GG) (m0 : Nat) (x : Nat → Nat → Int32) (z : Nat → Int64) (f : Int32) (q : Int32) : MW l G yX8_ladder cX8_ladder 3 (some .int) 1 [.ref m0, .int f, .int q] (MWd G m0 x z) (some (.int (s_X8_ladder f q))) (MWd G m0 (sx_X8_ladder x f q) z) (MA m0) 0 0 := by
  refine MW.of RX8 rfl (by decide) (Nat.le_of_ble_eq_true rfl) ?_
  intro p_ e_ s_ m_ args_ below_ meth_ c_ ls hargs C hr hnm hW hS hl
  have hl : lv_has ls 3 [(0, .ref m0), (1, .int f), (2, .int q)] := hl
  refine lv_iload_n C.hx C.hb dX8_ladder_0 rfl (lv_at hl 1 rfl) ?_
  refine lv_iconst (v := 1) C.hx C.hb dX8_ladder_1 (by decide) ?_
  refine lv_sipush (v := 10000) C.hx C.hb dX8_ladder_2 (by decide) ?_
  refine kSR (As := [.int f, .int 1, .int 10000]) (rest := []) (v := .int (s_X8_within f 1 10000)) C (cM_within l G f 1 10000) lk_X8_136 trivial rfl rfl hl (Nat.le_of_ble_eq_true rfl) dX8_ladder_5 ⟨⟨by decide, by decide⟩, by decide, by decide⟩ ?_
  refine lv_if_eq (tgt := 22) C.hx C.hb dX8_ladder_8 (by decide) (fun c1 => ?_) (fun c1 => ?_)
  · refine lv_iconst (v := (-1)) C.hx C.hb dX8_ladder_22 (by decide) ?_
    exact wI C hr dX8_ladder_23 hS (by unfold s_X8_ladder; rw [if_pos c1]) (by unfold sx_X8_ladder; rw [if_pos c1]; exact hW)
  · refine lv_iload_n C.hx C.hb dX8_ladder_11 rfl (lv_at hl 2 rfl) ?_
    refine lv_iconst (v := 1) C.hx C.hb dX8_ladder_12 (by decide) ?_
    refine lv_sipush (v := 10000) C.hx C.hb dX8_ladder_13 (by decide) ?_
    refine kSR (As := [.int q, .int 1, .int 10000]) (rest := []) (v := .int (s_X8_within q 1 10000)) C (cM_within l G q 1 10000) lk_X8_136 trivial rfl rfl hl (Nat.le_of_ble_eq_true rfl) dX8_ladder_16 ⟨⟨by decide, by decide⟩, by decide, by decide⟩ ?_
    refine lv_if_ne (tgt := 24) C.hx C.hb dX8_ladder_19 (by decide) (fun c2 => ?_) (fun c2 => ?_)
    · refine lv_aload_n C.hx C.hb dX8_ladder_24 rfl (lv_at hl 0 rfl) ?_
      refine lv_iload_n C.hx C.hb dX8_ladder_25 rfl (lv_at hl 1 rfl) ?_
      refine g_put (k := 5) tyX8 C hS hW.1 MA_0 rfl wu_X8 tyX8_ok nmX8 (by decide) wf_X8_22 rfl rfl rfl rfl rfl (Nat.le_of_ble_eq_true rfl) dX8_ladder_26 (fun H locs e1 o1 z1 hS => ?_)
      have hW : MWd G m0 (up2 x 5 0 f) z H := MWd.putS 5 hW e1 o1 mset_5 rfl (by decide)
      refine lv_aload_n C.hx C.hb dX8_ladder_29 rfl (lv_at hl 0 rfl) ?_
      refine lv_iload_n C.hx C.hb dX8_ladder_30 rfl (lv_at hl 2 rfl) ?_
      refine g_put (k := 6) tyX8 C hS hW.1 MA_0 rfl wu_X8 tyX8_ok nmX8 (by decide) wf_X8_26 rfl rfl rfl rfl rfl (Nat.le_of_ble_eq_true rfl) dX8_ladder_31 (fun H locs e1 o1 z1 hS => ?_)
      have hW : MWd G m0 (up2 (up2 x 5 0 f) 6 0 q) z H := MWd.putS 6 hW e1 o1 mset_6 rfl (by decide)
      refine lv_iconst (v := 1) C.hx C.hb dX8_ladder_34 (by decide) ?_
      exact wI C hr dX8_ladder_35 hS (by unfold s_X8_ladder; rw [if_neg c1, if_neg c2]) (by unfold sx_X8_ladder; rw [if_neg c1, if_neg c2]; exact hW)
    · refine lv_iconst (v := (-1)) C.hx C.hb dX8_ladder_22 (by decide) ?_
      exact wI C hr dX8_ladder_23 hS (by unfold s_X8_ladder; rw [if_neg c1, if_pos c2]) (by unfold sx_X8_ladder; rw [if_neg c1, if_pos c2]; exact hW)
def s_X8_due (x : Nat → Nat → Int32) (g : Int32) (ticks : Int32) : Int32 := (if (s_X8_within g 0 2) = 0 then (-1) else (if (s_X8_within ticks 1 1000) = 0 then (-1) else x 4 (tn g)))
def sx_X8_due (x : Nat → Nat → Int32) (g : Int32) (ticks : Int32) : Nat → Nat → Int32 := (if (s_X8_within g 0 2) = 0 then x else (if (s_X8_within ticks 1 1000) = 0 then x else (up2 x 4 (tn g) ticks)))
set_option maxRecDepth 100000 in
set_option maxHeartbeats 400000 in
theorem cM_due (l : Launch) (G : GG) (m0 : Nat) (x : Nat → Nat → Int32) (z : Nat → Int64) (g : Int32) (ticks : Int32) : MW l G yX8_due cX8_due 4 (some .int) 1 [.ref m0, .int g, .int ticks] (MWd G m0 x z) (some (.int (s_X8_due x g ticks))) (MWd G m0 (sx_X8_due x g ticks) z) (MA m0) 0 0 := by
  refine MW.of RX8 rfl (by decide) (Nat.le_of_ble_eq_true rfl) ?_
  intro p_ e_ s_ m_ args_ below_ meth_ c_ ls hargs C hr hnm hW hS hl
  have hl : lv_has ls 4 [(0, .ref m0), (1, .int g), (2, .int ticks)] := hl
  refine lv_iload_n C.hx C.hb dX8_due_0 rfl (lv_at hl 1 rfl) ?_
  refine lv_iconst (v := 0) C.hx C.hb dX8_due_1 (by decide) ?_
  refine lv_iconst (v := 2) C.hx C.hb dX8_due_2 (by decide) ?_
  refine kSR (As := [.int g, .int 0, .int 2]) (rest := []) (v := .int (s_X8_within g 0 2)) C (cM_within l G g 0 2) lk_X8_136 trivial rfl rfl hl (Nat.le_of_ble_eq_true rfl) dX8_due_3 ⟨⟨by decide, by decide⟩, by decide, by decide⟩ ?_
  refine lv_if_eq (tgt := 20) C.hx C.hb dX8_due_6 (by decide) (fun c1 => ?_) (fun c1 => ?_)
  · refine lv_iconst (v := (-1)) C.hx C.hb dX8_due_20 (by decide) ?_
    exact wI C hr dX8_due_21 hS (by unfold s_X8_due; rw [if_pos c1]) (by unfold sx_X8_due; rw [if_pos c1]; exact hW)
  · obtain ⟨gN, hgN, rfl⟩ := within_nz (n := 2) c1 (by decide)
    have tgN : tn (nI gN) = gN := nI_clamp (by omega)
    refine lv_iload_n C.hx C.hb dX8_due_9 rfl (lv_at hl 2 rfl) ?_
    refine lv_iconst (v := 1) C.hx C.hb dX8_due_10 (by decide) ?_
    refine lv_sipush (v := 1000) C.hx C.hb dX8_due_11 (by decide) ?_
    refine kSR (As := [.int ticks, .int 1, .int 1000]) (rest := []) (v := .int (s_X8_within ticks 1 1000)) C (cM_within l G ticks 1 1000) lk_X8_136 trivial rfl rfl hl (Nat.le_of_ble_eq_true rfl) dX8_due_14 ⟨⟨by decide, by decide⟩, by decide, by decide⟩ ?_
    refine lv_if_ne (tgt := 22) C.hx C.hb dX8_due_17 (by decide) (fun c2 => ?_) (fun c2 => ?_)
    · refine lv_aload_n C.hx C.hb dX8_due_22 rfl (lv_at hl 0 rfl) ?_
      refine g_get (k := 4) (v := .ref (am m0 4)) C hW.1 rfl wu_X8 (by decide) wf_X8_19 rfl rfl dX8_due_23 ?_
      refine lv_iload_n C.hx C.hb dX8_due_26 rfl (lv_at hl 1 rfl) ?_
      refine g_iald (f := x 4) (k := gN) C (hW.2.1 4 rfl) rfl (show gN < 3 by omega) (by decide) dX8_due_27 ?_
      refine lv_istore_n (lv' := [(3, .int (x 4 gN)), (0, .ref m0), (1, .int (nI gN)), (2, .int ticks)]) C.hx C.hb dX8_due_28 rfl hl (by decide) rfl (fun ls hl => ?_)
      refine lv_aload_n C.hx C.hb dX8_due_29 rfl (lv_at hl 1 rfl) ?_
      refine g_get (k := 4) (v := .ref (am m0 4)) C hW.1 rfl wu_X8 (by decide) wf_X8_19 rfl rfl dX8_due_30 ?_
      refine lv_iload_n C.hx C.hb dX8_due_33 rfl (lv_at hl 2 rfl) ?_
      refine lv_iload_n C.hx C.hb dX8_due_34 rfl (lv_at hl 3 rfl) ?_
      refine g_iast (f := x 4) (k := gN) C hS (hW.2.1 4 rfl) (am_A (Or.inl rfl)) rfl (show gN < 3 by omega) (by decide) dX8_due_35 (fun H locs e1 o1 z1 hS => ?_)
      have hW : MWd G m0 (up2 x 4 gN ticks) z H := MWd.putA 4 hW rfl e1 o1 (mfs_up rfl) (by decide) (by decide)
      refine lv_iload_n C.hx C.hb dX8_due_36 rfl (lv_at hl 0 rfl) ?_
      exact wI C hr dX8_due_37 hS (by unfold s_X8_due; (try simp only [tgN]); rw [if_neg c1, if_neg c2]) (by unfold sx_X8_due; (try simp only [tgN]); rw [if_neg c1, if_neg c2]; exact hW)
    · refine lv_iconst (v := (-1)) C.hx C.hb dX8_due_20 (by decide) ?_
      exact wI C hr dX8_due_21 hS (by unfold s_X8_due; (try simp only [tgN]); rw [if_neg c1, if_pos c2]) (by unfold sx_X8_due; (try simp only [tgN]); rw [if_neg c1, if_pos c2]; exact hW)
def s_X8_limit (x : Nat → Nat → Int32) (percent : Int32) : Int32 := (if (s_X8_within percent 0 100) = 0 then (-1) else x 7 0)
def sx_X8_limit (x : Nat → Nat → Int32) (percent : Int32) : Nat → Nat → Int32 := (if (s_X8_within percent 0 100) = 0 then x else (up2 x 7 0 percent))
set_option maxRecDepth 100000 in
set_option maxHeartbeats 400000 in
theorem cM_limit (l : Launch) (G : GG) (m0 : Nat) (x : Nat → Nat → Int32) (z : Nat → Int64) (percent : Int32) : MW l G yX8_limit cX8_limit 3 (some .int) 1 [.ref m0, .int percent] (MWd G m0 x z) (some (.int (s_X8_limit x percent))) (MWd G m0 (sx_X8_limit x percent) z) (MA m0) 0 0 := by
  refine MW.of RX8 rfl (by decide) (Nat.le_of_ble_eq_true rfl) ?_
  intro p_ e_ s_ m_ args_ below_ meth_ c_ ls hargs C hr hnm hW hS hl
  have hl : lv_has ls 3 [(0, .ref m0), (1, .int percent)] := hl
  refine lv_iload_n C.hx C.hb dX8_limit_0 rfl (lv_at hl 1 rfl) ?_
  refine lv_iconst (v := 0) C.hx C.hb dX8_limit_1 (by decide) ?_
  refine lv_bipush (v := 100) C.hx C.hb dX8_limit_2 (by decide) ?_
  refine kSR (As := [.int percent, .int 0, .int 100]) (rest := []) (v := .int (s_X8_within percent 0 100)) C (cM_within l G percent 0 100) lk_X8_136 trivial rfl rfl hl (Nat.le_of_ble_eq_true rfl) dX8_limit_4 ⟨⟨by decide, by decide⟩, by decide, by decide⟩ ?_
  refine lv_if_ne (tgt := 12) C.hx C.hb dX8_limit_7 (by decide) (fun c1 => ?_) (fun c1 => ?_)
  · refine lv_aload_n C.hx C.hb dX8_limit_12 rfl (lv_at hl 0 rfl) ?_
    refine g_get (k := 7) (v := .int (x 7 0)) C hW.1 rfl wu_X8 (by decide) wf_X8_29 rfl rfl dX8_limit_13 ?_
    refine lv_istore_n (lv' := [(2, .int (x 7 0)), (0, .ref m0), (1, .int percent)]) C.hx C.hb dX8_limit_16 rfl hl (by decide) rfl (fun ls hl => ?_)
    refine lv_aload_n C.hx C.hb dX8_limit_17 rfl (lv_at hl 1 rfl) ?_
    refine lv_iload_n C.hx C.hb dX8_limit_18 rfl (lv_at hl 2 rfl) ?_
    refine g_put (k := 7) tyX8 C hS hW.1 MA_0 rfl wu_X8 tyX8_ok nmX8 (by decide) wf_X8_29 rfl rfl rfl rfl rfl (Nat.le_of_ble_eq_true rfl) dX8_limit_19 (fun H locs e1 o1 z1 hS => ?_)
    have hW : MWd G m0 (up2 x 7 0 percent) z H := MWd.putS 7 hW e1 o1 mset_7 rfl (by decide)
    refine lv_iload_n C.hx C.hb dX8_limit_22 rfl (lv_at hl 0 rfl) ?_
    exact wI C hr dX8_limit_23 hS (by unfold s_X8_limit; rw [if_neg c1]) (by unfold sx_X8_limit; rw [if_neg c1]; exact hW)
  · refine lv_iconst (v := (-1)) C.hx C.hb dX8_limit_10 (by decide) ?_
    exact wI C hr dX8_limit_11 hS (by unfold s_X8_limit; rw [if_pos c1]) (by unfold sx_X8_limit; rw [if_pos c1]; exact hW)
def s_X8_post (x : Nat → Nat → Int32) (w : Int32) (r : Int32) (mk : Int32) : Int32 := (if (s_X8_within w 0 39) = 0 then (-1) else (if (s_X8_within r 1 1000) = 0 then (-1) else (if (s_X8_within mk 0 255) = 0 then (-1) else (if (x 12 0) = 300 then (-2) else ((x 12 0) + 1) - 1))))
def sx_X8_post (x : Nat → Nat → Int32) (w : Int32) (r : Int32) (mk : Int32) : Nat → Nat → Int32 := (if (s_X8_within w 0 39) = 0 then x else (if (s_X8_within r 1 1000) = 0 then x else (if (s_X8_within mk 0 255) = 0 then x else (if (x 12 0) = 300 then x else (up2 (up2 (up2 (up2 (up2 x 8 (nP x) w) 9 (nP x) (x 0 0)) 10 (nP x) r) 11 (nP x) mk) 12 0 ((x 12 0) + 1))))))
set_option maxRecDepth 100000 in
set_option maxHeartbeats 400000 in
theorem cM_post (l : Launch) (G : GG) (m0 : Nat) (x : Nat → Nat → Int32) (z : Nat → Int64) (hI : MI x) (w : Int32) (r : Int32) (mk : Int32) : MW l G yX8_post cX8_post 4 (some .int) 1 [.ref m0, .int w, .int r, .int mk] (MWd G m0 x z) (some (.int (s_X8_post x w r mk))) (MWd G m0 (sx_X8_post x w r mk) z) (MA m0) 0 0 := by
  refine MW.of RX8 rfl (by decide) (Nat.le_of_ble_eq_true rfl) ?_
  intro p_ e_ s_ m_ args_ below_ meth_ c_ ls hargs C hr hnm hW hS hl
  obtain ⟨⟨eP, bP⟩, ⟨eC, bC⟩, ⟨eG, bG⟩, ⟨eV, bV⟩, -, -⟩ := id hI
  have hl : lv_has ls 4 [(0, .ref m0), (1, .int w), (2, .int r), (3, .int mk)] := hl
  refine lv_iload_n C.hx C.hb dX8_post_0 rfl (lv_at hl 1 rfl) ?_
  refine lv_iconst (v := 0) C.hx C.hb dX8_post_1 (by decide) ?_
  refine lv_bipush (v := 39) C.hx C.hb dX8_post_2 (by decide) ?_
  refine kSR (As := [.int w, .int 0, .int 39]) (rest := []) (v := .int (s_X8_within w 0 39)) C (cM_within l G w 0 39) lk_X8_136 trivial rfl rfl hl (Nat.le_of_ble_eq_true rfl) dX8_post_4 ⟨⟨by decide, by decide⟩, by decide, by decide⟩ ?_
  refine lv_if_eq (tgt := 32) C.hx C.hb dX8_post_7 (by decide) (fun c1 => ?_) (fun c1 => ?_)
  · refine lv_iconst (v := (-1)) C.hx C.hb dX8_post_32 (by decide) ?_
    exact wI C hr dX8_post_33 hS (by unfold s_X8_post; rw [if_pos c1]) (by unfold sx_X8_post; rw [if_pos c1]; exact hW)
  · refine lv_iload_n C.hx C.hb dX8_post_10 rfl (lv_at hl 2 rfl) ?_
    refine lv_iconst (v := 1) C.hx C.hb dX8_post_11 (by decide) ?_
    refine lv_sipush (v := 1000) C.hx C.hb dX8_post_12 (by decide) ?_
    refine kSR (As := [.int r, .int 1, .int 1000]) (rest := []) (v := .int (s_X8_within r 1 1000)) C (cM_within l G r 1 1000) lk_X8_136 trivial rfl rfl hl (Nat.le_of_ble_eq_true rfl) dX8_post_15 ⟨⟨by decide, by decide⟩, by decide, by decide⟩ ?_
    refine lv_if_eq (tgt := 32) C.hx C.hb dX8_post_18 (by decide) (fun c2 => ?_) (fun c2 => ?_)
    · refine lv_iconst (v := (-1)) C.hx C.hb dX8_post_32 (by decide) ?_
      exact wI C hr dX8_post_33 hS (by unfold s_X8_post; rw [if_neg c1, if_pos c2]) (by unfold sx_X8_post; rw [if_neg c1, if_pos c2]; exact hW)
    · refine lv_iload_n C.hx C.hb dX8_post_21 rfl (lv_at hl 3 rfl) ?_
      refine lv_iconst (v := 0) C.hx C.hb dX8_post_22 (by decide) ?_
      refine lv_sipush (v := 255) C.hx C.hb dX8_post_23 (by decide) ?_
      refine kSR (As := [.int mk, .int 0, .int 255]) (rest := []) (v := .int (s_X8_within mk 0 255)) C (cM_within l G mk 0 255) lk_X8_136 trivial rfl rfl hl (Nat.le_of_ble_eq_true rfl) dX8_post_26 ⟨⟨by decide, by decide⟩, by decide, by decide⟩ ?_
      refine lv_if_ne (tgt := 34) C.hx C.hb dX8_post_29 (by decide) (fun c3 => ?_) (fun c3 => ?_)
      · refine lv_aload_n C.hx C.hb dX8_post_34 rfl (lv_at hl 0 rfl) ?_
        refine g_get (k := 12) (v := .int (x 12 0)) C hW.1 rfl wu_X8 (by decide) wf_X8_144 rfl rfl dX8_post_35 ?_
        refine lv_sipush (v := 300) C.hx C.hb dX8_post_38 (by decide) ?_
        refine lv_icmp_ne (tgt := 47) C.hx C.hb dX8_post_41 (by decide) (fun c4 => ?_) (fun c4 => ?_)
        · have gc4 : nP x < 300 := ne_lt (M := 300) eP c4 (by omega)
          refine lv_aload_n C.hx C.hb dX8_post_47 rfl (lv_at hl 0 rfl) ?_
          refine g_get (k := 8) (v := .ref (am m0 8)) C hW.1 rfl wu_X8 (by decide) wf_X8_32 rfl rfl dX8_post_48 ?_
          refine lv_aload_n C.hx C.hb dX8_post_51 rfl (lv_at hl 0 rfl) ?_
          refine g_get (k := 12) (v := .int (x 12 0)) C hW.1 rfl wu_X8 (by decide) wf_X8_144 rfl rfl dX8_post_52 ?_
          refine lv_iload_n C.hx C.hb dX8_post_55 rfl (lv_at hl 1 rfl) ?_
          refine g_iast (f := x 8) (k := (nP x)) C hS (hW.2.1 8 rfl) (am_A (Or.inl rfl)) eP (show nP x < 300 by omega) (by decide) dX8_post_56 (fun H locs e1 o1 z1 hS => ?_)
          have hW : MWd G m0 (up2 x 8 (nP x) w) z H := MWd.putA 8 hW rfl e1 o1 (mfs_up rfl) (by decide) (by decide)
          refine lv_aload_n C.hx C.hb dX8_post_57 rfl (lv_at hl 0 rfl) ?_
          refine g_get (k := 9) (v := .ref (am m0 9)) C hW.1 rfl wu_X8 (by decide) wf_X8_35 rfl rfl dX8_post_58 ?_
          refine lv_aload_n C.hx C.hb dX8_post_61 rfl (lv_at hl 0 rfl) ?_
          refine g_get (k := 12) (v := .int (x 12 0)) C hW.1 rfl wu_X8 (by decide) wf_X8_144 rfl rfl dX8_post_62 ?_
          refine lv_aload_n C.hx C.hb dX8_post_65 rfl (lv_at hl 0 rfl) ?_
          refine g_get (k := 0) (v := .int (x 0 0)) C hW.1 rfl wu_X8 (by decide) wf_X8_140 rfl rfl dX8_post_66 ?_
          refine g_iast (f := x 9) (k := (nP x)) C hS (hW.2.1 9 rfl) (am_A (Or.inl rfl)) eP (show nP x < 300 by omega) (by decide) dX8_post_69 (fun H locs e1 o1 z1 hS => ?_)
          have hW : MWd G m0 (up2 (up2 x 8 (nP x) w) 9 (nP x) (x 0 0)) z H := MWd.putA 9 hW rfl e1 o1 (mfs_up rfl) (by decide) (by decide)
          refine lv_aload_n C.hx C.hb dX8_post_70 rfl (lv_at hl 0 rfl) ?_
          refine g_get (k := 10) (v := .ref (am m0 10)) C hW.1 rfl wu_X8 (by decide) wf_X8_38 rfl rfl dX8_post_71 ?_
          refine lv_aload_n C.hx C.hb dX8_post_74 rfl (lv_at hl 0 rfl) ?_
          refine g_get (k := 12) (v := .int (x 12 0)) C hW.1 rfl wu_X8 (by decide) wf_X8_144 rfl rfl dX8_post_75 ?_
          refine lv_iload_n C.hx C.hb dX8_post_78 rfl (lv_at hl 2 rfl) ?_
          refine g_iast (f := x 10) (k := (nP x)) C hS (hW.2.1 10 rfl) (am_A (Or.inl rfl)) eP (show nP x < 300 by omega) (by decide) dX8_post_79 (fun H locs e1 o1 z1 hS => ?_)
          have hW : MWd G m0 (up2 (up2 (up2 x 8 (nP x) w) 9 (nP x) (x 0 0)) 10 (nP x) r) z H := MWd.putA 10 hW rfl e1 o1 (mfs_up rfl) (by decide) (by decide)
          refine lv_aload_n C.hx C.hb dX8_post_80 rfl (lv_at hl 0 rfl) ?_
          refine g_get (k := 11) (v := .ref (am m0 11)) C hW.1 rfl wu_X8 (by decide) wf_X8_41 rfl rfl dX8_post_81 ?_
          refine lv_aload_n C.hx C.hb dX8_post_84 rfl (lv_at hl 0 rfl) ?_
          refine g_get (k := 12) (v := .int (x 12 0)) C hW.1 rfl wu_X8 (by decide) wf_X8_144 rfl rfl dX8_post_85 ?_
          refine lv_iload_n C.hx C.hb dX8_post_88 rfl (lv_at hl 3 rfl) ?_
          refine g_iast (f := x 11) (k := (nP x)) C hS (hW.2.1 11 rfl) (am_A (Or.inl rfl)) eP (show nP x < 300 by omega) (by decide) dX8_post_89 (fun H locs e1 o1 z1 hS => ?_)
          have hW : MWd G m0 (up2 (up2 (up2 (up2 x 8 (nP x) w) 9 (nP x) (x 0 0)) 10 (nP x) r) 11 (nP x) mk) z H := MWd.putA 11 hW rfl e1 o1 (mfs_up rfl) (by decide) (by decide)
          refine lv_aload_n C.hx C.hb dX8_post_90 rfl (lv_at hl 0 rfl) ?_
          refine lv_dup C.hx C.hb dX8_post_91 rfl ?_
          refine g_get (k := 12) (v := .int (x 12 0)) C hW.1 rfl wu_X8 (by decide) wf_X8_144 rfl rfl dX8_post_92 ?_
          refine lv_iconst (v := 1) C.hx C.hb dX8_post_95 (by decide) ?_
          refine lv_iadd C.hx C.hb dX8_post_96 ?_
          refine g_put (k := 12) tyX8 C hS hW.1 MA_0 rfl wu_X8 tyX8_ok nmX8 (by decide) wf_X8_144 rfl rfl rfl rfl rfl (Nat.le_of_ble_eq_true rfl) dX8_post_97 (fun H locs e1 o1 z1 hS => ?_)
          have hW : MWd G m0 (up2 (up2 (up2 (up2 (up2 x 8 (nP x) w) 9 (nP x) (x 0 0)) 10 (nP x) r) 11 (nP x) mk) 12 0 ((x 12 0) + 1)) z H := MWd.putS 12 hW e1 o1 mset_12 rfl (by decide)
          refine lv_aload_n C.hx C.hb dX8_post_100 rfl (lv_at hl 0 rfl) ?_
          refine g_get (k := 12) (v := .int ((x 12 0) + 1)) C hW.1 rfl wu_X8 (by decide) wf_X8_144 rfl rfl dX8_post_101 ?_
          refine lv_iconst (v := 1) C.hx C.hb dX8_post_104 (by decide) ?_
          refine lv_isub C.hx C.hb dX8_post_105 ?_
          exact wI C hr dX8_post_106 hS (by unfold s_X8_post; rw [if_neg c1, if_neg c2, if_neg c3, if_neg c4]) (by unfold sx_X8_post; rw [if_neg c1, if_neg c2, if_neg c3, if_neg c4]; exact hW)
        · refine lv_bipush (v := (-2)) C.hx C.hb dX8_post_44 (by decide) ?_
          exact wI C hr dX8_post_46 hS (by unfold s_X8_post; rw [if_neg c1, if_neg c2, if_neg c3, if_pos c4]) (by unfold sx_X8_post; rw [if_neg c1, if_neg c2, if_neg c3, if_pos c4]; exact hW)
      · refine lv_iconst (v := (-1)) C.hx C.hb dX8_post_32 (by decide) ?_
        exact wI C hr dX8_post_33 hS (by unfold s_X8_post; rw [if_neg c1, if_neg c2, if_pos c3]) (by unfold sx_X8_post; rw [if_neg c1, if_neg c2, if_pos c3]; exact hW)
def s_X8_judge (j : Int32) (sk : Int32) (ld : Int32) (wt : Int32) : Int32 := (if (s_X8_isJudge j) = 0 then (-1) else (if (s_X8_within sk 0 255) = 0 then (-1) else (if (s_X8_within ld 0 20) = 0 then (-1) else (if (s_X8_within wt 1 10) = 0 then (-1) else 1))))
def sx_X8_judge (x : Nat → Nat → Int32) (j : Int32) (sk : Int32) (ld : Int32) (wt : Int32) : Nat → Nat → Int32 := (if (s_X8_isJudge j) = 0 then x else (if (s_X8_within sk 0 255) = 0 then x else (if (s_X8_within ld 0 20) = 0 then x else (if (s_X8_within wt 1 10) = 0 then x else (up2 (up2 (up2 x 29 (tn j) sk) 31 (tn j) ld) 32 (tn j) wt)))))
set_option maxRecDepth 100000 in
set_option maxHeartbeats 400000 in
theorem cM_judge (l : Launch) (G : GG) (m0 : Nat) (x : Nat → Nat → Int32) (z : Nat → Int64) (j : Int32) (sk : Int32) (ld : Int32) (wt : Int32) : MW l G yX8_judge cX8_judge 5 (some .int) 1 [.ref m0, .int j, .int sk, .int ld, .int wt] (MWd G m0 x z) (some (.int (s_X8_judge j sk ld wt))) (MWd G m0 (sx_X8_judge x j sk ld wt) z) (MA m0) 0 0 := by
  refine MW.of RX8 rfl (by decide) (Nat.le_of_ble_eq_true rfl) ?_
  intro p_ e_ s_ m_ args_ below_ meth_ c_ ls hargs C hr hnm hW hS hl
  have hl : lv_has ls 5 [(0, .ref m0), (1, .int j), (2, .int sk), (3, .int ld), (4, .int wt)] := hl
  refine lv_iload_n C.hx C.hb dX8_judge_0 rfl (lv_at hl 1 rfl) ?_
  refine kSR (As := [.int j]) (rest := []) (v := .int (s_X8_isJudge j)) C (cM_isJudge l G j) lk_X8_147 trivial rfl rfl hl (Nat.le_of_ble_eq_true rfl) dX8_judge_1 ⟨⟨by decide, by decide⟩, by decide, by decide⟩ ?_
  refine lv_if_eq (tgt := 39) C.hx C.hb dX8_judge_4 (by decide) (fun c1 => ?_) (fun c1 => ?_)
  · refine lv_iconst (v := (-1)) C.hx C.hb dX8_judge_39 (by decide) ?_
    exact wI C hr dX8_judge_40 hS (by unfold s_X8_judge; rw [if_pos c1]) (by unfold sx_X8_judge; rw [if_pos c1]; exact hW)
  · obtain ⟨jN, hjN, rfl⟩ := isJudge_nz c1
    have tjN : tn (nI jN) = jN := nI_clamp (by omega)
    refine lv_iload_n C.hx C.hb dX8_judge_7 rfl (lv_at hl 2 rfl) ?_
    refine lv_iconst (v := 0) C.hx C.hb dX8_judge_8 (by decide) ?_
    refine lv_sipush (v := 255) C.hx C.hb dX8_judge_9 (by decide) ?_
    refine kSR (As := [.int sk, .int 0, .int 255]) (rest := []) (v := .int (s_X8_within sk 0 255)) C (cM_within l G sk 0 255) lk_X8_136 trivial rfl rfl hl (Nat.le_of_ble_eq_true rfl) dX8_judge_12 ⟨⟨by decide, by decide⟩, by decide, by decide⟩ ?_
    refine lv_if_eq (tgt := 39) C.hx C.hb dX8_judge_15 (by decide) (fun c2 => ?_) (fun c2 => ?_)
    · refine lv_iconst (v := (-1)) C.hx C.hb dX8_judge_39 (by decide) ?_
      exact wI C hr dX8_judge_40 hS (by unfold s_X8_judge; (try simp only [tjN]); rw [if_neg c1, if_pos c2]) (by unfold sx_X8_judge; (try simp only [tjN]); rw [if_neg c1, if_pos c2]; exact hW)
    · refine lv_iload_n C.hx C.hb dX8_judge_18 rfl (lv_at hl 3 rfl) ?_
      refine lv_iconst (v := 0) C.hx C.hb dX8_judge_19 (by decide) ?_
      refine lv_bipush (v := 20) C.hx C.hb dX8_judge_20 (by decide) ?_
      refine kSR (As := [.int ld, .int 0, .int 20]) (rest := []) (v := .int (s_X8_within ld 0 20)) C (cM_within l G ld 0 20) lk_X8_136 trivial rfl rfl hl (Nat.le_of_ble_eq_true rfl) dX8_judge_22 ⟨⟨by decide, by decide⟩, by decide, by decide⟩ ?_
      refine lv_if_eq (tgt := 39) C.hx C.hb dX8_judge_25 (by decide) (fun c3 => ?_) (fun c3 => ?_)
      · refine lv_iconst (v := (-1)) C.hx C.hb dX8_judge_39 (by decide) ?_
        exact wI C hr dX8_judge_40 hS (by unfold s_X8_judge; (try simp only [tjN]); rw [if_neg c1, if_neg c2, if_pos c3]) (by unfold sx_X8_judge; (try simp only [tjN]); rw [if_neg c1, if_neg c2, if_pos c3]; exact hW)
      · refine lv_iload C.hx C.hb dX8_judge_28 (lv_at hl 4 rfl) ?_
        refine lv_iconst (v := 1) C.hx C.hb dX8_judge_30 (by decide) ?_
        refine lv_bipush (v := 10) C.hx C.hb dX8_judge_31 (by decide) ?_
        refine kSR (As := [.int wt, .int 1, .int 10]) (rest := []) (v := .int (s_X8_within wt 1 10)) C (cM_within l G wt 1 10) lk_X8_136 trivial rfl rfl hl (Nat.le_of_ble_eq_true rfl) dX8_judge_33 ⟨⟨by decide, by decide⟩, by decide, by decide⟩ ?_
        refine lv_if_ne (tgt := 41) C.hx C.hb dX8_judge_36 (by decide) (fun c4 => ?_) (fun c4 => ?_)
        · refine lv_aload_n C.hx C.hb dX8_judge_41 rfl (lv_at hl 0 rfl) ?_
          refine g_get (k := 29) (v := .ref (am m0 29)) C hW.1 rfl wu_X8 (by decide) wf_X8_86 rfl rfl dX8_judge_42 ?_
          refine lv_iload_n C.hx C.hb dX8_judge_45 rfl (lv_at hl 1 rfl) ?_
          refine lv_iload_n C.hx C.hb dX8_judge_46 rfl (lv_at hl 2 rfl) ?_
          refine g_iast (f := x 29) (k := jN) C hS (hW.2.1 29 rfl) (am_A (Or.inl rfl)) rfl (show jN < 20 by omega) (by decide) dX8_judge_47 (fun H locs e1 o1 z1 hS => ?_)
          have hW : MWd G m0 (up2 x 29 jN sk) z H := MWd.putA 29 hW rfl e1 o1 (mfs_up rfl) (by decide) (by decide)
          refine lv_aload_n C.hx C.hb dX8_judge_48 rfl (lv_at hl 0 rfl) ?_
          refine g_get (k := 31) (v := .ref (am m0 31)) C hW.1 rfl wu_X8 (by decide) wf_X8_93 rfl rfl dX8_judge_49 ?_
          refine lv_iload_n C.hx C.hb dX8_judge_52 rfl (lv_at hl 1 rfl) ?_
          refine lv_iload_n C.hx C.hb dX8_judge_53 rfl (lv_at hl 3 rfl) ?_
          refine g_iast (f := x 31) (k := jN) C hS (hW.2.1 31 rfl) (am_A (Or.inl rfl)) rfl (show jN < 20 by omega) (by decide) dX8_judge_54 (fun H locs e1 o1 z1 hS => ?_)
          have hW : MWd G m0 (up2 (up2 x 29 jN sk) 31 jN ld) z H := MWd.putA 31 hW rfl e1 o1 (mfs_up rfl) (by decide) (by decide)
          refine lv_aload_n C.hx C.hb dX8_judge_55 rfl (lv_at hl 0 rfl) ?_
          refine g_get (k := 32) (v := .ref (am m0 32)) C hW.1 rfl wu_X8 (by decide) wf_X8_96 rfl rfl dX8_judge_56 ?_
          refine lv_iload_n C.hx C.hb dX8_judge_59 rfl (lv_at hl 1 rfl) ?_
          refine lv_iload C.hx C.hb dX8_judge_60 (lv_at hl 4 rfl) ?_
          refine g_iast (f := x 32) (k := jN) C hS (hW.2.1 32 rfl) (am_A (Or.inl rfl)) rfl (show jN < 20 by omega) (by decide) dX8_judge_62 (fun H locs e1 o1 z1 hS => ?_)
          have hW : MWd G m0 (up2 (up2 (up2 x 29 jN sk) 31 jN ld) 32 jN wt) z H := MWd.putA 32 hW rfl e1 o1 (mfs_up rfl) (by decide) (by decide)
          refine lv_iconst (v := 1) C.hx C.hb dX8_judge_63 (by decide) ?_
          exact wI C hr dX8_judge_64 hS (by unfold s_X8_judge; (try simp only [tjN]); rw [if_neg c1, if_neg c2, if_neg c3, if_neg c4]) (by unfold sx_X8_judge; (try simp only [tjN]); rw [if_neg c1, if_neg c2, if_neg c3, if_neg c4]; exact hW)
        · refine lv_iconst (v := (-1)) C.hx C.hb dX8_judge_39 (by decide) ?_
          exact wI C hr dX8_judge_40 hS (by unfold s_X8_judge; (try simp only [tjN]); rw [if_neg c1, if_neg c2, if_neg c3, if_pos c4]) (by unfold sx_X8_judge; (try simp only [tjN]); rw [if_neg c1, if_neg c2, if_neg c3, if_pos c4]; exact hW)
def s_X8_kin (z : Nat → Int64) (j : Int32) (w : Int32) (is : Int32) : Int32 := (if (s_X8_isJudge j) = 0 then (-1) else (if (s_X8_within w 0 39) = 0 then (-1) else (if (s_X8_within is 0 1) = 0 then (-1) else (((z (tn j)) >>> (w.toInt64 &&& 63)) &&& (1)).toInt32)))
def sx_X8_kin (x : Nat → Nat → Int32) : Nat → Nat → Int32 := x
def sz_X8_kin (z : Nat → Int64) (j : Int32) (w : Int32) (is : Int32) : Nat → Int64 := (if (s_X8_isJudge j) = 0 then z else (if (s_X8_within w 0 39) = 0 then z else (if (s_X8_within is 0 1) = 0 then z else (vp_updL z (tn j) (((z (tn j)) &&& (((1) <<< (w.toInt64 &&& 63)) ^^^ ((-1)))) ||| (((is).toInt64) <<< (w.toInt64 &&& 63)))))))
set_option maxRecDepth 100000 in
set_option maxHeartbeats 400000 in
theorem cM_kin (l : Launch) (G : GG) (m0 : Nat) (x : Nat → Nat → Int32) (z : Nat → Int64) (j : Int32) (w : Int32) (is : Int32) : MW l G yX8_kin cX8_kin 5 (some .int) 1 [.ref m0, .int j, .int w, .int is] (MWd G m0 x z) (some (.int (s_X8_kin z j w is))) (MWd G m0 (sx_X8_kin x) (sz_X8_kin z j w is)) (MA m0) 0 0 := by
  refine MW.of RX8 rfl (by decide) (Nat.le_of_ble_eq_true rfl) ?_
  intro p_ e_ s_ m_ args_ below_ meth_ c_ ls hargs C hr hnm hW hS hl
  have hl : lv_has ls 5 [(0, .ref m0), (1, .int j), (2, .int w), (3, .int is)] := hl
  refine lv_iload_n C.hx C.hb dX8_kin_0 rfl (lv_at hl 1 rfl) ?_
  refine kSR (As := [.int j]) (rest := []) (v := .int (s_X8_isJudge j)) C (cM_isJudge l G j) lk_X8_147 trivial rfl rfl hl (Nat.le_of_ble_eq_true rfl) dX8_kin_1 ⟨⟨by decide, by decide⟩, by decide, by decide⟩ ?_
  refine lv_if_eq (tgt := 26) C.hx C.hb dX8_kin_4 (by decide) (fun c1 => ?_) (fun c1 => ?_)
  · refine lv_iconst (v := (-1)) C.hx C.hb dX8_kin_26 (by decide) ?_
    exact wI C hr dX8_kin_27 hS (by unfold s_X8_kin; rw [if_pos c1]) (by unfold sx_X8_kin sz_X8_kin; rw [if_pos c1]; exact hW)
  · obtain ⟨jN, hjN, rfl⟩ := isJudge_nz c1
    have tjN : tn (nI jN) = jN := nI_clamp (by omega)
    refine lv_iload_n C.hx C.hb dX8_kin_7 rfl (lv_at hl 2 rfl) ?_
    refine lv_iconst (v := 0) C.hx C.hb dX8_kin_8 (by decide) ?_
    refine lv_bipush (v := 39) C.hx C.hb dX8_kin_9 (by decide) ?_
    refine kSR (As := [.int w, .int 0, .int 39]) (rest := []) (v := .int (s_X8_within w 0 39)) C (cM_within l G w 0 39) lk_X8_136 trivial rfl rfl hl (Nat.le_of_ble_eq_true rfl) dX8_kin_11 ⟨⟨by decide, by decide⟩, by decide, by decide⟩ ?_
    refine lv_if_eq (tgt := 26) C.hx C.hb dX8_kin_14 (by decide) (fun c2 => ?_) (fun c2 => ?_)
    · refine lv_iconst (v := (-1)) C.hx C.hb dX8_kin_26 (by decide) ?_
      exact wI C hr dX8_kin_27 hS (by unfold s_X8_kin; (try simp only [tjN]); rw [if_neg c1, if_pos c2]) (by unfold sx_X8_kin sz_X8_kin; (try simp only [tjN]); rw [if_neg c1, if_pos c2]; exact hW)
    · obtain ⟨wN, hwN, rfl⟩ := within_nz (n := 39) c2 (by decide)
      have twN : tn (nI wN) = wN := nI_clamp (by omega)
      refine lv_iload_n C.hx C.hb dX8_kin_17 rfl (lv_at hl 3 rfl) ?_
      refine lv_iconst (v := 0) C.hx C.hb dX8_kin_18 (by decide) ?_
      refine lv_iconst (v := 1) C.hx C.hb dX8_kin_19 (by decide) ?_
      refine kSR (As := [.int is, .int 0, .int 1]) (rest := []) (v := .int (s_X8_within is 0 1)) C (cM_within l G is 0 1) lk_X8_136 trivial rfl rfl hl (Nat.le_of_ble_eq_true rfl) dX8_kin_20 ⟨⟨by decide, by decide⟩, by decide, by decide⟩ ?_
      refine lv_if_ne (tgt := 28) C.hx C.hb dX8_kin_23 (by decide) (fun c3 => ?_) (fun c3 => ?_)
      · refine lv_aload_n C.hx C.hb dX8_kin_28 rfl (lv_at hl 0 rfl) ?_
        refine g_get (k := 30) (v := .ref (am m0 30)) C hW.1 rfl wu_X8 (by decide) wf_X8_89 rfl rfl dX8_kin_29 ?_
        refine lv_iload_n C.hx C.hb dX8_kin_32 rfl (lv_at hl 1 rfl) ?_
        refine g_lald (f := z) (k := jN) C hW.2.2.1 rfl (show jN < 20 by omega) (by decide) dX8_kin_33 ?_
        refine lv_iload_n C.hx C.hb dX8_kin_34 rfl (lv_at hl 2 rfl) ?_
        refine lv_lshr C.hx C.hb dX8_kin_35 rfl ?_
        refine lv_lconst (v := 1) C.hx C.hb dX8_kin_36 (by decide) ?_
        refine lv_land C.hx C.hb dX8_kin_37 ?_
        refine lv_l2i C.hx C.hb dX8_kin_38 rfl ?_
        refine lv_istore (lv' := [(4, .int ((((z jN) >>> ((nI wN).toInt64 &&& 63)) &&& (1)).toInt32)), (0, .ref m0), (1, .int (nI jN)), (2, .int (nI wN)), (3, .int is)]) C.hx C.hb dX8_kin_39 hl (by decide) rfl (fun ls hl => ?_)
        refine lv_aload_n C.hx C.hb dX8_kin_41 rfl (lv_at hl 1 rfl) ?_
        refine g_get (k := 30) (v := .ref (am m0 30)) C hW.1 rfl wu_X8 (by decide) wf_X8_89 rfl rfl dX8_kin_42 ?_
        refine lv_iload_n C.hx C.hb dX8_kin_45 rfl (lv_at hl 2 rfl) ?_
        refine lv_aload_n C.hx C.hb dX8_kin_46 rfl (lv_at hl 1 rfl) ?_
        refine g_get (k := 30) (v := .ref (am m0 30)) C hW.1 rfl wu_X8 (by decide) wf_X8_89 rfl rfl dX8_kin_47 ?_
        refine lv_iload_n C.hx C.hb dX8_kin_50 rfl (lv_at hl 2 rfl) ?_
        refine g_lald (f := z) (k := jN) C hW.2.2.1 rfl (show jN < 20 by omega) (by decide) dX8_kin_51 ?_
        refine lv_lconst (v := 1) C.hx C.hb dX8_kin_52 (by decide) ?_
        refine lv_iload_n C.hx C.hb dX8_kin_53 rfl (lv_at hl 3 rfl) ?_
        refine lv_lshl C.hx C.hb dX8_kin_54 rfl ?_
        refine lv_ldc2 (v := -1) C.hx C.hb C.hown (C.hT _ wk_X8_151) dX8_kin_55 ?_
        refine lv_lxor C.hx C.hb dX8_kin_58 ?_
        refine lv_land C.hx C.hb dX8_kin_59 ?_
        refine lv_iload_n C.hx C.hb dX8_kin_60 rfl (lv_at hl 4 rfl) ?_
        refine lv_i2l C.hx C.hb dX8_kin_61 rfl ?_
        refine lv_iload_n C.hx C.hb dX8_kin_62 rfl (lv_at hl 3 rfl) ?_
        refine lv_lshl C.hx C.hb dX8_kin_63 rfl ?_
        refine lv_lor C.hx C.hb dX8_kin_64 ?_
        refine g_last (f := z) (k := jN) C hS hW.2.2.1 (am_A (Or.inr (Or.inl rfl))) rfl (show jN < 20 by omega) (by decide) dX8_kin_65 (fun H locs e1 o1 z1 hS => ?_)
        have hW : MWd G m0 x (vp_updL z jN (((z jN) &&& (((1) <<< ((nI wN).toInt64 &&& 63)) ^^^ ((-1)))) ||| (((is).toInt64) <<< ((nI wN).toInt64 &&& 63)))) H := MWd.putL hW e1 o1
        refine lv_iload C.hx C.hb dX8_kin_66 (lv_at hl 0 rfl) ?_
        exact wI C hr dX8_kin_68 hS (by unfold s_X8_kin; (try simp only [tjN, twN]); rw [if_neg c1, if_neg c2, if_neg c3]) (by unfold sx_X8_kin sz_X8_kin; (try simp only [tjN, twN]); rw [if_neg c1, if_neg c2, if_neg c3]; exact hW)
      · refine lv_iconst (v := (-1)) C.hx C.hb dX8_kin_26 (by decide) ?_
        exact wI C hr dX8_kin_27 hS (by unfold s_X8_kin; (try simp only [tjN, twN]); rw [if_neg c1, if_neg c2, if_pos c3]) (by unfold sx_X8_kin sz_X8_kin; (try simp only [tjN, twN]); rw [if_neg c1, if_neg c2, if_pos c3]; exact hW)
def s_X8_undo (x : Nat → Nat → Int32) : Int32 := (if (x 36 0) = 0 then (-4) else x 35 (nG x - 1))
def sx_X8_undo (x : Nat → Nat → Int32) : Nat → Nat → Int32 := (if (x 36 0) = 0 then x else (up2 x 36 0 ((x 36 0) - 1)))
set_option maxRecDepth 100000 in
set_option maxHeartbeats 400000 in
theorem cM_undo (l : Launch) (G : GG) (m0 : Nat) (x : Nat → Nat → Int32) (z : Nat → Int64) (hI : MI x) : MW l G yX8_undo cX8_undo 1 (some .int) 0 [.ref m0] (MWd G m0 x z) (some (.int (s_X8_undo x))) (MWd G m0 (sx_X8_undo x) z) (MA m0) 0 0 := by
  refine MW.of RX8 rfl (by decide) (Nat.le_of_ble_eq_true rfl) ?_
  intro p_ e_ s_ m_ args_ below_ meth_ c_ ls hargs C hr hnm hW hS hl
  obtain ⟨⟨eP, bP⟩, ⟨eC, bC⟩, ⟨eG, bG⟩, ⟨eV, bV⟩, -, -⟩ := id hI
  have hl : lv_has ls 1 [(0, .ref m0)] := hl
  refine lv_aload_n C.hx C.hb dX8_undo_0 rfl (lv_at hl 0 rfl) ?_
  refine g_get (k := 36) (v := .int (x 36 0)) C hW.1 rfl wu_X8 (by decide) wf_X8_153 rfl rfl dX8_undo_1 ?_
  refine lv_if_ne (tgt := 10) C.hx C.hb dX8_undo_4 (by decide) (fun c1 => ?_) (fun c1 => ?_)
  · have gc1 : 0 < nG x := pos_ne eG c1
    refine lv_aload_n C.hx C.hb dX8_undo_10 rfl (lv_at hl 0 rfl) ?_
    refine lv_dup C.hx C.hb dX8_undo_11 rfl ?_
    refine g_get (k := 36) (v := .int (x 36 0)) C hW.1 rfl wu_X8 (by decide) wf_X8_153 rfl rfl dX8_undo_12 ?_
    refine lv_iconst (v := 1) C.hx C.hb dX8_undo_15 (by decide) ?_
    refine lv_isub C.hx C.hb dX8_undo_16 ?_
    refine g_put (k := 36) tyX8 C hS hW.1 MA_0 rfl wu_X8 tyX8_ok nmX8 (by decide) wf_X8_153 rfl rfl rfl rfl rfl (Nat.le_of_ble_eq_true rfl) dX8_undo_17 (fun H locs e1 o1 z1 hS => ?_)
    have hW : MWd G m0 (up2 x 36 0 ((x 36 0) - 1)) z H := MWd.putS 36 hW e1 o1 mset_36 rfl (by decide)
    refine lv_aload_n C.hx C.hb dX8_undo_20 rfl (lv_at hl 0 rfl) ?_
    refine g_get (k := 35) (v := .ref (am m0 35)) C hW.1 rfl wu_X8 (by decide) wf_X8_106 rfl rfl dX8_undo_21 ?_
    refine lv_aload_n C.hx C.hb dX8_undo_24 rfl (lv_at hl 0 rfl) ?_
    refine g_get (k := 36) (v := .int ((x 36 0) - 1)) C hW.1 rfl wu_X8 (by decide) wf_X8_153 rfl rfl dX8_undo_25 ?_
    refine g_iald (f := x 35) (k := (nG x - 1)) C (hW.2.1 35 rfl) (nI_subE eG (by decide) (by omega)) (show (nG x - 1) < 400 by omega) (by decide) dX8_undo_28 ?_
    exact wI C hr dX8_undo_29 hS (by unfold s_X8_undo; rw [if_neg c1]) (by unfold sx_X8_undo; rw [if_neg c1]; exact hW)
  · refine lv_bipush (v := (-4)) C.hx C.hb dX8_undo_7 (by decide) ?_
    exact wI C hr dX8_undo_9 hS (by unfold s_X8_undo; rw [if_pos c1]) (by unfold sx_X8_undo; rw [if_pos c1]; exact hW)
def s_X8_isAsking (x : Nat → Nat → Int32) (cN : Nat) : Int32 := (if (x 15 cN) = 0 then 1 else (if (x 15 cN) = 3 then 1 else 0 : Int32) : Int32)
set_option maxRecDepth 100000 in
set_option maxHeartbeats 400000 in
theorem cM_isAsking (l : Launch) (G : GG) (m0 : Nat) (x : Nat → Nat → Int32) (z : Nat → Int64) (hI : MI x) (cN : Nat) (hc : cN < nC x) : MR l G yX8_isAsking cX8_isAsking 2 (some .boolean) 0 [.ref m0, .int (nI cN)] (MWd G m0 x z) (some (.int (s_X8_isAsking x cN))) := by
  refine MR.of RX8 rfl (by decide) (Nat.le_of_ble_eq_true rfl) ?_
  intro p_ e_ s_ m_ args_ below_ meth_ c_ ls hargs C hr hnm hW hl
  obtain ⟨⟨eP, bP⟩, ⟨eC, bC⟩, ⟨eG, bG⟩, ⟨eV, bV⟩, -, -⟩ := id hI
  have hl : lv_has ls 2 [(0, .ref m0), (1, .int (nI cN))] := hl
  refine lv_aload_n C.hx C.hb dX8_isAsking_0 rfl (lv_at hl 0 rfl) ?_
  refine g_get (k := 15) (v := .ref (am m0 15)) C hW.1 rfl wu_X8 (by decide) wf_X8_50 rfl rfl dX8_isAsking_1 ?_
  refine lv_iload_n C.hx C.hb dX8_isAsking_4 rfl (lv_at hl 1 rfl) ?_
  refine g_iald (f := x 15) (k := cN) C (hW.2.1 15 rfl) rfl (show cN < 400 by omega) (by decide) dX8_isAsking_5 ?_
  refine W.joinI (P := fun jv => jv = (if (x 15 cN) = 0 then 1 else (if (x 15 cN) = 3 then 1 else 0 : Int32) : Int32)) 24 ls [] (fun J3 => ?_) (fun v4 hv4 => ?_)
  · refine lv_if_eq (tgt := 19) C.hx C.hb dX8_isAsking_6 (by decide) (fun c1 => ?_) (fun c1 => ?_)
    · refine lv_iconst (v := 1) C.hx C.hb dX8_isAsking_19 (by decide) ?_
      refine lv_goto (tgt := 24) C.hx C.hb dX8_isAsking_20 (by decide) ?_
      exact J3 _ (by rw [if_pos c1])
    · refine lv_aload_n C.hx C.hb dX8_isAsking_9 rfl (lv_at hl 0 rfl) ?_
      refine g_get (k := 15) (v := .ref (am m0 15)) C hW.1 rfl wu_X8 (by decide) wf_X8_50 rfl rfl dX8_isAsking_10 ?_
      refine lv_iload_n C.hx C.hb dX8_isAsking_13 rfl (lv_at hl 1 rfl) ?_
      refine g_iald (f := x 15) (k := cN) C (hW.2.1 15 rfl) rfl (show cN < 400 by omega) (by decide) dX8_isAsking_14 ?_
      refine lv_iconst (v := 3) C.hx C.hb dX8_isAsking_15 (by decide) ?_
      refine lv_icmp_ne (tgt := 23) C.hx C.hb dX8_isAsking_16 (by decide) (fun c2 => ?_) (fun c2 => ?_)
      · refine lv_iconst (v := 0) C.hx C.hb dX8_isAsking_23 (by decide) ?_
        exact J3 _ (by rw [if_neg c1, if_neg c2])
      · refine lv_iconst (v := 1) C.hx C.hb dX8_isAsking_19 (by decide) ?_
        refine lv_goto (tgt := 24) C.hx C.hb dX8_isAsking_20 (by decide) ?_
        exact J3 _ (by rw [if_neg c1, if_pos c2])
  · exact rZ C hr dX8_isAsking_24 (by rw [hv4]; unfold s_X8_isAsking; with_reducible rfl) (nb01 (by rw [hv4]; (repeat' split) <;> simp))
def s_X8_timeOf (x : Nat → Nat → Int32) (cN : Nat) : Int32 := (if (x 15 cN) = 3 then 1 else (if (x 15 cN) = 4 then 1 else (if (x 15 cN) = 5 then 1 else 0 : Int32) : Int32) : Int32)
set_option maxRecDepth 100000 in
set_option maxHeartbeats 400000 in
theorem cM_timeOf (l : Launch) (G : GG) (m0 : Nat) (x : Nat → Nat → Int32) (z : Nat → Int64) (hI : MI x) (cN : Nat) (hc : cN < nC x) : MR l G yX8_timeOf cX8_timeOf 2 (some .int) 0 [.ref m0, .int (nI cN)] (MWd G m0 x z) (some (.int (s_X8_timeOf x cN))) := by
  refine MR.of RX8 rfl (by decide) (Nat.le_of_ble_eq_true rfl) ?_
  intro p_ e_ s_ m_ args_ below_ meth_ c_ ls hargs C hr hnm hW hl
  obtain ⟨⟨eP, bP⟩, ⟨eC, bC⟩, ⟨eG, bG⟩, ⟨eV, bV⟩, -, -⟩ := id hI
  have hl : lv_has ls 2 [(0, .ref m0), (1, .int (nI cN))] := hl
  refine lv_aload_n C.hx C.hb dX8_timeOf_0 rfl (lv_at hl 0 rfl) ?_
  refine g_get (k := 15) (v := .ref (am m0 15)) C hW.1 rfl wu_X8 (by decide) wf_X8_50 rfl rfl dX8_timeOf_1 ?_
  refine lv_iload_n C.hx C.hb dX8_timeOf_4 rfl (lv_at hl 1 rfl) ?_
  refine g_iald (f := x 15) (k := cN) C (hW.2.1 15 rfl) rfl (show cN < 400 by omega) (by decide) dX8_timeOf_5 ?_
  refine lv_iconst (v := 3) C.hx C.hb dX8_timeOf_6 (by decide) ?_
  refine W.joinI (P := fun jv => jv = (if (x 15 cN) = 3 then 1 else (if (x 15 cN) = 4 then 1 else (if (x 15 cN) = 5 then 1 else 0 : Int32) : Int32) : Int32)) 35 ls [] (fun J4 => ?_) (fun v5 hv5 => ?_)
  · refine lv_icmp_eq (tgt := 30) C.hx C.hb dX8_timeOf_7 (by decide) (fun c1 => ?_) (fun c1 => ?_)
    · refine lv_iconst (v := 1) C.hx C.hb dX8_timeOf_30 (by decide) ?_
      refine lv_goto (tgt := 35) C.hx C.hb dX8_timeOf_31 (by decide) ?_
      exact J4 _ (by rw [if_pos c1])
    · refine lv_aload_n C.hx C.hb dX8_timeOf_10 rfl (lv_at hl 0 rfl) ?_
      refine g_get (k := 15) (v := .ref (am m0 15)) C hW.1 rfl wu_X8 (by decide) wf_X8_50 rfl rfl dX8_timeOf_11 ?_
      refine lv_iload_n C.hx C.hb dX8_timeOf_14 rfl (lv_at hl 1 rfl) ?_
      refine g_iald (f := x 15) (k := cN) C (hW.2.1 15 rfl) rfl (show cN < 400 by omega) (by decide) dX8_timeOf_15 ?_
      refine lv_iconst (v := 4) C.hx C.hb dX8_timeOf_16 (by decide) ?_
      refine lv_icmp_eq (tgt := 30) C.hx C.hb dX8_timeOf_17 (by decide) (fun c2 => ?_) (fun c2 => ?_)
      · refine lv_iconst (v := 1) C.hx C.hb dX8_timeOf_30 (by decide) ?_
        refine lv_goto (tgt := 35) C.hx C.hb dX8_timeOf_31 (by decide) ?_
        exact J4 _ (by rw [if_neg c1, if_pos c2])
      · refine lv_aload_n C.hx C.hb dX8_timeOf_20 rfl (lv_at hl 0 rfl) ?_
        refine g_get (k := 15) (v := .ref (am m0 15)) C hW.1 rfl wu_X8 (by decide) wf_X8_50 rfl rfl dX8_timeOf_21 ?_
        refine lv_iload_n C.hx C.hb dX8_timeOf_24 rfl (lv_at hl 1 rfl) ?_
        refine g_iald (f := x 15) (k := cN) C (hW.2.1 15 rfl) rfl (show cN < 400 by omega) (by decide) dX8_timeOf_25 ?_
        refine lv_iconst (v := 5) C.hx C.hb dX8_timeOf_26 (by decide) ?_
        refine lv_icmp_ne (tgt := 34) C.hx C.hb dX8_timeOf_27 (by decide) (fun c3 => ?_) (fun c3 => ?_)
        · refine lv_iconst (v := 0) C.hx C.hb dX8_timeOf_34 (by decide) ?_
          exact J4 _ (by rw [if_neg c1, if_neg c2, if_neg c3])
        · refine lv_iconst (v := 1) C.hx C.hb dX8_timeOf_30 (by decide) ?_
          refine lv_goto (tgt := 35) C.hx C.hb dX8_timeOf_31 (by decide) ?_
          exact J4 _ (by rw [if_neg c1, if_neg c2, if_pos c3])
  · exact rI C hr dX8_timeOf_35 (by rw [hv5]; unfold s_X8_timeOf; with_reducible rfl)
theorem timeOf_ix (x : Nat → Nat → Int32) (c : Nat) : s_X8_timeOf x c = nI (tn (s_X8_timeOf x c)) ∧ tn (s_X8_timeOf x c) < 2 := by
  unfold s_X8_timeOf
  (repeat' split) <;> decide
def s_X8_stands (x : Nat → Nat → Int32) (cN : Nat) : Int32 := (if (x 15 cN) = 2 then 1 else (if (x 15 cN) = 5 then 1 else (if (x 15 cN) = 3 then 1 else 0 : Int32) : Int32) : Int32)
set_option maxRecDepth 100000 in
set_option maxHeartbeats 400000 in
theorem cM_stands (l : Launch) (G : GG) (m0 : Nat) (x : Nat → Nat → Int32) (z : Nat → Int64) (hI : MI x) (cN : Nat) (hc : cN < nC x) : MR l G yX8_stands cX8_stands 2 (some .boolean) 0 [.ref m0, .int (nI cN)] (MWd G m0 x z) (some (.int (s_X8_stands x cN))) := by
  refine MR.of RX8 rfl (by decide) (Nat.le_of_ble_eq_true rfl) ?_
  intro p_ e_ s_ m_ args_ below_ meth_ c_ ls hargs C hr hnm hW hl
  obtain ⟨⟨eP, bP⟩, ⟨eC, bC⟩, ⟨eG, bG⟩, ⟨eV, bV⟩, -, -⟩ := id hI
  have hl : lv_has ls 2 [(0, .ref m0), (1, .int (nI cN))] := hl
  refine lv_aload_n C.hx C.hb dX8_stands_0 rfl (lv_at hl 0 rfl) ?_
  refine g_get (k := 15) (v := .ref (am m0 15)) C hW.1 rfl wu_X8 (by decide) wf_X8_50 rfl rfl dX8_stands_1 ?_
  refine lv_iload_n C.hx C.hb dX8_stands_4 rfl (lv_at hl 1 rfl) ?_
  refine g_iald (f := x 15) (k := cN) C (hW.2.1 15 rfl) rfl (show cN < 400 by omega) (by decide) dX8_stands_5 ?_
  refine lv_iconst (v := 2) C.hx C.hb dX8_stands_6 (by decide) ?_
  refine W.joinI (P := fun jv => jv = (if (x 15 cN) = 2 then 1 else (if (x 15 cN) = 5 then 1 else (if (x 15 cN) = 3 then 1 else 0 : Int32) : Int32) : Int32)) 35 ls [] (fun J4 => ?_) (fun v5 hv5 => ?_)
  · refine lv_icmp_eq (tgt := 30) C.hx C.hb dX8_stands_7 (by decide) (fun c1 => ?_) (fun c1 => ?_)
    · refine lv_iconst (v := 1) C.hx C.hb dX8_stands_30 (by decide) ?_
      refine lv_goto (tgt := 35) C.hx C.hb dX8_stands_31 (by decide) ?_
      exact J4 _ (by rw [if_pos c1])
    · refine lv_aload_n C.hx C.hb dX8_stands_10 rfl (lv_at hl 0 rfl) ?_
      refine g_get (k := 15) (v := .ref (am m0 15)) C hW.1 rfl wu_X8 (by decide) wf_X8_50 rfl rfl dX8_stands_11 ?_
      refine lv_iload_n C.hx C.hb dX8_stands_14 rfl (lv_at hl 1 rfl) ?_
      refine g_iald (f := x 15) (k := cN) C (hW.2.1 15 rfl) rfl (show cN < 400 by omega) (by decide) dX8_stands_15 ?_
      refine lv_iconst (v := 5) C.hx C.hb dX8_stands_16 (by decide) ?_
      refine lv_icmp_eq (tgt := 30) C.hx C.hb dX8_stands_17 (by decide) (fun c2 => ?_) (fun c2 => ?_)
      · refine lv_iconst (v := 1) C.hx C.hb dX8_stands_30 (by decide) ?_
        refine lv_goto (tgt := 35) C.hx C.hb dX8_stands_31 (by decide) ?_
        exact J4 _ (by rw [if_neg c1, if_pos c2])
      · refine lv_aload_n C.hx C.hb dX8_stands_20 rfl (lv_at hl 0 rfl) ?_
        refine g_get (k := 15) (v := .ref (am m0 15)) C hW.1 rfl wu_X8 (by decide) wf_X8_50 rfl rfl dX8_stands_21 ?_
        refine lv_iload_n C.hx C.hb dX8_stands_24 rfl (lv_at hl 1 rfl) ?_
        refine g_iald (f := x 15) (k := cN) C (hW.2.1 15 rfl) rfl (show cN < 400 by omega) (by decide) dX8_stands_25 ?_
        refine lv_iconst (v := 3) C.hx C.hb dX8_stands_26 (by decide) ?_
        refine lv_icmp_ne (tgt := 34) C.hx C.hb dX8_stands_27 (by decide) (fun c3 => ?_) (fun c3 => ?_)
        · refine lv_iconst (v := 0) C.hx C.hb dX8_stands_34 (by decide) ?_
          exact J4 _ (by rw [if_neg c1, if_neg c2, if_neg c3])
        · refine lv_iconst (v := 1) C.hx C.hb dX8_stands_30 (by decide) ?_
          refine lv_goto (tgt := 35) C.hx C.hb dX8_stands_31 (by decide) ?_
          exact J4 _ (by rw [if_neg c1, if_neg c2, if_pos c3])
  · exact rZ C hr dX8_stands_35 (by rw [hv5]; unfold s_X8_stands; with_reducible rfl) (nb01 (by rw [hv5]; (repeat' split) <;> simp))
def s_X8_against (x : Nat → Nat → Int32) (vN : Nat) : Int32 := (if (x 22 (tn (x 38 vN))) < 0 then x 23 ((2 * (tn (x 38 vN))) + (tn (x 39 vN))) else x 22 (tn (x 38 vN)) : Int32)
set_option maxRecDepth 100000 in
set_option maxHeartbeats 400000 in
theorem cM_against (l : Launch) (G : GG) (m0 : Nat) (x : Nat → Nat → Int32) (z : Nat → Int64) (hI : MI x) (vN : Nat) (hv : vN < nV x) : MR l G yX8_against cX8_against 3 (some .int) 0 [.ref m0, .int (nI vN)] (MWd G m0 x z) (some (.int (s_X8_against x vN))) := by
  refine MR.of RX8 rfl (by decide) (Nat.le_of_ble_eq_true rfl) ?_
  intro p_ e_ s_ m_ args_ below_ meth_ c_ ls hargs C hr hnm hW hl
  obtain ⟨⟨eP, bP⟩, ⟨eC, bC⟩, ⟨eG, bG⟩, ⟨eV, bV⟩, -, -⟩ := id hI
  have hl : lv_has ls 3 [(0, .ref m0), (1, .int (nI vN))] := hl
  refine lv_aload_n C.hx C.hb dX8_against_0 rfl (lv_at hl 0 rfl) ?_
  refine g_get (k := 38) (v := .ref (am m0 38)) C hW.1 rfl wu_X8 (by decide) wf_X8_112 rfl rfl dX8_against_1 ?_
  refine lv_iload_n C.hx C.hb dX8_against_4 rfl (lv_at hl 1 rfl) ?_
  refine g_iald (f := x 38) (k := vN) C (hW.2.1 38 rfl) rfl (show vN < 8000 by omega) (by decide) dX8_against_5 ?_
  have f1 := MI.vc hI (show vN < nV x by omega)
  have f1b : tn (x 38 vN) < nC x := f1.2
  refine lv_istore_n (lv' := [(2, .int (x 38 vN)), (0, .ref m0), (1, .int (nI vN))]) C.hx C.hb dX8_against_6 rfl hl (by decide) rfl (fun ls hl => ?_)
  refine lv_aload_n C.hx C.hb dX8_against_7 rfl (lv_at hl 1 rfl) ?_
  refine g_get (k := 22) (v := .ref (am m0 22)) C hW.1 rfl wu_X8 (by decide) wf_X8_71 rfl rfl dX8_against_8 ?_
  refine lv_iload_n C.hx C.hb dX8_against_11 rfl (lv_at hl 0 rfl) ?_
  refine g_iald (f := x 22) (k := (tn (x 38 vN))) C (hW.2.1 22 rfl) f1.1 (show (tn (x 38 vN)) < 400 by omega) (by decide) dX8_against_12 ?_
  refine W.joinI (P := fun jv => jv = (if (x 22 (tn (x 38 vN))) < 0 then x 23 ((2 * (tn (x 38 vN))) + (tn (x 39 vN))) else x 22 (tn (x 38 vN)) : Int32)) 40 ls [] (fun J4 => ?_) (fun v5 hv5 => ?_)
  · refine lv_if_lt (tgt := 25) C.hx C.hb dX8_against_13 (by decide) (fun c2 => ?_) (fun c2 => ?_)
    · refine lv_aload_n C.hx C.hb dX8_against_25 rfl (lv_at hl 1 rfl) ?_
      refine g_get (k := 23) (v := .ref (am m0 23)) C hW.1 rfl wu_X8 (by decide) wf_X8_74 rfl rfl dX8_against_26 ?_
      refine lv_iconst (v := 2) C.hx C.hb dX8_against_29 (by decide) ?_
      refine lv_iload_n C.hx C.hb dX8_against_30 rfl (lv_at hl 0 rfl) ?_
      refine lv_imul C.hx C.hb dX8_against_31 ?_
      refine lv_aload_n C.hx C.hb dX8_against_32 rfl (lv_at hl 1 rfl) ?_
      refine g_get (k := 39) (v := .ref (am m0 39)) C hW.1 rfl wu_X8 (by decide) wf_X8_115 rfl rfl dX8_against_33 ?_
      refine lv_iload_n C.hx C.hb dX8_against_36 rfl (lv_at hl 2 rfl) ?_
      refine g_iald (f := x 39) (k := vN) C (hW.2.1 39 rfl) rfl (show vN < 8000 by omega) (by decide) dX8_against_37 ?_
      have f3 := MI.vt hI (show vN < nV x by omega)
      have f3b : tn (x 39 vN) < 2 := f3.2
      refine lv_iadd C.hx C.hb dX8_against_38 ?_
      refine g_iald (f := x 23) (k := ((2 * (tn (x 38 vN))) + (tn (x 39 vN)))) C (hW.2.1 23 rfl) (nI_addE (nI_mulE (by decide) f1.1) f3.1) (show ((2 * (tn (x 38 vN))) + (tn (x 39 vN))) < 800 by omega) (by decide) dX8_against_39 ?_
      exact J4 _ (by rw [if_pos c2])
    · refine lv_aload_n C.hx C.hb dX8_against_16 rfl (lv_at hl 1 rfl) ?_
      refine g_get (k := 22) (v := .ref (am m0 22)) C hW.1 rfl wu_X8 (by decide) wf_X8_71 rfl rfl dX8_against_17 ?_
      refine lv_iload_n C.hx C.hb dX8_against_20 rfl (lv_at hl 0 rfl) ?_
      refine g_iald (f := x 22) (k := (tn (x 38 vN))) C (hW.2.1 22 rfl) f1.1 (show (tn (x 38 vN)) < 400 by omega) (by decide) dX8_against_21 ?_
      refine lv_goto (tgt := 40) C.hx C.hb dX8_against_22 (by decide) ?_
      exact J4 _ (by rw [if_neg c2])
  · exact rI C hr dX8_against_40 (by rw [hv5]; unfold s_X8_against; with_reducible rfl)
def s_X8_lateBy (x : Nat → Nat → Int32) (cN : Nat) : Int32 := (if (s_X8_isAsking x cN) = 0 then 0 else (if (((x 0 0) - (x 18 cN)) - (x 4 (tn (x 17 cN)))) ≤ 0 then 0 else ((x 0 0) - (x 18 cN)) - (x 4 (tn (x 17 cN))) : Int32) : Int32)
set_option maxRecDepth 100000 in
set_option maxHeartbeats 400000 in
theorem cM_lateBy (l : Launch) (G : GG) (m0 : Nat) (x : Nat → Nat → Int32) (z : Nat → Int64) (hI : MI x) (cN : Nat) (hc : cN < nC x) : MR l G yX8_lateBy cX8_lateBy 3 (some .int) 1 [.ref m0, .int (nI cN)] (MWd G m0 x z) (some (.int (s_X8_lateBy x cN))) := by
  refine MR.of RX8 rfl (by decide) (Nat.le_of_ble_eq_true rfl) ?_
  intro p_ e_ s_ m_ args_ below_ meth_ c_ ls hargs C hr hnm hW hl
  obtain ⟨⟨eP, bP⟩, ⟨eC, bC⟩, ⟨eG, bG⟩, ⟨eV, bV⟩, -, -⟩ := id hI
  have hl : lv_has ls 3 [(0, .ref m0), (1, .int (nI cN))] := hl
  refine lv_aload_n C.hx C.hb dX8_lateBy_0 rfl (lv_at hl 0 rfl) ?_
  refine g_get (k := 0) (v := .int (x 0 0)) C hW.1 rfl wu_X8 (by decide) wf_X8_140 rfl rfl dX8_lateBy_1 ?_
  refine lv_aload_n C.hx C.hb dX8_lateBy_4 rfl (lv_at hl 0 rfl) ?_
  refine g_get (k := 18) (v := .ref (am m0 18)) C hW.1 rfl wu_X8 (by decide) wf_X8_59 rfl rfl dX8_lateBy_5 ?_
  refine lv_iload_n C.hx C.hb dX8_lateBy_8 rfl (lv_at hl 1 rfl) ?_
  refine g_iald (f := x 18) (k := cN) C (hW.2.1 18 rfl) rfl (show cN < 400 by omega) (by decide) dX8_lateBy_9 ?_
  refine lv_isub C.hx C.hb dX8_lateBy_10 ?_
  refine lv_aload_n C.hx C.hb dX8_lateBy_11 rfl (lv_at hl 0 rfl) ?_
  refine g_get (k := 4) (v := .ref (am m0 4)) C hW.1 rfl wu_X8 (by decide) wf_X8_19 rfl rfl dX8_lateBy_12 ?_
  refine lv_aload_n C.hx C.hb dX8_lateBy_15 rfl (lv_at hl 0 rfl) ?_
  refine g_get (k := 17) (v := .ref (am m0 17)) C hW.1 rfl wu_X8 (by decide) wf_X8_56 rfl rfl dX8_lateBy_16 ?_
  refine lv_iload_n C.hx C.hb dX8_lateBy_19 rfl (lv_at hl 1 rfl) ?_
  refine g_iald (f := x 17) (k := cN) C (hW.2.1 17 rfl) rfl (show cN < 400 by omega) (by decide) dX8_lateBy_20 ?_
  have f1 := MI.cg hI (show cN < nC x by omega)
  have f1b : tn (x 17 cN) < 3 := f1.2
  refine g_iald (f := x 4) (k := (tn (x 17 cN))) C (hW.2.1 4 rfl) f1.1 (show (tn (x 17 cN)) < 3 by omega) (by decide) dX8_lateBy_21 ?_
  refine lv_isub C.hx C.hb dX8_lateBy_22 ?_
  refine lv_istore_n (lv' := [(2, .int (((x 0 0) - (x 18 cN)) - (x 4 (tn (x 17 cN))))), (0, .ref m0), (1, .int (nI cN))]) C.hx C.hb dX8_lateBy_23 rfl hl (by decide) rfl (fun ls hl => ?_)
  refine lv_aload_n C.hx C.hb dX8_lateBy_24 rfl (lv_at hl 1 rfl) ?_
  refine lv_iload_n C.hx C.hb dX8_lateBy_25 rfl (lv_at hl 2 rfl) ?_
  refine kVR (As := [.int (nI cN)]) (rest := []) (v := .int (s_X8_isAsking x cN)) C (cM_isAsking l G m0 x z hI cN (show cN < nC x by omega)) lk_X8_167 (g_recv C hW.1 rfl) hW rfl rfl hl (Nat.le_of_ble_eq_true rfl) dX8_lateBy_26 ⟨⟨by decide, by decide⟩, by decide, by decide⟩ ?_
  refine W.joinI (P := fun jv => jv = (if (s_X8_isAsking x cN) = 0 then 0 else (if (((x 0 0) - (x 18 cN)) - (x 4 (tn (x 17 cN)))) ≤ 0 then 0 else ((x 0 0) - (x 18 cN)) - (x 4 (tn (x 17 cN))) : Int32) : Int32)) 41 ls [] (fun J4 => ?_) (fun v5 hv5 => ?_)
  · refine lv_if_eq (tgt := 40) C.hx C.hb dX8_lateBy_29 (by decide) (fun c2 => ?_) (fun c2 => ?_)
    · refine lv_iconst (v := 0) C.hx C.hb dX8_lateBy_40 (by decide) ?_
      exact J4 _ (by rw [if_pos c2])
    · refine lv_iload_n C.hx C.hb dX8_lateBy_32 rfl (lv_at hl 0 rfl) ?_
      refine lv_if_le (tgt := 40) C.hx C.hb dX8_lateBy_33 (by decide) (fun c3 => ?_) (fun c3 => ?_)
      · refine lv_iconst (v := 0) C.hx C.hb dX8_lateBy_40 (by decide) ?_
        exact J4 _ (by rw [if_neg c2, if_pos c3])
      · refine lv_iload_n C.hx C.hb dX8_lateBy_36 rfl (lv_at hl 0 rfl) ?_
        refine lv_goto (tgt := 41) C.hx C.hb dX8_lateBy_37 (by decide) ?_
        exact J4 _ (by rw [if_neg c2, if_neg c3])
  · exact rI C hr dX8_lateBy_41 (by rw [hv5]; unfold s_X8_lateBy; with_reducible rfl)
