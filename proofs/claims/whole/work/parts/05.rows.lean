section RW
variable {p : Program} {l : Launch} {e : Env} {R : Room} {s : State} {m : MethodId} {args : Array Value} {below : List Frame} {meth : Method} {c : Code} {H : Heap} {locs : List Loc} {cells slots : Nat} {Q : State → Prop}
variable {G : GG} {own : String} {cc : ByteArray} {nL : Nat} {pc : Nat} {ls : Array Slot} {rest : List Value} {A : Nat → Prop} {H0 : Heap}
theorem ix_in {i : Int32} {k n : Nat} (hi : i = nI k) (hk : k < n) (hn : n < 2 ^ 31) : vp_in i n ∧ i.toNatClampNeg = k := by
  subst hi
  exact ⟨vp_in_nI hk hn, nI_clamp (by omega)⟩
theorem g_iald {a n k : Nat} {f : Nat → Int32} {i : Int32} (C : CX G p s m args meth c own cc nL) (h : va_at G.1 vwCl (a, .inl (G.2 0, n, .inl f)) H) (hi : i = nI k) (hk : k < n) (hn : n < 2 ^ 31) (hdg : decode cc pc = .ok (.iaload, 1))
    (kk : W p l e R s m args below meth c H locs cells slots Q (F0 m (pc + 1) ls (.int (f k) :: rest))) : W p l e R s m args below meth c H locs cells slots Q (F0 m pc ls (.int i :: .ref a :: rest)) := by
  obtain ⟨h1, h2⟩ := ix_in hi hk hn
  refine va_iald C.hx C.hb C.hK.1 (va_one h) 0 0 rfl rfl h1 hdg ?_
  rw [h2]
  exact kk
theorem g_zald {a n k : Nat} {f : Nat → Int32} {i : Int32} (C : CX G p s m args meth c own cc nL) (h : va_at G.1 vwCl (a, .inl (G.2 2, n, .inl f)) H) (hi : i = nI k) (hk : k < n) (hn : n < 2 ^ 31) (hdg : decode cc pc = .ok (.baload, 1))
    (kk : W p l e R s m args below meth c H locs cells slots Q (F0 m (pc + 1) ls (.int (f k) :: rest))) : W p l e R s m args below meth c H locs cells slots Q (F0 m pc ls (.int i :: .ref a :: rest)) := by
  obtain ⟨h1, h2⟩ := ix_in hi hk hn
  refine va_zald C.hx C.hb C.hK.1 (va_one h) 0 2 rfl rfl h1 hdg ?_
  rw [h2]
  exact kk
theorem g_lald {a n k : Nat} {f : Nat → Int64} {i : Int32} (C : CX G p s m args meth c own cc nL) (h : va_at G.1 vwCl (a, .inl (G.2 1, n, .inr (.inl f))) H) (hi : i = nI k) (hk : k < n) (hn : n < 2 ^ 31) (hdg : decode cc pc = .ok (.laload, 1))
    (kk : W p l e R s m args below meth c H locs cells slots Q (F0 m (pc + 1) ls (.long (f k) :: rest))) : W p l e R s m args below meth c H locs cells slots Q (F0 m pc ls (.int i :: .ref a :: rest)) := by
  obtain ⟨h1, h2⟩ := ix_in hi hk hn
  refine va_lald C.hx C.hb C.hK.1 (va_one h) 0 1 rfl rfl h1 hdg ?_
  rw [h2]
  exact kk
theorem g_alen {a t : Nat} {y : vp_A} {cA : ClassId} {ty : FieldType} (C : CX G p s m args meth c own cc nL) (h : va_at G.1 vwCl (a, .inl (cA, y)) H) (t0 : Nat) (ht : (tysG G)[t0]? = some (cA, ty)) (hdg : decode cc pc = .ok (.arraylength, 1))
    (kk : W p l e R s m args below meth c H locs cells slots Q (F0 m (pc + 1) ls (.int (nI y.1) :: rest))) : W p l e R s m args below meth c H locs cells slots Q (F0 m pc ls (.ref a :: rest)) :=
  va_alen C.hx C.hb C.hK.1 (va_one h) 0 t0 rfl ht rfl hdg kk
theorem g_iast {a n k : Nat} {f : Nat → Int32} {i x : Int32} (C : CX G p s m args meth c own cc nL) (hS : va_S A H0 H locs) (h : va_at G.1 vwCl (a, .inl (G.2 0, n, .inl f)) H) (ha : A a) (hi : i = nI k) (hk : k < n) (hn : n < 2 ^ 31) (hdg : decode cc pc = .ok (.iastore, 1))
    (kk : ∀ (H1 : Heap) (locs1 : List Loc), va_at G.1 vwCl (a, .inl (G.2 0, n, .inl (upd f k x))) H1 → (∀ q, q ≠ a → H1[q]? = H[q]?) → H1.size = H.size → va_S A H0 H1 locs1 → W p l e R s m args below meth c H1 locs1 cells slots Q (F0 m (pc + 1) ls rest)) : W p l e R s m args below meth c H locs cells slots Q (F0 m pc ls (.int x :: .int i :: .ref a :: rest)) := by
  obtain ⟨h1, h2⟩ := ix_in hi hk hn
  have hcell : H[a]? = some (vp_cell (G.2 0) (n, .inl f)) := h
  refine W.iast C.hx C.hb hcell ((C.hK.1.2 0 _ rfl).1 n (fun j => .int (f j))) (fun q => by cases q) (by show ¬ (i < 0 ∨ (arrV _ _ _).slots.size ≤ _); rw [arrV_size]; exact h1) rfl rfl hdg fun H1 e1 z1 o1 => ?_
  refine kk H1 _ ?_ o1 z1 (hS.put z1 o1 ha)
  show H1[a]? = some (vp_cell _ _)
  rw [e1, vp_cell_i, vp_cell_i, arrV_store, h2]
  congr 2
  funext q
  by_cases hq : q = k
  · subst hq
    simp [updV, upd]
  · simp [updV, upd, hq]
theorem g_zast {a n k : Nat} {f : Nat → Int32} {i x : Int32} (C : CX G p s m args meth c own cc nL) (hS : va_S A H0 H locs) (h : va_at G.1 vwCl (a, .inl (G.2 2, n, .inl f)) H) (ha : A a) (hi : i = nI k) (hk : k < n) (hn : n < 2 ^ 31) (hx1 : vp_nar .boolean x = x) (hdg : decode cc pc = .ok (.bastore, 1))
    (kk : ∀ (H1 : Heap) (locs1 : List Loc), va_at G.1 vwCl (a, .inl (G.2 2, n, .inl (upd f k x))) H1 → (∀ q, q ≠ a → H1[q]? = H[q]?) → H1.size = H.size → va_S A H0 H1 locs1 → W p l e R s m args below meth c H1 locs1 cells slots Q (F0 m (pc + 1) ls rest)) : W p l e R s m args below meth c H locs cells slots Q (F0 m pc ls (.int x :: .int i :: .ref a :: rest)) := by
  obtain ⟨h1, h2⟩ := ix_in hi hk hn
  have hcell : H[a]? = some (vp_cell (G.2 2) (n, .inl f)) := h
  refine W.zast C.hx C.hb hcell ((C.hK.1.2 2 _ rfl).1 n (fun j => .int (f j))) (fun q => by cases q) (by show ¬ (i < 0 ∨ (arrV _ _ _).slots.size ≤ _); rw [arrV_size]; exact h1) rfl rfl hdg fun H1 e1 z1 o1 => ?_
  refine kk H1 _ ?_ o1 z1 (hS.put z1 o1 ha)
  show H1[a]? = some (vp_cell _ _)
  rw [e1, vp_cell_i, vp_cell_i, arrV_store, h2]
  have hnar : narrow .boolean (.int x) = .int x := by
    have h9 := hx1
    simp only [vp_nar, narrow] at h9 ⊢
    rw [h9]
  congr 2
  funext q
  by_cases hq : q = k
  · subst hq
    simp [updV, upd, hnar]
  · simp [updV, upd, hq]
theorem g_last {a n k : Nat} {f : Nat → Int64} {i : Int32} {x : Int64} (C : CX G p s m args meth c own cc nL) (hS : va_S A H0 H locs) (h : va_at G.1 vwCl (a, .inl (G.2 1, n, .inr (.inl f))) H) (ha : A a) (hi : i = nI k) (hk : k < n) (hn : n < 2 ^ 31) (hdg : decode cc pc = .ok (.lastore, 1))
    (kk : ∀ (H1 : Heap) (locs1 : List Loc), va_at G.1 vwCl (a, .inl (G.2 1, n, .inr (.inl (vp_updL f k x)))) H1 → (∀ q, q ≠ a → H1[q]? = H[q]?) → H1.size = H.size → va_S A H0 H1 locs1 → W p l e R s m args below meth c H1 locs1 cells slots Q (F0 m (pc + 1) ls rest)) : W p l e R s m args below meth c H locs cells slots Q (F0 m pc ls (.long x :: .int i :: .ref a :: rest)) := by
  obtain ⟨h1, h2⟩ := ix_in hi hk hn
  have hcell : H[a]? = some (vp_cell (G.2 1) (n, .inr (.inl f))) := h
  refine W.last C.hx C.hb hcell ((C.hK.1.2 1 _ rfl).1 n (fun j => .long (f j))) (fun q => by cases q) (by show ¬ (i < 0 ∨ (arrV _ _ _).slots.size ≤ _); rw [arrV_size]; exact h1) rfl rfl hdg fun H1 e1 z1 o1 => ?_
  refine kk H1 _ ?_ o1 z1 (hS.put z1 o1 ha)
  show H1[a]? = some (vp_cell _ _)
  rw [e1, vp_cell_l, vp_cell_l, arrV_store, h2]
  congr 2
  funext q
  by_cases hq : q = k
  · subst hq
    simp [updV, vp_updL]
  · simp [updV, vp_updL, hq]
theorem g_newa {atype : ArrayType} {ty : FieldType} {t0 N : Nat} {cA : ClassId} {n : Int32} {a0 : vp_A} (C : CX G p s m args meth c own cc nL) (hS : va_S A H0 H locs) (hty : newarray.typeOf atype = ty) (hw : Cond.arrayClass ty ∈ gtbl) (ht : (tysG G)[t0]? = some (cA, ty)) (hra : va_RA s cA ty → s.vm.findClass ("[" ++ ty.toString) = some cA) (hn : n = nI N) (hN : N < 2 ^ 31) (h0 : vp_cell cA a0 = arrV cA N (fun _ => defaultValue ty)) (hby : N * componentBytes ty ≤ 536870912) (hc1 : cells + 1 ≤ R.cells) (hs1 : slots + N ≤ R.slots) (hdg : decode cc pc = .ok (.newarray atype, 2))
    (kk : ∀ H1 : Heap, va_at G.1 vwCl (H.size, .inl (cA, a0)) H1 → (∀ q, q < H.size → H1[q]? = H[q]?) → H1.size = H.size + 1 → va_S A H0 H1 locs → W p l e R s m args below meth c H1 locs (cells + 1) (slots + N) Q (F0 m (pc + 2) ls (.ref H.size :: rest))) : W p l e R s m args below meth c H locs cells slots Q (F0 m pc ls (.int n :: rest)) := by
  subst hty; subst hn
  refine va_newaK C.hx C.hb (C.hT _ hw) rfl hdg rfl (nI_pos hN) (nI_clamp hN) hby hc1 hs1 rfl fun H1 cB e1 z1 o1 hAr hNm => ?_
  have h9 := hra (C.hK.1.2 t0 _ ht).2
  have hcc : cB = cA := Option.some.inj (hNm.symm.trans h9)
  subst hcc
  refine kk H1 ?_ o1 z1 ⟨Nat.le_trans hS.1 (by omega), fun x h1 h2 => (o1 x (Nat.lt_of_lt_of_le h1 hS.1)).trans (hS.2.1 x h1 h2), hS.2.2⟩
  show H1[H.size]? = some (vp_cell _ _)
  rw [h0]
  exact e1
theorem g_new {ci index N : Nat} {Cn : String} {T : u_T} {fs : List Value} (ty0 : Nat → FieldType) (C : CX G p s m args meth c own cc nL) (hS : va_S A H0 H locs) (hc : vwCl[ci]? = some (Cn, T, N)) (hu : ∀ w ∈ u_ws Cn T N, w ∈ gtbl) (hty : ∀ k, k < N → parseFieldDescriptor (T k).2.2.1 = some (ty0 k)) (hl : Cond.classLink own index Cn ∈ gtbl) (hi : Cond.instantiable Cn N ∈ gtbl) (hz : Cond.initialized Cn ∈ gtbl) (hfs : ∀ j, j < N → defaultValue (ty0 j) = vp_V fs j) (hc1 : cells + 1 ≤ R.cells) (hs1 : slots + N ≤ R.slots) (hdg : decode cc pc = .ok (.new index, 3))
    (kk : ∀ H1 : Heap, va_at G.1 vwCl (H.size, .inr (ci, fs)) H1 → (∀ q, q < H.size → H1[q]? = H[q]?) → H1.size = H.size + 1 → va_S A H0 H1 locs → W p l e R s m args below meth c H1 locs (cells + 1) (slots + N) Q (F0 m (pc + 3) ls (.ref H.size :: rest))) : W p l e R s m args below meth c H locs cells slots Q (F0 m pc ls rest) := by
  have hKn := C.hK.1.1 ci _ hc
  refine W.newcK C.hx C.hb C.hown (C.hT _ hl) (C.hT _ hi) (C.hT _ hz) rfl hdg hc1 hs1 hKn.2.1 rfl fun H1 kC hkC e1 z1 o1 => ?_
  exact kk H1 ⟨_, hc, (u_born ty0 C.hT hu hKn hkC e1 hty).to hfs⟩ o1 z1 ⟨Nat.le_trans hS.1 (by omega), fun x h1 h2 => (o1 x (Nat.lt_of_lt_of_le h1 hS.1)).trans (hS.2.1 x h1 h2), hS.2.2⟩
-- calls
theorem g_callR {V : Option Value} {a : Array Value} {st0 : List Value} (hr : va_Run p l e R s m args below meth c H locs cells slots 0 0 (F0 m pc ls st0) rest (Rd V a) (fun _ => False))
    (kk : W p l e R s m args below meth c H locs cells slots Q (F0 m (pc + 3) ls (V.toList ++ rest))) : W p l e R s m args below meth c H locs cells slots Q (F0 m pc ls st0) := by
  intro T hT X
  obtain ⟨v, st₀, t, T', L, h0, X', hL, e1, e2, ⟨hv, hh⟩, st⟩ := hr T hT X
  cases hv
  obtain ⟨t2, a1, b1⟩ := kk T' (by rw [e1, hh, h0]) (Stand.forget X' (fun q h => (hL q h).elim))
  exact ⟨t2, st t2 a1, b1⟩
theorem g_callW {V : Option Value} {P' : Heap → Prop} {a : Array Value} {st0 : List Value} {A1 : Nat → Prop} {mc ms : Nat} (hr : va_Run p l e R s m args below meth c H locs cells slots mc ms (F0 m pc ls st0) rest (Wr V P' A1 a) A1) (hS : va_S A H0 H locs) (hA : ∀ q, A1 q → A q)
    (kk : ∀ (H1 : Heap) (locs1 : List Loc), P' H1 → H.size ≤ H1.size → (∀ q : Nat, q < H.size → ¬ A1 q → H1[q]? = H[q]?) → va_S A H0 H1 locs1 → W p l e R s m args below meth c H1 locs1 (cells + mc) (slots + ms) Q (F0 m (pc + 3) ls (V.toList ++ rest))) : W p l e R s m args below meth c H locs cells slots Q (F0 m pc ls st0) := by
  intro T hT X
  obtain ⟨v, st₀, t, T', L, h0, X', hL, e1, e2, ⟨hv, hP, hz, hk⟩, st⟩ := hr T hT X
  cases hv
  rw [h0] at hz hk
  obtain ⟨t2, a1, b1⟩ := kk T'.heap (locs ++ L) (by rw [e1]; exact hP) (by rw [e1]; exact hz) (fun q h1 h2 => by rw [e1]; exact hk q h1 h2)
    ⟨Nat.le_trans hS.1 (by rw [e1]; exact hz), fun q h1 h2 => by rw [e1, hk q (Nat.lt_of_lt_of_le h1 hS.1) (fun z => h2 (hA q z))]; exact hS.2.1 q h1 h2, fun q hq => by
      rcases List.mem_append.mp hq with h | h
      · exact hS.2.2 q h
      · exact hA _ (hL q h)⟩ T' rfl X'
  exact ⟨t2, st t2 a1, b1⟩
variable {lvs : List (Nat × Value)} {y : MethodName} {bytes : ByteArray} {n np k idx : Nat} {ret : Option FieldType} {As : List Value} {b : Nat} {P P' : Heap → Prop} {V : Option Value} {host : String} {mc ms : Nat} {A1 : Nat → Prop} {st : List Value}
theorem LkB.good (lb : LkB y bytes n ret np) : GoodIn gtbl (wd y bytes n ret) := gt_sub (fun w h => by
  rcases List.mem_cons.mp h with h | h
  · rw [h]; exact lb.1
  · exact h)
theorem LkB.B (C : CX G p s m args meth c own cc nL) (lb : LkB y bytes n ret np) (hl : Cond.methodLink own idx y ∈ gtbl) (hR : k + 1 ≤ R.frames ∧ 8 + (n + 11) + 40 * k ≤ R.locals) : CallB R s args own idx y bytes n ret (wd y bytes n ret) (rmk k mc ms) mc ms np :=
  callB_of np C.hT lb.good rfl rfl rfl (C.hT _ lb.2.1) (C.hT _ hl) lb.2.2 hR
theorem LkB.N (C : CX G p s m args meth c own cc nL) (lb : LkB y bytes n ret np) (hl : Cond.methodLinkNest own idx y host ∈ lw_tbl) (hR : k + 1 ≤ R.frames ∧ 8 + (n + 11) + 40 * k ≤ R.locals) : va_CN R s args own idx y host bytes n ret (wd y bytes n ret) (rmk k mc ms) mc ms np :=
  va_cnB np C.hT lb.good rfl rfl rfl (C.hK.2.1 _ hl rfl) (C.hT _ lb.2.1) lb.2.2 hR
theorem Pk.preS (C : CX G p s m args meth c own cc nL) (hP : P H) : PreS s H (Pk G As P) As := ⟨Pk.blind, fun U hU hW => ⟨rfl, by rw [hU]; exact hP, C.hK.warm hW⟩⟩
theorem Pk.preV (C : CX G p s m args meth c own cc nL) {Cr : String} (hrec : ∃ cell : Cell, H[b]? = some cell ∧ cell.vm.isStatics = false ∧ s.vm.findClass Cr = some cell.cls) (hP : P H) : PreV s H Cr b (Pk G (.ref b :: As) P) As := ⟨Pk.blind, hrec, fun U hU hW => ⟨rfl, by rw [hU]; exact hP, C.hK.warm hW⟩⟩
theorem g_recv {ci : Nat} {fs : List Value} {q : vw_C} (C : CX G p s m args meth c own cc nL) (h : va_at G.1 vwCl (b, .inr (ci, fs)) H) (hc : vwCl[ci]? = some q) : ∃ cell : Cell, H[b]? = some cell ∧ cell.vm.isStatics = false ∧ s.vm.findClass q.1 = some cell.cls := va_recv C.hK.1 (va_one h) (q0 := 0) hc rfl
theorem kVR {v : Value} (C : CX G p s m args meth c own cc nL) (hM : MR l G y bytes n ret k (.ref b :: As) P (some v)) (lk : LkV own idx y bytes n ret np) (hrec : ∃ cell : Cell, H[b]? = some cell ∧ cell.vm.isStatics = false ∧ s.vm.findClass y.cls = some cell.cls) (hP : P H) (hst : st = As.reverse ++ .ref b :: rest) (hn : As.length = np) (hsz : lv_has ls nL lvs) (hcat : (rest.map fun v => v.category).sum ≤ 8) (hdg : decode cc pc = .ok (.invokevirtual idx, 3)) (hR : (k + 1 ≤ R.frames ∧ 8 + (n + 11) + 40 * k ≤ R.locals) ∧ cells ≤ R.cells ∧ slots ≤ R.slots)
    (kk : W p l e R s m args below meth c H locs cells slots Q (F0 m (pc + 3) ls (v :: rest))) : W p l e R s m args below meth c H locs cells slots Q (F0 m pc ls st) :=
  g_callR (va_runV (As := As) (rest := rest) C.1 hM ⟨LkB.B C lk.1 lk.2.1 hR.1, C.hT _ lk.2.2.1, C.hT _ lk.2.2.2⟩ (Pk.preV C hrec hP) rfl hn hsz.1 hst (lv_room hcat) hdg hR.2) kk
theorem kSR {v : Value} (C : CX G p s m args meth c own cc nL) (hM : MR l G y bytes n ret k As P (some v)) (lk : LkS own idx y bytes n ret np) (hP : P H) (hst : st = As.reverse ++ rest) (hn : As.length = np) (hsz : lv_has ls nL lvs) (hcat : (rest.map fun v => v.category).sum ≤ 8) (hdg : decode cc pc = .ok (.invokestatic idx, 3)) (hR : (k + 1 ≤ R.frames ∧ 8 + (n + 11) + 40 * k ≤ R.locals) ∧ cells ≤ R.cells ∧ slots ≤ R.slots)
    (kk : W p l e R s m args below meth c H locs cells slots Q (F0 m (pc + 3) ls (v :: rest))) : W p l e R s m args below meth c H locs cells slots Q (F0 m pc ls st) :=
  g_callR (va_runS (As := As) (rest := rest) C.1 hM ⟨LkB.B C lk.1 lk.2.1 hR.1, C.hT _ lk.2.2⟩ (Pk.preS C hP) rfl hn hsz.1 hst (lv_room hcat) hdg hR.2) kk
theorem kVNR {v : Value} (C : CX G p s m args meth c own cc nL) (hM : MR l G y bytes n ret k (.ref b :: As) P (some v)) (lk : LkVN own idx y host bytes n ret np) (hrec : ∃ cell : Cell, H[b]? = some cell ∧ cell.vm.isStatics = false ∧ s.vm.findClass y.cls = some cell.cls) (hP : P H) (hst : st = As.reverse ++ .ref b :: rest) (hn : As.length = np) (hsz : lv_has ls nL lvs) (hcat : (rest.map fun v => v.category).sum ≤ 8) (hdg : decode cc pc = .ok (.invokevirtual idx, 3)) (hR : (k + 1 ≤ R.frames ∧ 8 + (n + 11) + 40 * k ≤ R.locals) ∧ cells ≤ R.cells ∧ slots ≤ R.slots)
    (kk : W p l e R s m args below meth c H locs cells slots Q (F0 m (pc + 3) ls (v :: rest))) : W p l e R s m args below meth c H locs cells slots Q (F0 m pc ls st) :=
  g_callR (va_runVN (As := As) (rest := rest) C.1 hM ⟨LkB.N C lk.1 lk.2.1 hR.1, C.hT _ lk.2.2.1, C.hT _ lk.2.2.2⟩ (Pk.preV C hrec hP) rfl hn hsz.1 hst (lv_room hcat) hdg hR.2) kk
theorem kSNR {v : Value} (C : CX G p s m args meth c own cc nL) (hM : MR l G y bytes n ret k As P (some v)) (lk : LkSN own idx y host bytes n ret np) (hP : P H) (hst : st = As.reverse ++ rest) (hn : As.length = np) (hsz : lv_has ls nL lvs) (hcat : (rest.map fun v => v.category).sum ≤ 8) (hdg : decode cc pc = .ok (.invokestatic idx, 3)) (hR : (k + 1 ≤ R.frames ∧ 8 + (n + 11) + 40 * k ≤ R.locals) ∧ cells ≤ R.cells ∧ slots ≤ R.slots)
    (kk : W p l e R s m args below meth c H locs cells slots Q (F0 m (pc + 3) ls (v :: rest))) : W p l e R s m args below meth c H locs cells slots Q (F0 m pc ls st) :=
  g_callR (va_runSN (As := As) (rest := rest) C.1 hM ⟨LkB.N C lk.1 lk.2.1 hR.1, C.hT _ lk.2.2, trivial⟩ (Pk.preS C hP) rfl hn hsz.1 hst (lv_room hcat) hdg hR.2) kk
theorem kVW {v : Value} (C : CX G p s m args meth c own cc nL) (hM : MW l G y bytes n ret k (.ref b :: As) P (some v) P' A1 mc ms) (lk : LkV own idx y bytes n ret np) (hrec : ∃ cell : Cell, H[b]? = some cell ∧ cell.vm.isStatics = false ∧ s.vm.findClass y.cls = some cell.cls) (hP : P H) (hst : st = As.reverse ++ .ref b :: rest) (hn : As.length = np) (hsz : lv_has ls nL lvs) (hcat : (rest.map fun v => v.category).sum ≤ 8) (hdg : decode cc pc = .ok (.invokevirtual idx, 3)) (hR : (k + 1 ≤ R.frames ∧ 8 + (n + 11) + 40 * k ≤ R.locals) ∧ cells + mc ≤ R.cells ∧ slots + ms ≤ R.slots) (hS : va_S A H0 H locs) (hA : ∀ q, A1 q → A q)
    (kk : ∀ (H1 : Heap) (locs1 : List Loc), P' H1 → H.size ≤ H1.size → (∀ q : Nat, q < H.size → ¬ A1 q → H1[q]? = H[q]?) → va_S A H0 H1 locs1 → W p l e R s m args below meth c H1 locs1 (cells + mc) (slots + ms) Q (F0 m (pc + 3) ls (v :: rest))) : W p l e R s m args below meth c H locs cells slots Q (F0 m pc ls st) :=
  g_callW (va_runV (As := As) (rest := rest) C.1 hM ⟨LkB.B C lk.1 lk.2.1 hR.1, C.hT _ lk.2.2.1, C.hT _ lk.2.2.2⟩ (Pk.preV C hrec hP) rfl hn hsz.1 hst (lv_room hcat) hdg hR.2) hS hA kk
theorem kVWn (C : CX G p s m args meth c own cc nL) (hM : MW l G y bytes n ret k (.ref b :: As) P none P' A1 mc ms) (lk : LkV own idx y bytes n ret np) (hrec : ∃ cell : Cell, H[b]? = some cell ∧ cell.vm.isStatics = false ∧ s.vm.findClass y.cls = some cell.cls) (hP : P H) (hst : st = As.reverse ++ .ref b :: rest) (hn : As.length = np) (hsz : lv_has ls nL lvs) (hcat : (rest.map fun v => v.category).sum ≤ 8) (hdg : decode cc pc = .ok (.invokevirtual idx, 3)) (hR : (k + 1 ≤ R.frames ∧ 8 + (n + 11) + 40 * k ≤ R.locals) ∧ cells + mc ≤ R.cells ∧ slots + ms ≤ R.slots) (hS : va_S A H0 H locs) (hA : ∀ q, A1 q → A q)
    (kk : ∀ (H1 : Heap) (locs1 : List Loc), P' H1 → H.size ≤ H1.size → (∀ q : Nat, q < H.size → ¬ A1 q → H1[q]? = H[q]?) → va_S A H0 H1 locs1 → W p l e R s m args below meth c H1 locs1 (cells + mc) (slots + ms) Q (F0 m (pc + 3) ls rest)) : W p l e R s m args below meth c H locs cells slots Q (F0 m pc ls st) :=
  g_callW (va_runV (As := As) (rest := rest) C.1 hM ⟨LkB.B C lk.1 lk.2.1 hR.1, C.hT _ lk.2.2.1, C.hT _ lk.2.2.2⟩ (Pk.preV C hrec hP) rfl hn hsz.1 hst (lv_room hcat) hdg hR.2) hS hA kk
theorem kVNW {v : Value} (C : CX G p s m args meth c own cc nL) (hM : MW l G y bytes n ret k (.ref b :: As) P (some v) P' A1 mc ms) (lk : LkVN own idx y host bytes n ret np) (hrec : ∃ cell : Cell, H[b]? = some cell ∧ cell.vm.isStatics = false ∧ s.vm.findClass y.cls = some cell.cls) (hP : P H) (hst : st = As.reverse ++ .ref b :: rest) (hn : As.length = np) (hsz : lv_has ls nL lvs) (hcat : (rest.map fun v => v.category).sum ≤ 8) (hdg : decode cc pc = .ok (.invokevirtual idx, 3)) (hR : (k + 1 ≤ R.frames ∧ 8 + (n + 11) + 40 * k ≤ R.locals) ∧ cells + mc ≤ R.cells ∧ slots + ms ≤ R.slots) (hS : va_S A H0 H locs) (hA : ∀ q, A1 q → A q)
    (kk : ∀ (H1 : Heap) (locs1 : List Loc), P' H1 → H.size ≤ H1.size → (∀ q : Nat, q < H.size → ¬ A1 q → H1[q]? = H[q]?) → va_S A H0 H1 locs1 → W p l e R s m args below meth c H1 locs1 (cells + mc) (slots + ms) Q (F0 m (pc + 3) ls (v :: rest))) : W p l e R s m args below meth c H locs cells slots Q (F0 m pc ls st) :=
  g_callW (va_runVN (As := As) (rest := rest) C.1 hM ⟨LkB.N C lk.1 lk.2.1 hR.1, C.hT _ lk.2.2.1, C.hT _ lk.2.2.2⟩ (Pk.preV C hrec hP) rfl hn hsz.1 hst (lv_room hcat) hdg hR.2) hS hA kk
theorem kVNWn (C : CX G p s m args meth c own cc nL) (hM : MW l G y bytes n ret k (.ref b :: As) P none P' A1 mc ms) (lk : LkVN own idx y host bytes n ret np) (hrec : ∃ cell : Cell, H[b]? = some cell ∧ cell.vm.isStatics = false ∧ s.vm.findClass y.cls = some cell.cls) (hP : P H) (hst : st = As.reverse ++ .ref b :: rest) (hn : As.length = np) (hsz : lv_has ls nL lvs) (hcat : (rest.map fun v => v.category).sum ≤ 8) (hdg : decode cc pc = .ok (.invokevirtual idx, 3)) (hR : (k + 1 ≤ R.frames ∧ 8 + (n + 11) + 40 * k ≤ R.locals) ∧ cells + mc ≤ R.cells ∧ slots + ms ≤ R.slots) (hS : va_S A H0 H locs) (hA : ∀ q, A1 q → A q)
    (kk : ∀ (H1 : Heap) (locs1 : List Loc), P' H1 → H.size ≤ H1.size → (∀ q : Nat, q < H.size → ¬ A1 q → H1[q]? = H[q]?) → va_S A H0 H1 locs1 → W p l e R s m args below meth c H1 locs1 (cells + mc) (slots + ms) Q (F0 m (pc + 3) ls rest)) : W p l e R s m args below meth c H locs cells slots Q (F0 m pc ls st) :=
  g_callW (va_runVN (As := As) (rest := rest) C.1 hM ⟨LkB.N C lk.1 lk.2.1 hR.1, C.hT _ lk.2.2.1, C.hT _ lk.2.2.2⟩ (Pk.preV C hrec hP) rfl hn hsz.1 hst (lv_room hcat) hdg hR.2) hS hA kk
theorem kIWn (C : CX G p s m args meth c own cc nL) (hM : MW l G y bytes n none k (.ref b :: As) P none P' A1 mc ms) (lk : LkI own idx y bytes n np) (hP : P H) (hst : st = As.reverse ++ .ref b :: rest) (hn : As.length = np) (hsz : lv_has ls nL lvs) (hcat : (rest.map fun v => v.category).sum ≤ 8) (hdg : decode cc pc = .ok (.invokespecial idx, 3)) (hR : (k + 1 ≤ R.frames ∧ 8 + (n + 11) + 40 * k ≤ R.locals) ∧ cells + mc ≤ R.cells ∧ slots + ms ≤ R.slots) (hS : va_S A H0 H locs) (hA : ∀ q, A1 q → A q)
    (kk : ∀ (H1 : Heap) (locs1 : List Loc), P' H1 → H.size ≤ H1.size → (∀ q : Nat, q < H.size → ¬ A1 q → H1[q]? = H[q]?) → va_S A H0 H1 locs1 → W p l e R s m args below meth c H1 locs1 (cells + mc) (slots + ms) Q (F0 m (pc + 3) ls rest)) : W p l e R s m args below meth c H locs cells slots Q (F0 m pc ls st) :=
  g_callW (va_runI (As := As) (rest := rest) C.1 hM ⟨LkB.B C lk.1 lk.2.1 hR.1, lk.2.2.2, C.hT _ lk.2.2.1⟩ (Pk.preS (As := .ref b :: As) C hP) rfl hn hsz.1 hst (lv_room hcat) hdg hR.2) hS hA kk
theorem kINWn (C : CX G p s m args meth c own cc nL) (hM : MW l G y bytes n none k (.ref b :: As) P none P' A1 mc ms) (lk : LkIN own idx y host bytes n np) (hP : P H) (hst : st = As.reverse ++ .ref b :: rest) (hn : As.length = np) (hsz : lv_has ls nL lvs) (hcat : (rest.map fun v => v.category).sum ≤ 8) (hdg : decode cc pc = .ok (.invokespecial idx, 3)) (hR : (k + 1 ≤ R.frames ∧ 8 + (n + 11) + 40 * k ≤ R.locals) ∧ cells + mc ≤ R.cells ∧ slots + ms ≤ R.slots) (hS : va_S A H0 H locs) (hA : ∀ q, A1 q → A q)
    (kk : ∀ (H1 : Heap) (locs1 : List Loc), P' H1 → H.size ≤ H1.size → (∀ q : Nat, q < H.size → ¬ A1 q → H1[q]? = H[q]?) → va_S A H0 H1 locs1 → W p l e R s m args below meth c H1 locs1 (cells + mc) (slots + ms) Q (F0 m (pc + 3) ls rest)) : W p l e R s m args below meth c H locs cells slots Q (F0 m pc ls st) :=
  g_callW (va_runIN (As := As) (rest := rest) C.1 hM ⟨LkB.N C lk.1 lk.2.1 hR.1, lk.2.2.2, C.hT _ lk.2.2.1⟩ (Pk.preS (As := .ref b :: As) C hP) rfl hn hsz.1 hst (lv_room hcat) hdg hR.2) hS hA kk
end RW
