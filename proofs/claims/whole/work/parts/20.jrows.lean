/-! rows over arrays of references, ArrayList's static, arraycopy -/
abbrev qs (n : Nat) (f : Nat → Option Nat) : vp_A := (n, .inr (.inr (.inr (.inr f))))
/-- ArrayList's static and the empty array that it holds -/
def DZ (G : GG) (H : Heap) : Prop := (∃ cell : Cell, H[G.2 6]? = some cell ∧ cell.vm.isStatics = true ∧ cell.slots[G.2 7]? = some (.ref (G.2 8))) ∧ ∃ cell : Cell, H[G.2 8]? = some cell ∧ cell.cls = G.2 5 ∧ cell.slots.size = 0 ∧ ∀ k, cell.vm ≠ .statics k
theorem DZ.kept {G : GG} {H H1 : Heap} (h : DZ G H) (h6 : H1[G.2 6]? = H[G.2 6]?) (h8 : H1[G.2 8]? = H[G.2 8]?) : DZ G H1 := by
  unfold DZ
  rw [h6, h8]
  exact h
section JR
variable {p : Program} {l : Launch} {e : Env} {R : Room} {s : State} {m : MethodId} {args : Array Value} {below : List Frame} {meth : Method} {c : Code} {H : Heap} {locs : List Loc} {cells slots : Nat} {Q : State → Prop}
variable {G : GG} {own : String} {cc : ByteArray} {nL : Nat} {pc : Nat} {ls : Array Slot} {rest : List Value} {A : Nat → Prop} {H0 : Heap} {lvs : List (Nat × Value)}
theorem g_aald {a n k v t0 : Nat} {f : Nat → Option Nat} {i : Int32} {cA : ClassId} {E : String} (C : CX G p s m args meth c own cc nL) (h : va_at G.1 vwCl (a, .inl (cA, qs n f)) H) (ht : (tysG G)[t0]? = some (cA, .object E)) (hi : i = nI k) (hk : k < n) (hn : n < 2 ^ 31) (hv : f k = some v) (hdg : decode cc pc = .ok (.aaload, 1))
    (kk : W p l e R s m args below meth c H locs cells slots Q (F0 m (pc + 1) ls (.ref v :: rest))) : W p l e R s m args below meth c H locs cells slots Q (F0 m pc ls (.int i :: .ref a :: rest)) := by
  obtain ⟨h1, h2⟩ := ix_in hi hk hn
  refine va_aldq C.hx C.hb C.hK.1 (va_one h) 0 t0 rfl ht h1 hdg ?_
  rw [h2, hv]
  exact kk
theorem g_aast {a n k v t0 ci : Nat} {f : Nat → Option Nat} {i : Int32} {cA : ClassId} {E Cn : String} {T : u_T} {N : Nat} {fs : List Value} (C : CX G p s m args meth c own cc nL) (hS : va_S A H0 H locs) (h : va_at G.1 vwCl (a, .inl (cA, qs n f)) H) (ha : A a) (ht : (tysG G)[t0]? = some (cA, .object E)) (hv : va_at G.1 vwCl (v, .inr (ci, fs)) H) (hc : vwCl[ci]? = some (Cn, T, N)) (hasg : ∀ cv comp : ClassId, s.vm.findClass Cn = some cv → s.vm.findClass E = some comp → s.vm.assignable cv comp = true) (hi : i = nI k) (hk : k < n) (hn : n < 2 ^ 31) (hdg : decode cc pc = .ok (.aastore, 1))
    (kk : ∀ (H1 : Heap) (locs1 : List Loc), va_at G.1 vwCl (a, .inl (cA, qs n (va_up f k (some v)))) H1 → (∀ q, q ≠ a → H1[q]? = H[q]?) → H1.size = H.size → va_S A H0 H1 locs1 → W p l e R s m args below meth c H1 locs1 cells slots Q (F0 m (pc + 1) ls rest)) : W p l e R s m args below meth c H locs cells slots Q (F0 m pc ls (.ref v :: .int i :: .ref a :: rest)) := by
  subst hi
  have hcell : H[a]? = some (vp_cell cA (qs n f)) := h
  obtain ⟨kA, comp, k1, k2, k3, -⟩ := (C.hK.1.2 t0 _ ht).2
  obtain ⟨kE, hkE, -⟩ := Vm.findClass_spec k3
  obtain ⟨cv, g1, g3, g2⟩ := g_recv C hv hc
  obtain ⟨kC, hkC, -⟩ := Vm.findClass_spec g2
  refine W.aast C.hx C.hb hcell (fun q h => by cases h) (fun h => by cases h) k1 k2 rfl hkE ⟨nI_pos (by omega), by show _ < (arrV _ _ _).slots.size; rw [arrV_size, nI_clamp (by omega)]; exact hk⟩ g1 (fun q h => by rw [h] at g3; cases g3) hkC (hasg _ _ g2 k3) rfl rfl hdg fun H1 e1 z1 o1 => ?_
  rw [nI_clamp (by omega)] at e1
  refine kk H1 _ ?_ o1 z1 (hS.put z1 o1 ha)
  show H1[a]? = some (vp_cell _ _)
  rw [e1, vp_cell_q, vp_cell_q, arrV_store]
  congr 2
  funext q
  by_cases hq : q = k
  · subst hq
    simp [updV, va_up, va_rf]
  · simp [updV, va_up, hq]
theorem asg_obj {Cn : String} (C : CX G p s m args meth c own cc nL) (hm : Cond.castable Cn "java/lang/Object" ∈ lw_tbl) : ∀ cv comp : ClassId, s.vm.findClass Cn = some cv → s.vm.findClass "java/lang/Object" = some comp → s.vm.assignable cv comp = true := by
  intro cv comp h1 h2
  obtain ⟨c0, t0, f1, f2, f3⟩ := Cond.castable_spec (va_Nw.use (A := args) rfl (C.hK.2.2.1 _ _ hm))
  cases h1.symm.trans f1
  cases h2.symm.trans f2
  exact f3
theorem asg_self {Cn : String} {ci : Nat} {T : u_T} {N : Nat} (C : CX G p s m args meth c own cc nL) (hc : vwCl[ci]? = some (Cn, T, N)) : ∀ cv comp : ClassId, s.vm.findClass Cn = some cv → s.vm.findClass Cn = some comp → s.vm.assignable cv comp = true := by
  intro cv comp h1 h2
  cases h1.symm.trans h2
  have h := (C.hK.1.1 ci _ hc).2
  cases h1.symm.trans h.1
  exact va_assign h
theorem g_aastN {a n k t0 : Nat} {f : Nat → Option Nat} {i : Int32} {cA : ClassId} {E : String} (C : CX G p s m args meth c own cc nL) (hS : va_S A H0 H locs) (h : va_at G.1 vwCl (a, .inl (cA, qs n f)) H) (ha : A a) (ht : (tysG G)[t0]? = some (cA, .object E)) (hi : i = nI k) (hk : k < n) (hn : n < 2 ^ 31) (hdg : decode cc pc = .ok (.aastore, 1))
    (kk : ∀ (H1 : Heap) (locs1 : List Loc), va_at G.1 vwCl (a, .inl (cA, qs n (va_up f k none))) H1 → (∀ q, q ≠ a → H1[q]? = H[q]?) → H1.size = H.size → va_S A H0 H1 locs1 → W p l e R s m args below meth c H1 locs1 cells slots Q (F0 m (pc + 1) ls rest)) : W p l e R s m args below meth c H locs cells slots Q (F0 m pc ls (.null :: .int i :: .ref a :: rest)) := by
  subst hi
  have hcell : H[a]? = some (vp_cell cA (qs n f)) := h
  refine va_WaastN C.hx C.hb hcell ((C.hK.1.2 t0 _ ht).1 n (fun j => va_rf (f j))) (fun h => by cases h) (by show ¬ (_ ∨ (arrV _ _ _).slots.size ≤ _); rw [arrV_size, nI_clamp (by omega)]; exact fun q => q.elim (nI_pos (by omega)) (fun q => absurd q (Nat.not_le.mpr hk))) rfl rfl hdg fun H1 e1 z1 o1 => ?_
  rw [nI_clamp (by omega)] at e1
  refine kk H1 _ ?_ o1 z1 (hS.put z1 o1 ha)
  show H1[a]? = some (vp_cell _ _)
  rw [e1, vp_cell_q, vp_cell_q, arrV_store]
  congr 2
  funext q
  by_cases hq : q = k
  · subst hq
    simp [updV, va_up, va_rf]
  · simp [updV, va_up, hq]
theorem g_newq {index t0 N : Nat} {cA : ClassId} {E : String} {n : Int32} (C : CX G p s m args meth c own cc nL) (hS : va_S A H0 H locs) (hl : Cond.classLink own index E ∈ gtbl) (hov : Cond.arrayOver (.object E) ∈ lw_tbl) (ht : (tysG G)[t0]? = some (cA, .object E)) (hn : n = nI N) (hN : N < 2 ^ 27) (hc1 : cells + 1 ≤ R.cells) (hs1 : slots + N ≤ R.slots) (hdg : decode cc pc = .ok (.anewarray index, 3))
    (kk : ∀ H1 : Heap, va_at G.1 vwCl (H.size, .inl (cA, qs N (fun _ => none))) H1 → (∀ q, q < H.size → H1[q]? = H[q]?) → H1.size = H.size + 1 → va_S A H0 H1 locs → W p l e R s m args below meth c H1 locs (cells + 1) (slots + N) Q (F0 m (pc + 3) ls (.ref H.size :: rest))) : W p l e R s m args below meth c H locs cells slots Q (F0 m pc ls (.int n :: rest)) := by
  subst hn
  have hcl : (nI N).toNatClampNeg = N := nI_clamp (by omega)
  refine W.anew C.hx C.hb C.hown (C.hT _ hl) (va_AO.use (C.hK.2.2.2.1 _ hov)) rfl hdg rfl (nI_pos (by omega)) (by rw [hcl]; omega) hc1 (by rw [hcl]; exact hs1) fun cB kA comp f1 f2 f3 f4 => ?_
  rw [hcl]
  obtain ⟨-, -, -, -, -, h4⟩ := (C.hK.1.2 t0 _ ht).2
  have hcc : cB = cA := Option.some.inj (f1.symm.trans h4)
  subst hcc
  generalize hH1 : H.push ({ cls := cB, slots := Array.replicate N .null, vm := .none } : Cell) = H1
  have z1 : H1.size = H.size + 1 := by rw [← hH1, Array.size_push]
  have e1 : H1[H.size]? = some (arrV cB N (fun _ => .null)) := by rw [← hH1, Array.getElem?_push_size, ← arrV_new]
  have o1 : ∀ q : Nat, q < H.size → H1[q]? = H[q]? := fun q hq => by rw [← hH1, Array.getElem?_push, if_neg (Nat.ne_of_lt hq)]
  refine kk H1 ?_ o1 z1 ⟨Nat.le_trans hS.1 (by omega), fun x h1 h2 => (o1 x (Nat.lt_of_lt_of_le h1 hS.1)).trans (hS.2.1 x h1 h2), hS.2.2⟩
  show H1[H.size]? = some (vp_cell _ _)
  rw [vp_cell_q]
  exact e1
theorem g_gets {index : Nat} (C : CX G p s m args meth c own cc nL) (hz : DZ G H) (hl : Cond.fieldLink own index "java/util/ArrayList" "DEFAULTCAPACITY_EMPTY_ELEMENTDATA" "[Ljava/lang/Object;" ∈ gtbl) (hdg : decode cc pc = .ok (.getstatic index, 3))
    (kk : W p l e R s m args below meth c H locs cells slots Q (F0 m (pc + 3) ls (.ref (G.2 8) :: rest))) : W p l e R s m args below meth c H locs cells slots Q (F0 m pc ls rest) := by
  obtain ⟨cf, kf, fi, f, h1, h2, h3, h4, h5⟩ := C.hK.2.2.2.2.1
  obtain ⟨⟨cell, g1, g2, g3⟩, -⟩ := hz
  exact W.gets C.hx C.hb C.hown (C.hT _ hl) h1 h2 h3 h4 g1 (fun e => by rw [e] at g2; cases g2) (by rw [h5]; exact g3) rfl hdg kk
theorem g_tlen (C : CX G p s m args meth c own cc nL) (hz : DZ G H) (hdg : decode cc pc = .ok (.arraylength, 1))
    (kk : W p l e R s m args below meth c H locs cells slots Q (F0 m (pc + 1) ls (.int 0 :: rest))) : W p l e R s m args below meth c H locs cells slots Q (F0 m pc ls (.ref (G.2 8) :: rest)) := by
  obtain ⟨-, cell, g1, g2, g3, g4⟩ := hz
  obtain ⟨-, kA, hkA, comp, hkind⟩ := (C.hK.1.2 5 _ rfl).1 0 (fun _ => .null)
  exact W.alen C.hx C.hb (ty := .object "java/lang/Object") g1 ⟨g4, kA, by rw [g2]; exact hkA, comp, hkind⟩ (by rw [g3]; rfl) rfl rfl hdg kk
/-- System.arraycopy between arrays of Objects: all that is copied is made objects -/
theorem g_copyq {a a0 n0 n1 sp dp n index : Nat} {f g : Nat → Option Nat} (C : CX G p s m args meth c own cc nL) (hS : va_S A H0 H locs) (hsz : lv_has ls nL lvs) (hlink : Cond.methodLink own index arraycopyName ∈ gtbl) (hnat : Cond.native arraycopyName ∈ gtbl) (hstat : Cond.static arraycopyName ∈ gtbl) (hini : Cond.initialized "java/lang/System" ∈ gtbl)
    (h0 : va_at G.1 vwCl (a0, .inl (G.2 5, qs n0 f)) H) (h1 : va_at G.1 vwCl (a, .inl (G.2 5, qs n1 g)) H) (ha : A a) (l0 : n0 < 2 ^ 31) (l1 : n1 < 2 ^ 31) (h4 : sp + n ≤ n0) (h5 : dp + n ≤ n1)
    (hel : ∀ i : Nat, i < n → ∀ y : Nat, f (sp + i) = some y → ∃ cv : Cell, H[y]? = some cv ∧ cv.vm.isStatics = false ∧ (∃ kC : Class, s.vm.classes[cv.cls]? = some kC) ∧ ∀ comp : ClassId, s.vm.findClass "java/lang/Object" = some comp → s.vm.assignable cv.cls comp = true)
    (hframes : 1 ≤ R.frames) (hlocals : (rest.map fun v => v.category).sum + (nativeFrameWords "java/lang/System" "arraycopy" 5 + 11) ≤ R.locals) (hdg : decode cc pc = .ok (.invokestatic index, 3))
    (kk : ∀ (H1 : Heap) (locs1 : List Loc), va_at G.1 vwCl (a, .inl (G.2 5, qs n1 (va_cpy f g sp dp n))) H1 → (∀ q, q ≠ a → H1[q]? = H[q]?) → H1.size = H.size → va_S A H0 H1 locs1 → W p l e R s m args below meth c H1 locs1 cells slots Q (F0 m (pc + 3) ls rest)) : W p l e R s m args below meth c H locs cells slots Q (F0 m pc ls (.int (nI n) :: .int (nI dp) :: .ref a :: .int (nI sp) :: .ref a0 :: rest)) := by
  have cn : (nI n).toNatClampNeg = n := nI_clamp (by omega)
  have cs : (nI sp).toNatClampNeg = sp := nI_clamp (by omega)
  have cd : (nI dp).toNatClampNeg = dp := nI_clamp (by omega)
  have tn' : (nI n).toInt = (n : Int) := nI_toInt (by omega)
  have ts' : (nI sp).toInt = (sp : Int) := nI_toInt (by omega)
  have td' : (nI dp).toInt = (dp : Int) := nI_toInt (by omega)
  have hc0 : H[a0]? = some (vp_cell (G.2 5) (qs n0 f)) := h0
  have hc1 : H[a]? = some (vp_cell (G.2 5) (qs n1 g)) := h1
  have hK := C.hK.1.2 5 _ rfl
  obtain ⟨-, k0, hk0, cm0, hkk0⟩ := hK.1 n0 (fun j => va_rf (f j))
  obtain ⟨-, k1, hk1, cm1, hkk1⟩ := hK.1 n1 (fun j => va_rf (g j))
  intro T hT X
  obtain ⟨vm', X', step⟩ := X.arraycopy C.hx C.hown (C.hT _ hlink) (C.hT _ hnat) (C.hT _ hstat) (C.hT _ hini) (src := a0) (dst := a) (cs := vp_cell (G.2 5) (qs n0 f)) (cd := vp_cell (G.2 5) (qs n1 g)) (srcPos := nI sp) (destPos := nI dp) (n := nI n) (by rw [hT]; exact hc0) (by rw [hT]; exact hc1)
    (fun _ h => by cases h) (fun _ h => by cases h) (fun h => by cases h) (fun h => by cases h) hk0 hk1 hkk0 hkk1 rfl (nI_pos (by omega)) (nI_pos (by omega)) (nI_pos (by omega))
    (by rw [ts', tn']; show ¬ _ > ((arrV (G.2 5) n0 (fun j => va_rf (f j))).slots.size : Int); rw [arrV_size]; omega)
    (by rw [td', tn']; show ¬ _ > ((arrV (G.2 5) n1 (fun j => va_rf (g j))).slots.size : Int); rw [arrV_size]; omega)
    (fun vm₁ hal i hi => by
      rw [cn] at hi
      have e : (vp_cell (G.2 5) (qs n0 f)).slots.getD ((nI sp).toNatClampNeg + i) .null = va_rf (f (sp + i)) := by
        rw [cs]
        show (arrV (G.2 5) n0 (fun j => va_rf (f j))).slots.getD _ _ = _
        rw [Array.getD_eq_getD_getElem?, arrV_read _ _ (by omega)]
        rfl
      rw [e]
      cases hy : f (sp + i) with
      | none => exact ⟨rfl, trivial⟩
      | some y =>
        obtain ⟨cv, g1, g2, ⟨kC, hkC⟩, g3⟩ := hel i hi y hy
        obtain ⟨kA, comp, r1, r2, r3, -⟩ := hK.2
        cases hk1.symm.trans r1
        cases hkk1.symm.trans r2
        obtain ⟨kE, hkE, -⟩ := Vm.findClass_spec r3
        obtain ⟨kC', hkC', -⟩ := hal.2.2 _ _ hkC
        obtain ⟨kE', hkE', -⟩ := hal.2.2 _ _ hkE
        refine ⟨rfl, cv, (show T.heap[y]? = some cv by rw [hT]; exact g1), (fun q h => by rw [h] at g2; cases g2), ⟨kC', hkC'⟩, ⟨kE', hkE'⟩, ?_⟩
        show vm₁.assignable _ _ = true
        rw [hal.assignable]
        exact g3 _ r3)
    (g := F0 m pc ls (.int (nI n) :: .int (nI dp) :: .ref a :: .int (nI sp) :: .ref a0 :: rest)) rfl (by rw [C.hml]; exact hsz.1) (rest := rest) rfl (by rw [C.hb]; exact hdg) hframes (by show 2 * 0 + _ + _ ≤ _; omega)
  have e1 : copied (vp_cell (G.2 5) (qs n0 f)) (vp_cell (G.2 5) (qs n1 g)) (nI sp) (nI dp) (nI n) = vp_cell (G.2 5) (qs n1 (va_cpy f g sp dp n)) := by
    rw [vp_cell_q, vp_cell_q, vp_cell_q]
    show Cell.storeRun _ (nI dp).toNatClampNeg (Cell.stretch _ (nI sp).toNatClampNeg (nI n).toNatClampNeg) = _
    rw [cs, cd, cn]
    exact va_copied (fun z => va_rf z) (G.2 5) (G.2 5) f g h4
  rw [e1] at X' step
  have hl : a < H.size := (Array.getElem?_eq_some_iff.mp hc1).1
  have o1 : ∀ q : Nat, q ≠ a → (H.setIfInBounds a (vp_cell (G.2 5) (qs n1 (va_cpy f g sp dp n))))[q]? = H[q]? := fun q hq => by simp [Array.getElem?_setIfInBounds, Ne.symm hq]
  obtain ⟨t, a1, b1⟩ := kk (H.setIfInBounds a (vp_cell (G.2 5) (qs n1 (va_cpy f g sp dp n)))) _ (show (H.setIfInBounds a _)[a]? = some _ by simp [Array.getElem?_setIfInBounds, hl]) o1 (by simp) ⟨by simp; exact hS.1, fun q g1 g2 => by
      rw [o1 q (fun e => g2 (by rw [e]; exact ha))]
      exact hS.2.1 q g1 g2, fun q hq => by
      rcases List.mem_append.mp hq with h | h
      · exact hS.2.2 q h
      · obtain ⟨z, -, hz⟩ := List.mem_map.mp h
        rw [← hz]
        exact ha⟩ _ (by rw [← hT]; rfl) X'
  exact ⟨t, step t a1, b1⟩
end JR
