/-! THE BASE: one context for every walk, contracts of readers and writers, rows over single cells -/
abbrev GG : Type := va_G × (Nat → ClassId)
def tysG (G : GG) : List (ClassId × FieldType) := [(G.2 0, .int), (G.2 1, .long), (G.2 2, .boolean), (G.2 3, .object "ModeratorsBench$Rule"), (G.2 4, .object "ModeratorsBench$Judge"), (G.2 5, .object "java/lang/Object")]
/-- what the tables say and calls keep -/
def NW (U : State) : Prop := ∀ w ∈ lw_tbl, (w.onTables && w.keepsH) = true → w.before #[] U = true
def NC (U : State) : Prop := ∀ C T : String, Cond.castable C T ∈ lw_tbl → va_Nw (.castable C T) U
def NO (U : State) : Prop := ∀ C : String, Cond.arrayOver (.object C) ∈ lw_tbl → va_AO C U
/-- where ArrayList's static lies: the cell G.2 6, the slot G.2 7 (it holds G.2 8, an empty array); G.2 9: the class object of Object[] -/
def KS (G : GG) (U : State) : Prop := ∃ (cf : ClassId) (kf : Class) (fi : Nat) (f : Field), U.fieldFound? "java/util/ArrayList" "DEFAULTCAPACITY_EMPTY_ELEMENTDATA" "[Ljava/lang/Object;" = some (cf, kf, fi, f) ∧ f.isStatic = true ∧ kf.init = .initialized ∧ kf.statics = some (G.2 6) ∧ f.slot = G.2 7
theorem KS.moved {G : GG} {u U : State} (hvm : u.vm.Alike U.vm) (h : KS G u) : KS G U := by
  obtain ⟨cf, kf, fi, f, h1, h2, h3, h4, h5⟩ := h
  obtain ⟨k', hi', he⟩ := State.fieldFound?_setVm hvm h1
  exact ⟨cf, k', fi, f, hi', h2, by rw [he]; exact h3, by rw [he]; exact h4, h5⟩
def KK (G : GG) (U : State) : Prop := va_K G.1 vwCl (tysG G) U ∧ NW U ∧ NC U ∧ NO U ∧ KS G U ∧ va_Mi "[Ljava/lang/Object;" (G.2 9) U ∧ va_Dc U
theorem NW.warm {s U : State} (hW : s.WarmedH U.vm) (h : NW s) : NW U := by
  intro w hw hk
  have hk2 := hk
  simp only [Bool.and_eq_true] at hk2
  have h1 := Cond.onTables_warmH (T := U) (args' := #[]) hW hk2.1 hk2.2 (h w hw hk)
  rwa [State.setVm_self] at h1
theorem NW.same {u U : State} (e : u.vm = U.vm) (h : NW u) : NW U := by
  intro w hw hk
  have hk2 := hk
  simp only [Bool.and_eq_true] at hk2
  exact va_tabs hk2.1 e (h w hw hk)
theorem NW.get {U : State} (h : NW U) {w : Cond} (hw : w ∈ lw_tbl) (hk : (w.onTables && w.keepsH) = true) {A : Array Value} : w.before A U = true := by
  have hk2 := hk
  simp only [Bool.and_eq_true] at hk2
  exact va_tabs hk2.1 rfl (h w hw hk)
theorem KK.warm {G : GG} {s U : State} (hW : s.WarmedH U.vm) (h : KK G s) : KK G U := ⟨va_K.moved hW.alike h.1, h.2.1.warm hW, fun C T hm => va_Nw.warmC hW (h.2.2.1 C T hm), fun C hm => va_AO.moved hW.alike (h.2.2.2.1 C hm), KS.moved hW.alike h.2.2.2.2.1, va_Mi.moved hW.alike h.2.2.2.2.2.1, va_Dc.moved hW.alike h.2.2.2.2.2.2⟩
theorem KK.calling {G : GG} {U : State} {g : JFrame} {mk : MethodId} {a : Array Value} (h : KK G U) : KK G (U.calling g mk a) :=
  ⟨va_K.moved (u := U) (U := U.calling g mk a) (Vm.Alike.refl U.vm) h.1, NW.same (u := U) (U := U.calling g mk a) rfl h.2.1, fun C T hm => va_Nw.same (w := .castable C T) (u := U) (U := U.calling g mk a) rfl rfl (h.2.2.1 C T hm), fun C hm => va_AO.moved (u := U) (U := U.calling g mk a) (Vm.Alike.refl U.vm) (h.2.2.2.1 C hm), KS.moved (u := U) (U := U.calling g mk a) (Vm.Alike.refl U.vm) h.2.2.2.2.1, va_Mi.moved (u := U) (U := U.calling g mk a) (Vm.Alike.refl U.vm) h.2.2.2.2.2.1, va_Dc.moved (u := U) (U := U.calling g mk a) (Vm.Alike.refl U.vm) h.2.2.2.2.2.2⟩
/-- a walk's fixed context -/
def CX (G : GG) (p : Program) (s : State) (m : MethodId) (args : Array Value) (meth : Method) (c : Code) (own : String) (cc : ByteArray) (nL : Nat) : Prop :=
  CallFix p m c cc nL s args gtbl own ∧ KK G s ∧ meth.locks = false
def Rd (V : Option Value) : Array Value → State → Outcome → State → Prop := fun _ st o t => o = .returned V ∧ t.heap = st.heap
def Wr (V : Option Value) (P : Heap → Prop) (A : Nat → Prop) : Array Value → State → Outcome → State → Prop := fun _ st o t => o = .returned V ∧ P t.heap ∧ va_F A st t
def Pk (G : GG) (av : List Value) (P : Heap → Prop) : Array Value → State → Prop := va_Pc av (fun U => P U.heap ∧ KK G U)
theorem Pk.blind {G : GG} {av : List Value} {P : Heap → Prop} : FrameBlind (Pk G av P) := fun _ _ _ _ q => ⟨q.1, q.2.1, q.2.2.calling⟩
abbrev rmk (k mc ms : Nat) : Room := { frames := k, cells := mc, slots := ms, locals := 40 * k }
def MR (l : Launch) (G : GG) (y : MethodName) (cc : ByteArray) (n : Nat) (ret : Option FieldType) (k : Nat) (av : List Value) (P : Heap → Prop) (V : Option Value) : Prop :=
  Met l y (wd y cc n ret) (rmk k 0 0) (Pk G av P) (Rd V) 0 0 (fun _ => False)
def MW (l : Launch) (G : GG) (y : MethodName) (cc : ByteArray) (n : Nat) (ret : Option FieldType) (k : Nat) (av : List Value) (P : Heap → Prop) (V : Option Value) (P' : Heap → Prop) (A : Nat → Prop) (mc ms : Nat) : Prop :=
  Met l y (wd y cc n ret) (rmk k mc ms) (Pk G av P) (Wr V P' A) mc ms A
theorem MR.of {l : Launch} {G : GG} {y : MethodName} {cc : ByteArray} {n : Nat} {ret : Option FieldType} {k : Nat} {av : List Value} {P : Heap → Prop} {V : Option Value} (own : String) (ho : y.cls = own) (hy : plainName y.cls = true) (hn : (lg_sl av).length ≤ n)
    (body : ∀ (p : Program) (e : Env) (s : State) (m : MethodId) (args : Array Value) (below : List Frame) (meth : Method) (c : Code) (ls : Array Slot), args = av.toArray → CX G p s m args meth c own cc n → meth.sig.returnType = ret → meth.name = y.name → P s.heap → lv_has ls n (lv_args 0 av) →
      W p l e (rmk k 0 0) s m args below meth c s.heap [] 0 0 (MQ below (Rd V) args s 0 0 (fun _ => False)) (F0 m 0 ls [])) : MR l G y cc n ret k av P V := by
  refine Met.ofW (cc := cc) (maxL := n) (ret := ret) hy rfl ?_
  intro p e s m args below meth c s₁ B hml hv
  obtain ⟨rfl, hP, hK⟩ := hv
  have hts := atoms_spec (ws := wd y cc n ret) B.pre
  have hown : s.vm.findClass own = some m.cls := by rw [← ho]; exact findClass_of_methodNamed B.named
  have hl := lv_entry av (n := n) hn
  rw [lg_entry_eq]
  exact body p e s m _ below meth c _ rfl ⟨⟨B.exec, B.bytes, hml, hown, fun w h => hts w (List.mem_cons_of_mem _ h)⟩, hK, B.notSynchronized⟩ B.returns (name_of_methodNamed B.named B.method).1 hP hl
theorem MW.of {l : Launch} {G : GG} {y : MethodName} {cc : ByteArray} {n : Nat} {ret : Option FieldType} {k : Nat} {av : List Value} {P : Heap → Prop} {V : Option Value} {P' : Heap → Prop} {A : Nat → Prop} {mc ms : Nat} (own : String) (ho : y.cls = own) (hy : plainName y.cls = true) (hn : (lg_sl av).length ≤ n)
    (body : ∀ (p : Program) (e : Env) (s : State) (m : MethodId) (args : Array Value) (below : List Frame) (meth : Method) (c : Code) (ls : Array Slot), args = av.toArray → CX G p s m args meth c own cc n → meth.sig.returnType = ret → meth.name = y.name → P s.heap → va_S A s.heap s.heap [] → lv_has ls n (lv_args 0 av) →
      W p l e (rmk k mc ms) s m args below meth c s.heap [] 0 0 (MQ below (Wr V P' A) args s mc ms A) (F0 m 0 ls [])) : MW l G y cc n ret k av P V P' A mc ms := by
  refine Met.ofW (cc := cc) (maxL := n) (ret := ret) hy rfl ?_
  intro p e s m args below meth c s₁ B hml hv
  obtain ⟨rfl, hP, hK⟩ := hv
  have hts := atoms_spec (ws := wd y cc n ret) B.pre
  have hown : s.vm.findClass own = some m.cls := by rw [← ho]; exact findClass_of_methodNamed B.named
  have hl := lv_entry av (n := n) hn
  rw [lg_entry_eq]
  exact body p e s m _ below meth c _ rfl ⟨⟨B.exec, B.bytes, hml, hown, fun w h => hts w (List.mem_cons_of_mem _ h)⟩, hK, B.notSynchronized⟩ B.returns (name_of_methodNamed B.named B.method).1 hP va_S.rf hl
section BW
variable {p : Program} {l : Launch} {e : Env} {R : Room} {s : State} {m : MethodId} {args : Array Value} {below : List Frame} {meth : Method} {c : Code} {H : Heap} {locs : List Loc} {cells slots : Nat} {Q : State → Prop}
variable {G : GG} {own : String} {cc : ByteArray} {nL : Nat} {pc : Nat} {ls : Array Slot} {rest : List Value} {A : Nat → Prop} {H0 : Heap}
theorem CX.hx (C : CX G p s m args meth c own cc nL) : p.tables.exec = Jvm.exec := C.1.1
theorem CX.hb (C : CX G p s m args meth c own cc nL) : c.code = cc := C.1.2.1
theorem CX.hml (C : CX G p s m args meth c own cc nL) : c.maxLocals = nL := C.1.2.2.1
theorem CX.hown (C : CX G p s m args meth c own cc nL) : s.vm.findClass own = some m.cls := C.1.2.2.2.1
theorem CX.hT (C : CX G p s m args meth c own cc nL) : ∀ w ∈ gtbl, w.before args s = true := C.1.2.2.2.2
theorem CX.hK (C : CX G p s m args meth c own cc nL) : KK G s := C.2.1
theorem CX.nw (C : CX G p s m args meth c own cc nL) {w : Cond} (hw : w ∈ lw_tbl) (hk : (w.onTables && w.keepsH) = true) : w.before args s = true := C.2.1.2.1.get hw hk
-- joins: the goal behind a branching stretch, once
theorem W.joinI {P : Int32 → Prop} (pcj : Nat) (lsj : Array Slot) (rj : List Value) {g : JFrame} (h : (∀ v : Int32, P v → W p l e R s m args below meth c H locs cells slots Q (F0 m pcj lsj (.int v :: rj))) → W p l e R s m args below meth c H locs cells slots Q g)
    (k : ∀ v : Int32, P v → W p l e R s m args below meth c H locs cells slots Q (F0 m pcj lsj (.int v :: rj))) : W p l e R s m args below meth c H locs cells slots Q g := h k
theorem W.joinL {P : Array Slot → Prop} (pcj : Nat) (rj : List Value) {g : JFrame} (h : (∀ ls' : Array Slot, P ls' → W p l e R s m args below meth c H locs cells slots Q (F0 m pcj ls' rj)) → W p l e R s m args below meth c H locs cells slots Q g)
    (k : ∀ ls' : Array Slot, P ls' → W p l e R s m args below meth c H locs cells slots Q (F0 m pcj ls' rj)) : W p l e R s m args below meth c H locs cells slots Q g := h k
theorem W.joinH {P : Array Slot → Heap → List Loc → Prop} (pcj : Nat) (rj : List Value) {g : JFrame} (h : (∀ (ls' : Array Slot) (H' : Heap) (locs' : List Loc), P ls' H' locs' → W p l e R s m args below meth c H' locs' cells slots Q (F0 m pcj ls' rj)) → W p l e R s m args below meth c H locs cells slots Q g)
    (k : ∀ (ls' : Array Slot) (H' : Heap) (locs' : List Loc), P ls' H' locs' → W p l e R s m args below meth c H' locs' cells slots Q (F0 m pcj ls' rj)) : W p l e R s m args below meth c H locs cells slots Q g := h k
-- loops
theorem W.loopR {N : Nat} {Inv : Nat → Array Slot → Prop} (pch : Nat) (rj : List Value) (step : ∀ (i : Nat) (ls' : Array Slot), i < N → Inv i ls' → (∀ ls2 : Array Slot, Inv (i + 1) ls2 → W p l e R s m args below meth c H locs cells slots Q (F0 m pch ls2 rj)) → W p l e R s m args below meth c H locs cells slots Q (F0 m pch ls' rj))
    (exit : ∀ ls' : Array Slot, Inv N ls' → W p l e R s m args below meth c H locs cells slots Q (F0 m pch ls' rj)) : ∀ (i : Nat) (ls' : Array Slot), i ≤ N → Inv i ls' → W p l e R s m args below meth c H locs cells slots Q (F0 m pch ls' rj) := by
  have key : ∀ (d i : Nat) (ls' : Array Slot), i + d = N → Inv i ls' → W p l e R s m args below meth c H locs cells slots Q (F0 m pch ls' rj) := by
    intro d
    induction d with
    | zero => intro i ls' hi h; have : i = N := by omega
              subst this; exact exit ls' h
    | succ d ih => intro i ls' hi h; exact step i ls' (by omega) h (fun ls2 h2 => ih (i + 1) ls2 (by omega) h2)
  intro i ls' hi h
  exact key (N - i) i ls' (by omega) h
theorem W.loopD {Inv : Nat → Array Slot → Prop} (pch : Nat) (rj : List Value) (step : ∀ (i : Nat) (ls' : Array Slot), Inv (i + 1) ls' → (∀ ls2 : Array Slot, Inv i ls2 → W p l e R s m args below meth c H locs cells slots Q (F0 m pch ls2 rj)) → W p l e R s m args below meth c H locs cells slots Q (F0 m pch ls' rj))
    (exit : ∀ ls' : Array Slot, Inv 0 ls' → W p l e R s m args below meth c H locs cells slots Q (F0 m pch ls' rj)) : ∀ (i : Nat) (ls' : Array Slot), Inv i ls' → W p l e R s m args below meth c H locs cells slots Q (F0 m pch ls' rj) := by
  intro i
  induction i with
  | zero => exact exit
  | succ i ih => intro ls' h; exact step i ls' h (fun ls2 h2 => ih ls2 h2)
theorem W.loopW {N : Nat} {Inv : Nat → Array Slot → Heap → List Loc → Nat → Nat → Prop} (pch : Nat) (rj : List Value) (step : ∀ (i : Nat) (ls' : Array Slot) (H' : Heap) (locs' : List Loc) (ce sl : Nat), i < N → Inv i ls' H' locs' ce sl → (∀ (ls2 : Array Slot) (H2 : Heap) (locs2 : List Loc) (ce2 sl2 : Nat), Inv (i + 1) ls2 H2 locs2 ce2 sl2 → W p l e R s m args below meth c H2 locs2 ce2 sl2 Q (F0 m pch ls2 rj)) → W p l e R s m args below meth c H' locs' ce sl Q (F0 m pch ls' rj))
    (exit : ∀ (ls' : Array Slot) (H' : Heap) (locs' : List Loc) (ce sl : Nat), Inv N ls' H' locs' ce sl → W p l e R s m args below meth c H' locs' ce sl Q (F0 m pch ls' rj)) : ∀ (i : Nat) (ls' : Array Slot) (H' : Heap) (locs' : List Loc) (ce sl : Nat), i ≤ N → Inv i ls' H' locs' ce sl → W p l e R s m args below meth c H' locs' ce sl Q (F0 m pch ls' rj) := by
  have key : ∀ (d i : Nat) (ls' : Array Slot) (H' : Heap) (locs' : List Loc) (ce sl : Nat), i + d = N → Inv i ls' H' locs' ce sl → W p l e R s m args below meth c H' locs' ce sl Q (F0 m pch ls' rj) := by
    intro d
    induction d with
    | zero => intro i ls' H' locs' ce sl hi h; have : i = N := by omega
              subst this; exact exit ls' H' locs' ce sl h
    | succ d ih => intro i ls' H' locs' ce sl hi h; exact step i ls' H' locs' ce sl (by omega) h (fun ls2 H2 locs2 ce2 sl2 h2 => ih (i + 1) ls2 H2 locs2 ce2 sl2 (by omega) h2)
  intro i ls' H' locs' ce sl hi h
  exact key (N - i) i ls' H' locs' ce sl (by omega) h
theorem W.loopWD {Inv : Nat → Array Slot → Heap → List Loc → Prop} (pch : Nat) (rj : List Value) (step : ∀ (i : Nat) (ls' : Array Slot) (H' : Heap) (locs' : List Loc), Inv (i + 1) ls' H' locs' → (∀ (ls2 : Array Slot) (H2 : Heap) (locs2 : List Loc), Inv i ls2 H2 locs2 → W p l e R s m args below meth c H2 locs2 cells slots Q (F0 m pch ls2 rj)) → W p l e R s m args below meth c H' locs' cells slots Q (F0 m pch ls' rj))
    (exit : ∀ (ls' : Array Slot) (H' : Heap) (locs' : List Loc), Inv 0 ls' H' locs' → W p l e R s m args below meth c H' locs' cells slots Q (F0 m pch ls' rj)) : ∀ (i : Nat) (ls' : Array Slot) (H' : Heap) (locs' : List Loc), Inv i ls' H' locs' → W p l e R s m args below meth c H' locs' cells slots Q (F0 m pch ls' rj) := by
  intro i
  induction i with
  | zero => exact exit
  | succ i ih => intro ls' H' locs' h; exact step i ls' H' locs' h (fun ls2 H2 locs2 h2 => ih ls2 H2 locs2 h2)
-- ends
theorem rI {v v' : Int32} (C : CX G p s m args meth c own cc nL) (hr : meth.sig.returnType = some .int) (hdg : decode cc pc = .ok (.ireturn, 1)) (h : v = v') :
    W p l e R s m args below meth c s.heap [] cells slots (MQ below (Rd (some (.int v'))) args s cells slots (fun _ => False)) (F0 m pc ls [.int v]) := by
  subst h
  exact W.iret C.hx C.hb hr (fun t ht _ => ⟨rfl, ht⟩) (fun q h => by cases h) hdg C.2.2
theorem rZ {v v' : Int32} (C : CX G p s m args meth c own cc nL) (hr : meth.sig.returnType = some .boolean) (hdg : decode cc pc = .ok (.ireturn, 1)) (h : v = v') (hn : narrow .boolean (.int v) = .int v) :
    W p l e R s m args below meth c s.heap [] cells slots (MQ below (Rd (some (.int v'))) args s cells slots (fun _ => False)) (F0 m pc ls [.int v]) := by
  subst h
  exact W.zret C.hx C.hb hr hn (fun t ht _ => ⟨rfl, ht⟩) (fun q h => by cases h) hdg C.2.2
theorem rA {v : Value} {V : Value} {rt : FieldType} (C : CX G p s m args meth c own cc nL) (hr : meth.sig.returnType = some rt) (hrt : (∃ n, rt = .object n) ∨ ∃ t, rt = .array t) (hv : v = .null ∨ ∃ a, v = .ref a) (hdg : decode cc pc = .ok (.areturn, 1)) (h : v = V) :
    W p l e R s m args below meth c s.heap [] cells slots (MQ below (Rd (some V)) args s cells slots (fun _ => False)) (F0 m pc ls [v]) := by
  subst h
  exact W.aret C.hx C.hb hr hrt hv (fun t ht _ => ⟨rfl, ht⟩) (fun q h => by cases h) hdg C.2.2
theorem rV (C : CX G p s m args meth c own cc nL) (hr : meth.sig.returnType = none) (hdg : decode cc pc = .ok (.return_, 1)) :
    W p l e R s m args below meth c s.heap [] cells slots (MQ below (Rd none) args s cells slots (fun _ => False)) (F0 m pc ls []) :=
  W.vret C.hx C.hb hr (fun t ht _ => ⟨rfl, ht⟩) (fun q h => by cases h) hdg C.2.2
theorem wI {v v' : Int32} {P' : Heap → Prop} (C : CX G p s m args meth c own cc nL) (hr : meth.sig.returnType = some .int) (hdg : decode cc pc = .ok (.ireturn, 1)) (hS : va_S A s.heap H locs) (h : v = v') (hP : P' H) :
    W p l e R s m args below meth c H locs cells slots (MQ below (Wr (some (.int v')) P' A) args s cells slots A) (F0 m pc ls [.int v]) := by
  subst h
  exact W.iret C.hx C.hb hr (fun t ht _ => ⟨rfl, by rw [ht]; exact hP, hS.F ht⟩) hS.2.2 hdg C.2.2
theorem wZ {v v' : Int32} {P' : Heap → Prop} (C : CX G p s m args meth c own cc nL) (hr : meth.sig.returnType = some .boolean) (hdg : decode cc pc = .ok (.ireturn, 1)) (hS : va_S A s.heap H locs) (h : v = v') (hP : P' H) (hn : narrow .boolean (.int v) = .int v) :
    W p l e R s m args below meth c H locs cells slots (MQ below (Wr (some (.int v')) P' A) args s cells slots A) (F0 m pc ls [.int v]) := by
  subst h
  exact W.zret C.hx C.hb hr hn (fun t ht _ => ⟨rfl, by rw [ht]; exact hP, hS.F ht⟩) hS.2.2 hdg C.2.2
theorem wA {v V : Value} {P' : Heap → Prop} {rt : FieldType} (C : CX G p s m args meth c own cc nL) (hr : meth.sig.returnType = some rt) (hrt : (∃ n, rt = .object n) ∨ ∃ t, rt = .array t) (hv : v = .null ∨ ∃ a, v = .ref a) (hdg : decode cc pc = .ok (.areturn, 1)) (hS : va_S A s.heap H locs) (h : v = V) (hP : P' H) :
    W p l e R s m args below meth c H locs cells slots (MQ below (Wr (some V) P' A) args s cells slots A) (F0 m pc ls [v]) := by
  subst h
  exact W.aret C.hx C.hb hr hrt hv (fun t ht _ => ⟨rfl, by rw [ht]; exact hP, hS.F ht⟩) hS.2.2 hdg C.2.2
theorem wV {P' : Heap → Prop} (C : CX G p s m args meth c own cc nL) (hr : meth.sig.returnType = none) (hdg : decode cc pc = .ok (.return_, 1)) (hS : va_S A s.heap H locs) (hP : P' H) :
    W p l e R s m args below meth c H locs cells slots (MQ below (Wr none P' A) args s cells slots A) (F0 m pc ls []) :=
  W.vret C.hx C.hb hr (fun t ht _ => ⟨rfl, by rw [ht]; exact hP, hS.F ht⟩) hS.2.2 hdg C.2.2
-- fields, one cell at a time
theorem va_one {D : va_G} {q : Nat × va_E} (h : va_at D vwCl q H) : va_P D vwCl [q] H := by
  intro k x hk
  match k, hk with
  | 0, hk => cases hk; exact h
theorem g_get {a ci k index N : Nat} {fs : List Value} {Cn ref : String} {T : u_T} {v : Value} (C : CX G p s m args meth c own cc nL) (h : va_at G.1 vwCl (a, .inr (ci, fs)) H) (hc : vwCl[ci]? = some (Cn, T, N)) (hu : ∀ w ∈ u_ws Cn T N, w ∈ gtbl) (hk : k < N) (hl : Cond.fieldLink own index ref (T k).2.1 (T k).2.2.1 ∈ gtbl) (hr : (T k).1 = ref) (hv : fs[k]? = some v) (hdg : decode cc pc = .ok (.getfield index, 3))
    (kk : W p l e R s m args below meth c H locs cells slots Q (F0 m (pc + 3) ls (v :: rest))) : W p l e R s m args below meth c H locs cells slots Q (F0 m pc ls (.ref a :: rest)) := by
  subst hr
  exact va_get C.hx C.hb C.hT hu C.hown C.hK.1 (va_one h) 0 rfl hc k hk (C.hT _ hl) (fun _ h9 => h9) hv hdg kk
theorem g_getN {a ci k index N : Nat} {fs : List Value} {Cn ref host : String} {T : u_T} {v : Value} (C : CX G p s m args meth c own cc nL) (h : va_at G.1 vwCl (a, .inr (ci, fs)) H) (hc : vwCl[ci]? = some (Cn, T, N)) (hu : ∀ w ∈ u_ws Cn T N, w ∈ gtbl) (hk : k < N) (hl : Cond.fieldLinkNest own index ref (T k).2.1 (T k).2.2.1 host ∈ lw_tbl) (hr : (T k).1 = ref) (hv : fs[k]? = some v) (hdg : decode cc pc = .ok (.getfield index, 3))
    (kk : W p l e R s m args below meth c H locs cells slots Q (F0 m (pc + 3) ls (v :: rest))) : W p l e R s m args below meth c H locs cells slots Q (F0 m pc ls (.ref a :: rest)) := by
  subst hr
  exact va_getN C.hx C.hb C.hT hu C.hown C.hK.1 (va_one h) 0 rfl hc k hk (C.nw hl rfl) (fun _ h9 => h9) hv hdg kk
theorem g_put {a ci k index N : Nat} {fs : List Value} {Cn ref : String} {T : u_T} {v : Value} {ty : FieldType} (ty0 : Nat → FieldType) (C : CX G p s m args meth c own cc nL) (hS : va_S A H0 H locs) (h : va_at G.1 vwCl (a, .inr (ci, fs)) H) (ha : A a) (hc : vwCl[ci]? = some (Cn, T, N)) (hu : ∀ w ∈ u_ws Cn T N, w ∈ gtbl) (hty : ∀ k, k < N → parseFieldDescriptor (T k).2.2.1 = some (ty0 k)) (hnm : ∀ a, a < N → ∀ b, b < N → a ≠ b → (T a).2.1 ≠ (T b).2.1) (hk : k < N) (hl : Cond.fieldLink own index ref (T k).2.1 (T k).2.2.1 ∈ gtbl) (hr : (T k).1 = ref) (hfin : (T k).2.2.2 = false) (hd : ty0 k = ty) (hn : narrow ty v = v) (hfit : fits ty v = true) (hlen : k < fs.length) (hdg : decode cc pc = .ok (.putfield index, 3))
    (kk : ∀ (H1 : Heap) (locs1 : List Loc), va_at G.1 vwCl (a, .inr (ci, fs.set k v)) H1 → (∀ q, q ≠ a → H1[q]? = H[q]?) → H1.size = H.size → va_S A H0 H1 locs1 → W p l e R s m args below meth c H1 locs1 cells slots Q (F0 m (pc + 3) ls rest)) : W p l e R s m args below meth c H locs cells slots Q (F0 m pc ls (v :: .ref a :: rest)) := by
  subst hr
  have hK := C.hK.1
  have hap := va_apart (own := own) C.hT hu ty0 hty hnm hK hc
  obtain ⟨r, h1, cell, q1, q2, q3, q4⟩ := h
  have hr : r = (Cn, T, N) := Option.some.inj (h1.symm.trans hc)
  subst hr
  obtain ⟨hSl, hfc, kC, hkC, hkind⟩ := hK.1 ci _ hc
  obtain ⟨cf, kf, fi, f, hi, hsl⟩ := hSl k hk
  have hlay := C.hT _ (hu _ (u_in_lay hk))
  unfold u_lay at hlay
  rw [if_neg (by rw [hfin]; decide)] at hlay
  have hst := (u_facts hfc hkC (u_lays C.hT hu hk) hi).1
  have h6 := u_store hfc hkC hkind hlay hi ((hty k hk).trans (congrArg some hd)) hn hfit
  refine W.putK C.hx C.hb (f := f) ⟨C.hown, C.hT _ hl, ⟨_, _, _, hi⟩, hst⟩ (by rw [q2]; exact h6) q1 q3 (by rw [hsl]; exact k2_hasslot (q4 k hk)) rfl rfl hdg fun H' e1 e2 e3 => ?_
  rw [hsl] at e1 ⊢
  exact kk H' _ ⟨_, hc, t_OB.to (V := updV (vp_V fs) k v) ⟨_, e1, q2, q3, t_set q4 hap hk v⟩ (fun j _ => vp_updV_set hlen v j)⟩ e3 e2 (hS.put e2 e3 ha)
theorem g_putN {a ci k index N : Nat} {fs : List Value} {Cn ref host : String} {T : u_T} {v : Value} {ty : FieldType} (ty0 : Nat → FieldType) (C : CX G p s m args meth c own cc nL) (hS : va_S A H0 H locs) (h : va_at G.1 vwCl (a, .inr (ci, fs)) H) (ha : A a) (hc : vwCl[ci]? = some (Cn, T, N)) (hu : ∀ w ∈ u_ws Cn T N, w ∈ gtbl) (hty : ∀ k, k < N → parseFieldDescriptor (T k).2.2.1 = some (ty0 k)) (hnm : ∀ a, a < N → ∀ b, b < N → a ≠ b → (T a).2.1 ≠ (T b).2.1) (hk : k < N) (hl : Cond.fieldLinkNest own index ref (T k).2.1 (T k).2.2.1 host ∈ lw_tbl) (hr : (T k).1 = ref) (hfin : (T k).2.2.2 = false) (hd : ty0 k = ty) (hn : narrow ty v = v) (hfit : fits ty v = true) (hlen : k < fs.length) (hdg : decode cc pc = .ok (.putfield index, 3))
    (kk : ∀ (H1 : Heap) (locs1 : List Loc), va_at G.1 vwCl (a, .inr (ci, fs.set k v)) H1 → (∀ q, q ≠ a → H1[q]? = H[q]?) → H1.size = H.size → va_S A H0 H1 locs1 → W p l e R s m args below meth c H1 locs1 cells slots Q (F0 m (pc + 3) ls rest)) : W p l e R s m args below meth c H locs cells slots Q (F0 m pc ls (v :: .ref a :: rest)) := by
  subst hr
  have hK := C.hK.1
  have hap := va_apart (own := own) C.hT hu ty0 hty hnm hK hc
  obtain ⟨r, h1, cell, q1, q2, q3, q4⟩ := h
  have hr : r = (Cn, T, N) := Option.some.inj (h1.symm.trans hc)
  subst hr
  obtain ⟨hSl, hfc, kC, hkC, hkind⟩ := hK.1 ci _ hc
  obtain ⟨cf, kf, fi, f, hi, hsl⟩ := hSl k hk
  have hlay := C.hT _ (hu _ (u_in_lay hk))
  unfold u_lay at hlay
  rw [if_neg (by rw [hfin]; decide)] at hlay
  have hst := (u_facts hfc hkC (u_lays C.hT hu hk) hi).1
  have h6 := u_store hfc hkC hkind hlay hi ((hty k hk).trans (congrArg some hd)) hn hfit
  refine va_WputK C.hx C.hb (f := f) C.hown (C.nw hl rfl) hi hst (by rw [q2]; exact h6) q1 q3 (by rw [hsl]; exact k2_hasslot (q4 k hk)) rfl rfl hdg fun H' e1 e2 e3 => ?_
  rw [hsl] at e1 ⊢
  exact kk H' _ ⟨_, hc, t_OB.to (V := updV (vp_V fs) k v) ⟨_, e1, q2, q3, t_set q4 hap hk v⟩ (fun j _ => vp_updV_set hlen v j)⟩ e3 e2 (hS.put e2 e3 ha)
theorem g_putF {a ci k index N : Nat} {fs : List Value} {Cn : String} {T : u_T} {v : Value} {ty : FieldType} (ty0 : Nat → FieldType) (C : CX G p s m args meth c own cc nL) (hS : va_S A H0 H locs) (h : va_at G.1 vwCl (a, .inr (ci, fs)) H) (ha : A a) (hc : vwCl[ci]? = some (Cn, T, N)) (hu : ∀ w ∈ u_ws Cn T N, w ∈ gtbl) (hty : ∀ k, k < N → parseFieldDescriptor (T k).2.2.1 = some (ty0 k)) (hnm : ∀ a, a < N → ∀ b, b < N → a ≠ b → (T a).2.1 ≠ (T b).2.1) (hk : k < N) (hl : Cond.fieldLink own index own (T k).2.1 (T k).2.2.1 ∈ gtbl) (hr : (T k).1 = own) (hfin : (T k).2.2.2 = true) (hin2 : meth.name = "<init>") (hd : ty0 k = ty) (hn : narrow ty v = v) (hfit : fits ty v = true) (hlen : k < fs.length) (hdg : decode cc pc = .ok (.putfield index, 3))
    (kk : ∀ (H1 : Heap) (locs1 : List Loc), va_at G.1 vwCl (a, .inr (ci, fs.set k v)) H1 → (∀ q, q ≠ a → H1[q]? = H[q]?) → H1.size = H.size → va_S A H0 H1 locs1 → W p l e R s m args below meth c H1 locs1 cells slots Q (F0 m (pc + 3) ls rest)) : W p l e R s m args below meth c H locs cells slots Q (F0 m pc ls (v :: .ref a :: rest)) := by
  have hK := C.hK.1
  have hap := va_apart (own := own) C.hT hu ty0 hty hnm hK hc
  obtain ⟨r, h1, cell, q1, q2, q3, q4⟩ := h
  have hr2 : r = (Cn, T, N) := Option.some.inj (h1.symm.trans hc)
  subst hr2
  obtain ⟨hSl, hfc, kC, hkC, hkind⟩ := hK.1 ci _ hc
  obtain ⟨cf, kf, fi, f, hi, hsl⟩ := hSl k hk
  have hlay := C.hT _ (hu _ (u_in_lay hk))
  unfold u_lay at hlay
  rw [if_pos hfin] at hlay
  have hst := (u_facts hfc hkC (u_lays C.hT hu hk) hi).1
  have hcf : m.cls = cf := by
    obtain ⟨_, _, c', _, _, _, -, -, hf', -, -, -, hown2, -⟩ := Cond.laysFinal_spec hlay
    have e1 : c' = cf := by have := hi.symm.trans hf'; simp at this; exact this.1.symm
    rw [hr] at hown2
    rw [← e1]; exact Option.some.inj (C.hown.symm.trans hown2)
  have h6 := u_fits hfc hkC hkind (Or.inr hlay) hi ((hty k hk).trans (congrArg some hd)) hn hfit
  refine W.putFinK C.hx C.hb C.hown (C.hT _ hl) (by rw [hr] at hi; exact hi) hst hcf hin2 (by rw [q2]; exact h6) q1 q3 (by rw [hsl]; exact k2_hasslot (q4 k hk)) rfl rfl hdg fun H' e1 e2 e3 => ?_
  rw [hsl] at e1 ⊢
  exact kk H' _ ⟨_, hc, t_OB.to (V := updV (vp_V fs) k v) ⟨_, e1, q2, q3, t_set q4 hap hk v⟩ (fun j _ => vp_updV_set hlen v j)⟩ e3 e2 (hS.put e2 e3 ha)
end BW
