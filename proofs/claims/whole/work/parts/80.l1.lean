/-! THE CLAIM OUT OF ONE WALK OF THE LAW'S BODY. Your part is whole_start (and what it stands on); all else here is the same for every law, but numbers. -/
def R_law : String := "ModeratorsBenchLaw"
def lw_P (b : Addr) (xs : List Int32) (args : Array Value) (s : State) : Prop := args = #[.ref b] ∧ s.IntsAt b xs ∧ xs.length ≤ 2560 ∧ (Jvm.Cond.and given_1 narrow_1).before args s = true
def lw_Q (_ : Array Value) (s : State) (o : Outcome) (t : State) : Prop := o = .returned (some (.int 1)) ∧ Framed s o t [] 600000 7302250
def lw_Z (below : List Frame) (a : Array Value) (s : State) : State → Prop := fun t => ∃ o, t.status = .running ∧ Ended t below o ∧ lw_Q a s o t
/-- the law's own end, with 1 on the stack, nothing written that was there before, its room as the claim has it -/
theorem lw_ret {p : Program} {l : Launch} {e : Env} {s : State} {m : MethodId} {below : List Frame} {meth : Method} {c : Code} {b : Nat} (hx : p.tables.exec = Jvm.exec) (hb : c.code = code) (hr : meth.sig.returnType = ret) (hlocks : meth.locks = false) {pc : Nat} {H : Heap} {ls : Array Slot} (hdg : decode code pc = .ok (.ireturn, 1)) : W p l e room_1 s m #[Value.ref b] below meth c H [] 600000 7302250 (lw_Z below #[Value.ref b] s) (F0 m pc ls [.int 1]) := by
  intro T hT X
  obtain ⟨fs, hret, hrun, hended, hW, hframe⟩ := X.leave (v := some (.int 1)) (hlocks := hlocks) (fun h => by rw [hr] at h; cases h)
  have hmeth' : T.vm.method? m = some meth := X.method'
  refine ⟨T.setFrames fs, ?_, .returned (some (.int 1)), hrun, hended, rfl, ⟨_, rfl⟩, hW, hframe⟩
  jvm_step X.here [X.here.top, hx, hb, hdg, hmeth', hr, ret, narrow_b1]
  (try refine ⟨rfl, ?_⟩); (try refine ⟨rfl, ?_⟩)
  first | (intro acts; rw [hret _ acts rfl rfl rfl]) | rw [hret _ _ rfl rfl rfl]
  exact Steps.refl _
/-- what holds at the law's entry: the machine, the code, the tables' words (any of lw_tbl by 'hts w (by decide +kernel)'), the script of L ints xs at the cell b, what the Statement gives of the start (any of its parts by flat_of_before) -/
def lw_At (p : Program) (s : State) (m : MethodId) (meth : Method) (c : Code) (b L : Nat) (xs : Nat → Int32) : Prop :=
  p.tables.exec = Jvm.exec ∧ c.code = code ∧ meth.sig.returnType = ret ∧ c.maxLocals = 4 ∧ s.vm.findClass R_law = some m.cls ∧ (∀ w ∈ lw_tbl, w.before #[Value.ref b] s = true) ∧ va_X b L xs s s.heap ∧ b < s.heap.size ∧ meth.locks = false ∧ (Jvm.Cond.and given_1 narrow_1).before #[Value.ref b] s = true
/-! THE LAW'S LOOP -/
section LW
/-- the cells that the law makes -/
def NA (s : State) : Nat → Prop := fun q => s.heap.size ≤ q
def IV (G : GG) (A : Nat → Prop) (a0 m0 n : Nat) (H : Heap) : Prop := ∃ (ad : YY) (x : XX) (y : YY) (z : Nat → Int64) (mm : XX) (w : Nat → Int64), ad 0 0 = a0 ∧ CWd G A ad x y z H ∧ MWd G m0 mm w H ∧ Rel mm w x y z n ∧ m0 + 38 ≤ H.size
def lls (b a0 m0 n : Nat) : List (Nat × Value) := [(3, .int (nI (5 * n))), (1, .ref a0), (2, .ref m0), (0, .ref b)]
def LC (G : GG) (p : Program) (s : State) (m : MethodId) (meth : Method) (c : Code) (b L : Nat) (xs : Nat → Int32) (A : Nat → Prop) (m0 : Nat) : Prop := CX G p s m #[Value.ref b] meth c RL cL_law 4 ∧ va_X b L xs s s.heap ∧ b < s.heap.size ∧ L ≤ 2560 ∧ (∀ q, A q → s.heap.size ≤ q) ∧ (∀ q, MA m0 q → ¬ A q) ∧ (∀ r, m0 + 38 ≤ r → A r) ∧ s.heap.size ≤ m0 ∧ @LT.lt Nat _ (G.2 6) m0 ∧ @LT.lt Nat _ (G.2 8) m0
variable {p : Program} {l : Launch} {e : Env} {s : State} {m : MethodId} {below : List Frame} {meth : Method} {c : Code} {b L a0 m0 n : Nat} {xs : Nat → Int32} {A : Nat → Prop} {G : GG} {H : Heap} {locs : List Loc} {ls : Array Slot}
theorem LC.C (h : LC G p s m meth c b L xs A m0) : CX G p s m #[Value.ref b] meth c RL cL_law 4 := h.1
theorem LC.hX (h : LC G p s m meth c b L xs A m0) : va_X b L xs s s.heap := h.2.1
theorem LC.hbl (h : LC G p s m meth c b L xs A m0) : b < s.heap.size := h.2.2.1
theorem LC.hL (h : LC G p s m meth c b L xs A m0) : L ≤ 2560 := h.2.2.2.1
theorem LC.a1 (h : LC G p s m meth c b L xs A m0) : ∀ q, A q → s.heap.size ≤ q := h.2.2.2.2.1
theorem LC.a2 (h : LC G p s m meth c b L xs A m0) : ∀ q, MA m0 q → ¬ A q := h.2.2.2.2.2.1
theorem LC.a3 (h : LC G p s m meth c b L xs A m0) : ∀ r, m0 + 38 ≤ r → A r := h.2.2.2.2.2.2.1
theorem LC.m1 (h : LC G p s m meth c b L xs A m0) : s.heap.size ≤ m0 := h.2.2.2.2.2.2.2.1
theorem LC.nm (h : LC G p s m meth c b L xs A m0) {q : Nat} (k : A q ∨ q = G.2 6 ∨ q = G.2 8) : ¬ MA m0 q := fun hq => by
  rcases k with k | k | k
  · exact h.a2 q hq k
  · have h1 := hq.1; have h2 : @LT.lt Nat _ (G.2 6) m0 := h.2.2.2.2.2.2.2.2.1; subst k; exact absurd h1 (Nat.not_le.mpr h2)
  · have h1 := hq.1; have h2 : @LT.lt Nat _ (G.2 8) m0 := h.2.2.2.2.2.2.2.2.2; subst k; exact absurd h1 (Nat.not_le.mpr h2)
theorem la_ld {R : Room} {Q : State → Prop} {cells slots pc k : Nat} {v : Int} {rest : List Value} {a0 m0 : Nat} (I : LC G p s m meth c b L xs A m0) (hn : 5 * n + 5 ≤ L) (hl : lv_has ls 4 (lls b a0 m0 n)) (hS : va_S (NA s) s.heap H locs) (d0 : decode cL_law pc = .ok (.aload_n 0, 1)) (d1 : decode cL_law (pc + 1) = .ok (.iload_n 3, 1)) (d2 : decode cL_law (pc + 2) = .ok (.iconst v, 1)) (d3 : decode cL_law (pc + 3) = .ok (.iadd, 1)) (d4 : decode cL_law (pc + 4) = .ok (.iaload, 1)) (hk : k < 5) (hv : Int32.ofInt v = nI k)
    (kk : W p l e R s m #[Value.ref b] below meth c H locs cells slots Q (F0 m (pc + 5) ls (.int (xs (5 * n + k)) :: rest))) : W p l e R s m #[Value.ref b] below meth c H locs cells slots Q (F0 m pc ls rest) := by
  have C := I.C; have hb := I.hL
  refine lv_aload_n C.hx C.hb d0 rfl (lv_at hl 3 rfl) ?_
  refine lv_iload_n C.hx C.hb d1 rfl (lv_at hl 0 rfl) ?_
  refine lv_iconst C.hx C.hb d2 hv ?_
  refine lv_iadd C.hx C.hb d3 ?_
  rw [nI_addE rfl rfl]
  refine va_sld (A := NA s) C.hx C.hb I.hX I.hbl (Nat.not_le.mpr I.hbl) hS (vp_in_nI (by omega) (by omega)) d4 ?_
  rw [show (nI (5 * n + k)).toNatClampNeg = 5 * n + k from nI_clamp (by omega)]
  exact kk
end LW
