/-! THE START -/
theorem rel0 : Rel x02 (fun _ => 0) cx0 cy0 (fun _ => 0) 0 := by
  have nv : ∀ {a : Nat}, a < cy0 20 0 → False := fun h => absurd h (Nat.not_lt_zero _)
  have v0 : nV x02 = 0 := by decide +kernel
  refine ⟨rfl, ⟨?_, ?_, ?_, ?_, ?_, ?_⟩, ⟨?_, fun p hp => absurd hp (Nat.not_lt_zero p), fun p q _ hq => absurd hq (Nat.not_lt_zero q)⟩, ⟨?_, fun c hc => absurd hc (Nat.not_lt_zero c)⟩, fun c hc => absurd hc (Nat.not_lt_zero c), ⟨?_, fun g hg => absurd hg (Nat.not_lt_zero g), fun g g' hg => absurd hg (Nat.not_lt_zero g), fun c hc => absurd hc (Nat.not_lt_zero c), fun j _ => ⟨rfl, Nat.zero_le _⟩⟩, ⟨?_, by rw [v0]; exact Nat.le_refl 0, fun v hv => absurd (v0 ▸ hv) (Nat.not_lt_zero v), fun v v' hv => absurd (v0 ▸ hv) (Nat.not_lt_zero v), fun g v hg => absurd hg (Nat.not_lt_zero g), fun j _ => by rw [v0]; rfl⟩, fun c t hc => absurd hc (Nat.not_lt_zero c), fun c hc => absurd hc (Nat.not_lt_zero c), ⟨fun c hc => absurd hc (Nat.not_lt_zero c), fun c hc => absurd hc (Nat.not_lt_zero c), fun c hc => absurd hc (Nat.not_lt_zero c), Nat.zero_le _, Nat.zero_le _, Nat.zero_le _, fun l _ => ⟨Nat.le_refl 0, Nat.zero_le _⟩⟩, ⟨fun p hp => absurd hp (Nat.not_lt_zero p), fun c hc => absurd hc (Nat.not_lt_zero c)⟩, fun p hp => absurd hp (Nat.not_lt_zero p), by decide⟩
  · decide +kernel
  · decide +kernel
  · decide +kernel
  · decide +kernel
  · decide +kernel
  · decide +kernel
  · decide +kernel
  · decide +kernel
  · decide +kernel
  · rw [v0]; decide +kernel
theorem arr_p {s : State} {args : Array Value} {ty : FieldType} (h : (Cond.arrayClass ty).before args s = true) : ∃ c : ClassId, ArrOfT s c ty ∧ s.vm.findClass ("[" ++ ty.toString) = some c := by
  obtain ⟨c, k, comp, h1, h2, h3⟩ := Cond.arrayClass_spec h
  exact ⟨c, fun N z => ⟨(fun k h => by cases h), k, h2, comp, h3⟩, h1⟩
theorem arr_o {s : State} {args : Array Value} {C : String} (h : (Cond.arrayOver (.object C)).before args s = true) : ∃ c : ClassId, ArrOfT s c (.object C) ∧ va_RA s c (.object C) := by
  obtain ⟨comp, c, k, h1, h2, h3, h4, h5⟩ := Cond.arrayOver_spec h
  exact ⟨c, fun N z => ⟨(fun k h => by cases h), k, h3, comp, h4⟩, k, comp, h3, h4, h1, h5⟩
theorem len_lt {args : Array Value} {s : State} {t : Term} {v : Value} {a : Addr} {cell : Cell} (h : (Term.length t).eval args s none [] s = some v) (ht : t.eval args s none [] s = some (.ref a)) (ha : s.arrayAt? a = some cell) : cell.slots.size < 2 ^ 31 := by
  simp only [Term.eval, ht, ha, Option.bind_eq_bind, Option.bind_some] at h
  by_cases hlt : cell.slots.size < 2147483648
  · exact hlt
  · simp [hlt] at h
/-- what the start gives: where the classes, the arrays' classes and the empty array lie -/
theorem start_G {s : State} {b : Nat} (hts : ∀ w ∈ lw_tbl, w.before #[Value.ref b] s = true) (hgv : (Jvm.Cond.and given_1 narrow_1).before #[Value.ref b] s = true) : ∃ G : GG, KK G s ∧ DZ G s.heap := by
  have hs := flat_of_before _ hgv
  have hg : ∀ w ∈ gtbl, w.before #[Value.ref b] s = true := fun w h => hts w (gt_tbl h)
  obtain ⟨c0, i0, k0⟩ := u_known (C := RJx4a65c) (T := TJx4a65c) (N := 3) (n := 3) hg wu_Jx4a65c (hg _ wi_Jx4a65c)
  obtain ⟨c1, i1, k1⟩ := u_known (C := RX0) (T := TX0) (N := 12) (n := 12) hg wu_X0 (hg _ wi_X0)
  obtain ⟨c2, i2, k2⟩ := u_known (C := RX1) (T := TX1) (N := 2) (n := 2) hg wu_X1 (hg _ wi_X1)
  obtain ⟨c3, i3, k3⟩ := u_known (C := RX2) (T := TX2) (N := 7) (n := 7) hg wu_X2 (hg _ wi_X2)
  obtain ⟨c4, i4, k4⟩ := u_known (C := RX3) (T := TX3) (N := 8) (n := 8) hg wu_X3 (hg _ wi_X3)
  obtain ⟨c5, i5, k5⟩ := u_known (C := RX4) (T := TX4) (N := 8) (n := 8) hg wu_X4 (hg _ wi_X4)
  obtain ⟨c6, i6, k6⟩ := u_known (C := RX5) (T := TX5) (N := 7) (n := 7) hg wu_X5 (hg _ wi_X5)
  obtain ⟨c7, i7, k7⟩ := u_known (C := RX6) (T := TX6) (N := 4) (n := 4) hg wu_X6 (hg _ wi_X6)
  obtain ⟨c8, i8, k8⟩ := u_known (C := RX7) (T := TX7) (N := 10) (n := 10) hg wu_X7 (hg _ wi_X7)
  obtain ⟨c9, i9, k9⟩ := u_known (C := RX8) (T := TX8) (N := 47) (n := 47) hg wu_X8 (hg _ wi_X8)
  obtain ⟨dC, dI, hKc⟩ : ∃ (dC : Nat → ClassId) (dI : Nat → Nat → Nat), ∀ (k : Nat) (q : vw_C), vwCl[k]? = some q → u_Kn s q.1 q.2.1 q.2.2 (dC k) (dI k) := by
    refine ⟨fun k => if k = 0 then c0 else if k = 1 then c1 else if k = 2 then c2 else if k = 3 then c3 else if k = 4 then c4 else if k = 5 then c5 else if k = 6 then c6 else if k = 7 then c7 else if k = 8 then c8 else c9, fun k => if k = 0 then i0 else if k = 1 then i1 else if k = 2 then i2 else if k = 3 then i3 else if k = 4 then i4 else if k = 5 then i5 else if k = 6 then i6 else if k = 7 then i7 else if k = 8 then i8 else i9, ?_⟩
    intro k q hq
    match k, hq with
    | 0, hq => cases hq; exact k0
    | 1, hq => cases hq; exact k1
    | 2, hq => cases hq; exact k2
    | 3, hq => cases hq; exact k3
    | 4, hq => cases hq; exact k4
    | 5, hq => cases hq; exact k5
    | 6, hq => cases hq; exact k6
    | 7, hq => cases hq; exact k7
    | 8, hq => cases hq; exact k8
    | 9, hq => cases hq; exact k9
    | k + 10, hq => simp [vwCl] at hq
  obtain ⟨t0, a0, r0⟩ := arr_p (ty := .int) (hts _ (by decide +kernel))
  obtain ⟨t1, a1, r1⟩ := arr_p (ty := .long) (hts _ (by decide +kernel))
  obtain ⟨t2, a2, r2⟩ := arr_p (ty := .boolean) (hts _ (by decide +kernel))
  obtain ⟨t3, a3, r3⟩ := arr_o (C := "ModeratorsBench$Rule") (hts _ (by decide +kernel))
  obtain ⟨t4, a4, r4⟩ := arr_o (C := "ModeratorsBench$Judge") (hts _ (by decide +kernel))
  obtain ⟨t5, a5, r5⟩ := arr_o (C := "java/lang/Object") (hts _ (by decide +kernel))
  obtain ⟨mi, hmi⟩ := va_Mi.of (C := "[Ljava/lang/Object;") (hs (Cond.isRef (.mirror "[Ljava/lang/Object;")) (by decide +kernel))
  obtain ⟨t, ct, cell, kt, e1, e2, e3, e4, e5, e6, -⟩ := Cond.exactly_spec (hs (Cond.exactly (.static "java/util/ArrayList" "DEFAULTCAPACITY_EMPTY_ELEMENTDATA" "[Ljava/lang/Object;") "[Ljava/lang/Object;") (by decide +kernel))
  have hlen := va_eqt (hs (Cond.eq (.length (.static "java/util/ArrayList" "DEFAULTCAPACITY_EMPTY_ELEMENTDATA" "[Ljava/lang/Object;")) (.int 0)) (by decide +kernel))
  obtain ⟨cf, kf, fi, f, a, sc, z1, z2, z3, z4, z5, z6, z7, -⟩ := va_Zof (A := fun _ => False) (hts (Cond.laysStatic "java/util/ArrayList" "DEFAULTCAPACITY_EMPTY_ELEMENTDATA" "[Ljava/lang/Object;") (by decide +kernel)) (hts (Cond.initialized "java/util/ArrayList") (by decide +kernel)) e1 (fun _ _ h => h)
  have hsz : cell.slots.size = 0 := by
    obtain ⟨t', cell', f1, f2, f3⟩ := Term.length_spec hlen
    cases e1.symm.trans f1
    obtain ⟨g1, -⟩ := State.arrayAt?_spec f2
    cases e3.symm.trans g1
    have hlt : cell.slots.size < 2 ^ 31 := len_lt hlen f1 f2
    have h0 : (0 : Int32) = cell.slots.size.toInt32 := Value.int.inj f3
    have h1 : nI 0 = nI cell.slots.size := h0
    exact ((nI_eq (by decide) hlt).mp h1).symm
  have hcls : cell.cls = t5 := by
    have := va_nmO r5 (nm := "[Ljava/lang/Object;") rfl
    rw [e2] at this
    rw [e6]; exact Option.some.inj this
  let g2 : Nat → ClassId := fun k => if k = 0 then t0 else if k = 1 then t1 else if k = 2 then t2 else if k = 3 then t3 else if k = 4 then t4 else if k = 5 then t5 else if k = 6 then a else if k = 7 then f.slot else if k = 8 then t else mi
  refine ⟨((dC, dI), g2), ⟨⟨hKc, fun k q hq => ?_⟩, fun w hw hk => ?_, fun C T hm => ?_, fun C hm => hts _ hm, ⟨cf, kf, fi, f, z1, z2, z3, z4, rfl⟩, hmi, va_Dc.of (hts _ (by decide +kernel))⟩, ⟨sc, z5, z6, z7⟩, cell, e3, hcls, hsz, fun k hk => ?_⟩
  · match k, hq with
    | 0, hq => cases hq; exact ⟨a0, r0⟩
    | 1, hq => cases hq; exact ⟨a1, r1⟩
    | 2, hq => cases hq; exact ⟨a2, r2⟩
    | 3, hq => cases hq; exact ⟨a3, r3⟩
    | 4, hq => cases hq; exact ⟨a4, r4⟩
    | 5, hq => cases hq; exact ⟨a5, r5⟩
    | k + 6, hq => simp [tysG] at hq
  · have hk2 := hk
    simp only [Bool.and_eq_true] at hk2
    exact va_tabs hk2.1 rfl (hts w hw)
  · exact va_tabs rfl rfl (hts _ hm)
  · rw [hk] at e5; cases e5
