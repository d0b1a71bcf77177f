/-- what add leaves: the list with one element more, in the old array or in a new one at sz -/
def addP (G : GG) (a q ed n cap sz : Nat) (mc : Int32) (f : Nat → Option Nat) (H : Heap) : Prop := ∃ ed' cap' : Nat, va_at G.1 vwCl (a, lob mc ed' (n + 1)) H ∧ va_at G.1 vwCl (ed', .inl (G.2 5, qs cap' (va_up f n (some q)))) H ∧ n < cap' ∧ cap' ≤ 600 ∧ ((0 < cap ∧ ed' = ed ∧ cap' = cap ∧ H.size = sz) ∨ (ed' = sz ∧ H.size = sz + 1))
def addA (a ed cap sz : Nat) : Nat → Prop := fun r => r = a ∨ (0 < cap ∧ r = ed) ∨ sz ≤ r
theorem cpy_none {f : Nat → Option Nat} {cap : Nat} (h : ∀ j, cap ≤ j → f j = none) : va_cpy f (fun _ => none) 0 0 cap = f := by
  funext j
  by_cases hj : j < cap
  · rw [pk_cpy_in (by omega) (by omega)]; congr 1; omega
  · rw [pk_cpy_out (by omega)]; exact (h j (by omega)).symm
theorem asgO {G : GG} {p : Program} {s : State} {m : MethodId} {args : Array Value} {meth : Method} {c : Code} {own : String} {cc : ByteArray} {nL ci : Nat} {r : vw_C} (C : CX G p s m args meth c own cc nL) (hok : OKc ci) (hc : vwCl[ci]? = some r) : ∀ cv comp : ClassId, s.vm.findClass r.1 = some cv → s.vm.findClass "java/lang/Object" = some comp → s.vm.assignable cv comp = true := by
  obtain ⟨r2, h1, h2⟩ := hok
  cases hc.symm.trans h1
  exact asg_obj C h2
set_option maxRecDepth 100000 in
set_option maxHeartbeats 400000 in
theorem cJ_add3A (l : Launch) (G : GG) (a q ed n cap sz ci : Nat) (mc : Int32) (f : Nat → Option Nat) (hok : OKc ci) (hc0 : 0 < cap) (hlt : n < cap) (hea : ed ≠ a) (hqa : q ≠ a) (hqe : q ≠ ed) (hfn : ∀ j, n ≤ j → f j = none) (hcp : cap ≤ 600 ∧ (n = cap → cap ≤ 400)) : MW l G yJx4a65c_add_72be8 cJx4a65c_add_72be8 4 none 5 [.ref a, .ref q, .ref ed, .int (nI n)] (fun H => va_at G.1 vwCl (a, lob mc ed n) H ∧ (0 < cap → va_at G.1 vwCl (ed, .inl (G.2 5, qs cap f)) H) ∧ els G ci n f H ∧ (∃ fs, va_at G.1 vwCl (q, .inr (ci, fs)) H) ∧ DZ G H ∧ H.size = sz) none (addP G a q ed n cap sz mc f) (addA a ed cap sz) 1 600 := by
  refine MW.of RJx4a65c rfl (by decide) (Nat.le_of_ble_eq_true rfl) ?_
  intro p_ e_ s_ m_ args_ below_ meth_ c_ ls hargs C hr hnm hP hS hl
  have hl : lv_has ls 4 [(0, .ref a), (1, .ref q), (2, .ref ed), (3, .int (nI n))] := hl
  obtain ⟨hA, hB, hE, ⟨fq, hQ⟩, hZ, hsz⟩ := hP
  obtain ⟨rq, hrq, -⟩ := id hok
  have ha : a < sz := by rw [← hsz]; exact hA.lt
  have hq : q < sz := by rw [← hsz]; exact hQ.lt
  have hN := hB hc0
  obtain ⟨hcp, -⟩ := hcp
  refine lv_iload_n C.hx C.hb dJx4a65c_add_72be8_0 rfl (lv_at hl 3 rfl) ?_
  refine lv_aload_n C.hx C.hb dJx4a65c_add_72be8_1 rfl (lv_at hl 2 rfl) ?_
  refine g_alen (t := 0) C hN 5 rfl dJx4a65c_add_72be8_2 ?_
  refine W.eq (g2 := F0 m_ 3 ls [.int (nI cap), .int (nI n)]) rfl ?_
  refine lv_icmp_ne (tgt := 11) C.hx C.hb dJx4a65c_add_72be8_3 (by decide) (fun c1 => ?_) (fun c1 => ?_)
  · refine lv_aload_n C.hx C.hb dJx4a65c_add_72be8_11 rfl (lv_at hl 2 rfl) ?_
    refine lv_iload_n C.hx C.hb dJx4a65c_add_72be8_12 rfl (lv_at hl 3 rfl) ?_
    refine lv_aload_n C.hx C.hb dJx4a65c_add_72be8_13 rfl (lv_at hl 1 rfl) ?_
    refine g_aast (t0 := 5) C hS hN (Or.inr (Or.inl ⟨hc0, rfl⟩)) rfl hQ hrq (asgO C hok hrq) rfl hlt (by omega) dJx4a65c_add_72be8_14 (fun H locs hN o4 z4 hS => ?_)
    have hA := hA.kept (o4 _ (Ne.symm hea))
    refine lv_aload_n C.hx C.hb dJx4a65c_add_72be8_15 rfl (lv_at hl 0 rfl) ?_
    refine lv_iload_n C.hx C.hb dJx4a65c_add_72be8_16 rfl (lv_at hl 3 rfl) ?_
    refine lv_iconst (v := 1) C.hx C.hb dJx4a65c_add_72be8_17 (by decide) ?_
    refine lv_iadd C.hx C.hb dJx4a65c_add_72be8_18 ?_
    rw [nI_1]
    refine g_put (k := 2) tyJx4a65c C hS hA (Or.inl rfl) rfl wu_Jx4a65c tyJx4a65c_ok nmJx4a65c (by decide) wf_Jx4a65c_48 rfl rfl rfl rfl rfl (Nat.le_of_ble_eq_true rfl) dJx4a65c_add_72be8_19 (fun H locs hA o3 z3 hS => ?_)
    have hN := hN.kept (o3 _ hea)
    refine W.widen (k := 1) (n := 600) (by omega) (by omega) ?_
    exact wV C hr dJx4a65c_add_72be8_22 hS ⟨ed, cap, hA, hN, hlt, by omega, Or.inl ⟨hc0, rfl, rfl, by rw [z3, z4, hsz]⟩⟩
  · exact absurd c1 (fun z => absurd ((nI_eq (by omega) (by omega)).mp z) (by omega))
set_option maxRecDepth 100000 in
set_option maxHeartbeats 400000 in
theorem cJ_add3B (l : Launch) (G : GG) (a q ed n cap sz ci : Nat) (mc : Int32) (f : Nat → Option Nat) (hok : OKc ci) (hc0 : 0 < cap) (hlt : n = cap) (hea : ed ≠ a) (hqa : q ≠ a) (hqe : q ≠ ed) (hfn : ∀ j, n ≤ j → f j = none) (hcp : cap ≤ 600 ∧ (n = cap → cap ≤ 400)) : MW l G yJx4a65c_add_72be8 cJx4a65c_add_72be8 4 none 5 [.ref a, .ref q, .ref ed, .int (nI n)] (fun H => va_at G.1 vwCl (a, lob mc ed n) H ∧ (0 < cap → va_at G.1 vwCl (ed, .inl (G.2 5, qs cap f)) H) ∧ els G ci n f H ∧ (∃ fs, va_at G.1 vwCl (q, .inr (ci, fs)) H) ∧ DZ G H ∧ H.size = sz) none (addP G a q ed n cap sz mc f) (addA a ed cap sz) 1 600 := by
  refine MW.of RJx4a65c rfl (by decide) (Nat.le_of_ble_eq_true rfl) ?_
  intro p_ e_ s_ m_ args_ below_ meth_ c_ ls hargs C hr hnm hP hS hl
  have hl : lv_has ls 4 [(0, .ref a), (1, .ref q), (2, .ref ed), (3, .int (nI n))] := hl
  subst hlt
  have hcp := hcp.2 rfl
  obtain ⟨hA, hB, hE, ⟨fq, hQ⟩, hZ, hsz⟩ := hP
  obtain ⟨rq, hrq, -⟩ := id hok
  have ha : a < sz := by rw [← hsz]; exact hA.lt
  have hq : q < sz := by rw [← hsz]; exact hQ.lt
  have g1 := gl_lt n
  have g2 := gl_le hcp
  have hes : ed < sz := by rw [← hsz]; exact (hB hc0).lt
  refine lv_iload_n C.hx C.hb dJx4a65c_add_72be8_0 rfl (lv_at hl 3 rfl) ?_
  refine lv_aload_n C.hx C.hb dJx4a65c_add_72be8_1 rfl (lv_at hl 2 rfl) ?_
  refine g_alen (t := 0) C (hB hc0) 5 rfl dJx4a65c_add_72be8_2 ?_
  refine W.eq (g2 := F0 m_ 3 ls [.int (nI n), .int (nI n)]) rfl ?_
  refine lv_icmp_ne (tgt := 11) C.hx C.hb dJx4a65c_add_72be8_3 (by decide) (fun c1 => ?_) (fun c1 => ?_)
  · exact absurd rfl c1
  · refine lv_aload_n C.hx C.hb dJx4a65c_add_72be8_6 rfl (lv_at hl 0 rfl) ?_
    refine kVW (As := []) (rest := []) (v := .ref sz) C (cJ_growB0 l G a ed n sz ci mc f hok hc0 hcp) lk_Jx4a65c_129 (g_recv C hA rfl) ⟨hA, hB hc0, hE, hsz⟩ rfl rfl hl (Nat.le_of_ble_eq_true rfl) dJx4a65c_add_72be8_7 ⟨⟨by decide, by decide⟩, by decide, by decide⟩ hS (fun q h => h.elim Or.inl (fun z => Or.inr (Or.inr z))) (fun H locs hPq hz1 hk1 hS => ?_)
    obtain ⟨hA, hN, hs2⟩ := id hPq
    have hQ := hQ.kept (hk1 _ (by rw [hsz]; exact hq) (by omega))
    refine lv_astore_n (lv' := [(2, .ref sz), (0, .ref a), (1, .ref q), (3, .int (nI n))]) C.hx C.hb dJx4a65c_add_72be8_10 rfl hl (by decide) rfl (fun ls hl => ?_)
    refine lv_aload_n C.hx C.hb dJx4a65c_add_72be8_11 rfl (lv_at hl 0 rfl) ?_
    refine lv_iload_n C.hx C.hb dJx4a65c_add_72be8_12 rfl (lv_at hl 3 rfl) ?_
    refine lv_aload_n C.hx C.hb dJx4a65c_add_72be8_13 rfl (lv_at hl 2 rfl) ?_
    refine g_aast (t0 := 5) C hS hN (Or.inr (Or.inr (Nat.le_refl _))) rfl hQ hrq (asgO C hok hrq) rfl g1 (by omega) dJx4a65c_add_72be8_14 (fun H locs hN o4 z4 hS => ?_)
    have hA := hA.kept (o4 _ (by omega))
    refine lv_aload_n C.hx C.hb dJx4a65c_add_72be8_15 rfl (lv_at hl 1 rfl) ?_
    refine lv_iload_n C.hx C.hb dJx4a65c_add_72be8_16 rfl (lv_at hl 3 rfl) ?_
    refine lv_iconst (v := 1) C.hx C.hb dJx4a65c_add_72be8_17 (by decide) ?_
    refine lv_iadd C.hx C.hb dJx4a65c_add_72be8_18 ?_
    rw [nI_1]
    refine g_put (k := 2) tyJx4a65c C hS hA (Or.inl rfl) rfl wu_Jx4a65c tyJx4a65c_ok nmJx4a65c (by decide) wf_Jx4a65c_48 rfl rfl rfl rfl rfl (Nat.le_of_ble_eq_true rfl) dJx4a65c_add_72be8_19 (fun H locs hA o3 z3 hS => ?_)
    have hN := hN.kept (o3 _ (by omega))
    exact wV C hr dJx4a65c_add_72be8_22 hS ⟨sz, gl n, hA, by have h9 := hN; rw [cpy_none hfn] at h9; exact h9, by omega, g2, Or.inr ⟨rfl, by rw [z3, z4]; exact hPq.2.2⟩⟩
set_option maxRecDepth 100000 in
set_option maxHeartbeats 400000 in
theorem cJ_add3C (l : Launch) (G : GG) (a q sz ci : Nat) (mc : Int32) (f : Nat → Option Nat) (hok : OKc ci) (hqa : q ≠ a) (hfn : ∀ j, 0 ≤ j → f j = none) : MW l G yJx4a65c_add_72be8 cJx4a65c_add_72be8 4 none 5 [.ref a, .ref q, .ref (G.2 8), .int (nI 0)] (fun H => va_at G.1 vwCl (a, lob mc (G.2 8) 0) H ∧ (0 < 0 → va_at G.1 vwCl (G.2 8, .inl (G.2 5, qs 0 f)) H) ∧ els G ci 0 f H ∧ (∃ fs, va_at G.1 vwCl (q, .inr (ci, fs)) H) ∧ DZ G H ∧ H.size = sz) none (addP G a q (G.2 8) 0 0 sz mc f) (addA a (G.2 8) 0 sz) 1 600 := by
  refine MW.of RJx4a65c rfl (by decide) (Nat.le_of_ble_eq_true rfl) ?_
  intro p_ e_ s_ m_ args_ below_ meth_ c_ ls hargs C hr hnm hP hS hl
  have hl : lv_has ls 4 [(0, .ref a), (1, .ref q), (2, .ref (G.2 8)), (3, .int (nI 0))] := hl
  obtain ⟨hA, hB, hE, ⟨fq, hQ⟩, hZ, hsz⟩ := hP
  obtain ⟨rq, hrq, -⟩ := id hok
  have ha : a < sz := by rw [← hsz]; exact hA.lt
  have hq : q < sz := by rw [← hsz]; exact hQ.lt
  refine lv_iload_n C.hx C.hb dJx4a65c_add_72be8_0 rfl (lv_at hl 3 rfl) ?_
  refine lv_aload_n C.hx C.hb dJx4a65c_add_72be8_1 rfl (lv_at hl 2 rfl) ?_
  refine g_tlen C hZ dJx4a65c_add_72be8_2 ?_
  refine lv_icmp_ne (tgt := 11) C.hx C.hb dJx4a65c_add_72be8_3 (by decide) (fun c1 => ?_) (fun c1 => ?_)
  · exact absurd rfl c1
  · refine lv_aload_n C.hx C.hb dJx4a65c_add_72be8_6 rfl (lv_at hl 0 rfl) ?_
    refine kVW (As := []) (rest := []) (v := .ref sz) C (cJ_growA0 l G a sz mc) lk_Jx4a65c_129 (g_recv C hA rfl) ⟨hA, hZ, hsz⟩ rfl rfl hl (Nat.le_of_ble_eq_true rfl) dJx4a65c_add_72be8_7 ⟨⟨by decide, by decide⟩, by decide, by decide⟩ hS (fun q h => h.elim Or.inl (fun z => Or.inr (Or.inr z))) (fun H locs hPq hz1 hk1 hS => ?_)
    obtain ⟨hA, hN, hs2⟩ := id hPq
    have hQ := hQ.kept (hk1 _ (by rw [hsz]; exact hq) (by omega))
    refine lv_astore_n (lv' := [(2, .ref sz), (0, .ref a), (1, .ref q), (3, .int (nI 0))]) C.hx C.hb dJx4a65c_add_72be8_10 rfl hl (by decide) rfl (fun ls hl => ?_)
    refine lv_aload_n C.hx C.hb dJx4a65c_add_72be8_11 rfl (lv_at hl 0 rfl) ?_
    refine lv_iload_n C.hx C.hb dJx4a65c_add_72be8_12 rfl (lv_at hl 3 rfl) ?_
    refine lv_aload_n C.hx C.hb dJx4a65c_add_72be8_13 rfl (lv_at hl 2 rfl) ?_
    refine g_aast (t0 := 5) C hS hN (Or.inr (Or.inr (Nat.le_refl _))) rfl hQ hrq (asgO C hok hrq) rfl (show 0 < 10 by decide) (by decide) dJx4a65c_add_72be8_14 (fun H locs hN o4 z4 hS => ?_)
    have hA := hA.kept (o4 _ (by omega))
    refine lv_aload_n C.hx C.hb dJx4a65c_add_72be8_15 rfl (lv_at hl 1 rfl) ?_
    refine lv_iload_n C.hx C.hb dJx4a65c_add_72be8_16 rfl (lv_at hl 3 rfl) ?_
    refine lv_iconst (v := 1) C.hx C.hb dJx4a65c_add_72be8_17 (by decide) ?_
    refine lv_iadd C.hx C.hb dJx4a65c_add_72be8_18 ?_
    rw [nI_1]
    refine g_put (k := 2) tyJx4a65c C hS hA (Or.inl rfl) rfl wu_Jx4a65c tyJx4a65c_ok nmJx4a65c (by decide) wf_Jx4a65c_48 rfl rfl rfl rfl rfl (Nat.le_of_ble_eq_true rfl) dJx4a65c_add_72be8_19 (fun H locs hA o3 z3 hS => ?_)
    have hN := hN.kept (o3 _ (by omega))
    exact wV C hr dJx4a65c_add_72be8_22 hS ⟨sz, 10, hA, by rw [show f = fun _ => none from funext (fun j => hfn j (Nat.zero_le j))]; exact hN, by omega, by omega, Or.inr ⟨rfl, by rw [z3, z4]; exact hPq.2.2⟩⟩
theorem cJ_add3 (l : Launch) (G : GG) (a q ed n cap sz ci : Nat) (mc : Int32) (f : Nat → Option Nat) (hok : OKc ci) (hcase : (cap = 0 ∧ ed = G.2 8 ∧ n = 0) ∨ (0 < cap ∧ n ≤ cap)) (hea : ed ≠ a) (hqa : q ≠ a) (hqe : q ≠ ed) (hfn : ∀ j, n ≤ j → f j = none) (hcp : cap ≤ 600 ∧ (n = cap → cap ≤ 400)) : MW l G yJx4a65c_add_72be8 cJx4a65c_add_72be8 4 none 5 [.ref a, .ref q, .ref ed, .int (nI n)] (fun H => va_at G.1 vwCl (a, lob mc ed n) H ∧ (0 < cap → va_at G.1 vwCl (ed, .inl (G.2 5, qs cap f)) H) ∧ els G ci n f H ∧ (∃ fs, va_at G.1 vwCl (q, .inr (ci, fs)) H) ∧ DZ G H ∧ H.size = sz) none (addP G a q ed n cap sz mc f) (addA a ed cap sz) 1 600 := by
  rcases hcase with ⟨h1, h2, h3⟩ | ⟨h1, h2⟩
  · subst h1; subst h2; subst h3
    exact cJ_add3C l G a q sz ci mc f hok hqa hfn
  · rcases Nat.lt_or_ge n cap with h3 | h3
    · exact cJ_add3A l G a q ed n cap sz ci mc f hok h1 h3 hea hqa hqe hfn hcp
    · exact cJ_add3B l G a q ed n cap sz ci mc f hok h1 (by omega) hea hqa hqe hfn hcp
set_option maxRecDepth 100000 in
set_option maxHeartbeats 400000 in
theorem cJ_add (l : Launch) (G : GG) (a q ed n cap sz ci : Nat) (mc : Int32) (f : Nat → Option Nat) (hok : OKc ci) (hcase : (cap = 0 ∧ ed = G.2 8 ∧ n = 0) ∨ (0 < cap ∧ n ≤ cap)) (hea : ed ≠ a) (hqa : q ≠ a) (hqe : q ≠ ed) (hfn : ∀ j, n ≤ j → f j = none) (hcp : cap ≤ 600 ∧ (n = cap → cap ≤ 400)) (hz6 : G.2 6 ≠ a) (hz8 : G.2 8 ≠ a) (hne : ∀ j y, j < n → f j = some y → y ≠ a) : MW l G yJx4a65c_add_9ea2d cJx4a65c_add_9ea2d 2 (some .boolean) 6 [.ref a, .ref q] (fun H => va_at G.1 vwCl (a, lob mc ed n) H ∧ (0 < cap → va_at G.1 vwCl (ed, .inl (G.2 5, qs cap f)) H) ∧ els G ci n f H ∧ (∃ fs, va_at G.1 vwCl (q, .inr (ci, fs)) H) ∧ DZ G H ∧ H.size = sz) (some (.int 1)) (addP G a q ed n cap sz (mc + 1) f) (addA a ed cap sz) 1 600 := by
  refine MW.of RJx4a65c rfl (by decide) (Nat.le_of_ble_eq_true rfl) ?_
  intro p_ e_ s_ m_ args_ below_ meth_ c_ ls hargs C hr hnm hP hS hl
  have hl : lv_has ls 2 [(0, .ref a), (1, .ref q)] := hl
  obtain ⟨hA, hB, hE, ⟨fq, hQ⟩, hZ, hsz⟩ := hP
  refine lv_aload_n C.hx C.hb dJx4a65c_add_9ea2d_0 rfl (lv_at hl 0 rfl) ?_
  refine lv_dup C.hx C.hb dJx4a65c_add_9ea2d_1 rfl ?_
  refine g_getM C hA dJx4a65c_add_9ea2d_2 ?_
  refine lv_iconst (v := 1) C.hx C.hb dJx4a65c_add_9ea2d_5 (by decide) ?_
  refine lv_iadd C.hx C.hb dJx4a65c_add_9ea2d_6 ?_
  refine g_putM C hS hA (Or.inl rfl) dJx4a65c_add_9ea2d_7 (fun H locs hA o1 z1 hS => ?_)
  have hB := fun h => (hB h).kept (o1 _ hea)
  have hE := hE.kept (fun j y hj hy => o1 _ (hne j y hj hy))
  have hQ := hQ.kept (o1 _ hqa)
  have hZ := hZ.kept (o1 _ hz6) (o1 _ hz8)
  refine lv_aload_n C.hx C.hb dJx4a65c_add_9ea2d_10 rfl (lv_at hl 0 rfl) ?_
  refine lv_aload_n C.hx C.hb dJx4a65c_add_9ea2d_11 rfl (lv_at hl 1 rfl) ?_
  refine lv_aload_n C.hx C.hb dJx4a65c_add_9ea2d_12 rfl (lv_at hl 0 rfl) ?_
  refine g_get (k := 1) (v := .ref ed) C hA rfl wu_Jx4a65c (by decide) wf_Jx4a65c_9 rfl rfl dJx4a65c_add_9ea2d_13 ?_
  refine lv_aload_n C.hx C.hb dJx4a65c_add_9ea2d_16 rfl (lv_at hl 0 rfl) ?_
  refine g_get (k := 2) (v := .int (nI n)) C hA rfl wu_Jx4a65c (by decide) wf_Jx4a65c_48 rfl rfl dJx4a65c_add_9ea2d_17 ?_
  refine kVWn (As := [.ref q, .ref ed, .int (nI n)]) (rest := []) C (cJ_add3 l G a q ed n cap sz ci (mc + 1) f hok hcase hea hqa hqe hfn hcp) lk_Jx4a65c_131 (g_recv C hA rfl) ⟨hA, hB, hE, ⟨fq, hQ⟩, hZ, by rw [z1]; exact hsz⟩ rfl rfl hl (Nat.le_of_ble_eq_true rfl) dJx4a65c_add_9ea2d_20 ⟨⟨by decide, by decide⟩, by decide, by decide⟩ hS (fun q h => h) (fun H locs hPq hz1 hk1 hS => ?_)
  refine lv_iconst (v := 1) C.hx C.hb dJx4a65c_add_9ea2d_23 (by decide) ?_
  exact wZ C hr dJx4a65c_add_9ea2d_24 hS rfl hPq nb1
