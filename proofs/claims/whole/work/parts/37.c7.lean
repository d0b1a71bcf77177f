theorem fb01 {v : Int32} (h : v = 0 ∨ v = 1) : fits .boolean (.int v) = true := by rcases h with h | h <;> subst h <;> rfl
section LG
variable {p : Program} {l : Launch} {e : Env} {R : Room} {s : State} {m : MethodId} {args : Array Value} {below : List Frame} {meth : Method} {c : Code} {cells slots : Nat} {Q : State → Prop}
theorem W.loopG {N : Nat} {Inv : Nat → Array Slot → Heap → List Loc → Prop} (pch : Nat) (rj : List Value) (step : ∀ (i : Nat) (ls' : Array Slot) (H' : Heap) (locs' : List Loc), i ≤ N → Inv i ls' H' locs' → (∀ (i2 : Nat) (ls2 : Array Slot) (H2 : Heap) (locs2 : List Loc), i < i2 → i2 ≤ N → Inv i2 ls2 H2 locs2 → W p l e R s m args below meth c H2 locs2 cells slots Q (F0 m pch ls2 rj)) → W p l e R s m args below meth c H' locs' cells slots Q (F0 m pch ls' rj)) : ∀ (i : Nat) (ls' : Array Slot) (H' : Heap) (locs' : List Loc), i ≤ N → Inv i ls' H' locs' → W p l e R s m args below meth c H' locs' cells slots Q (F0 m pch ls' rj) := by
  have key : ∀ (d i : Nat) (ls' : Array Slot) (H' : Heap) (locs' : List Loc), N - i ≤ d → i ≤ N → Inv i ls' H' locs' → W p l e R s m args below meth c H' locs' cells slots Q (F0 m pch ls' rj) := by
    intro d
    induction d with
    | zero => intro i ls' H' locs' hd hi h; exact step i ls' H' locs' hi h (fun i2 ls2 H2 locs2 h1 h2 _ => absurd h1 (by omega))
    | succ d ih => intro i ls' H' locs' hd hi h; exact step i ls' H' locs' hi h (fun i2 ls2 H2 locs2 h1 h2 h3 => ih i2 ls2 H2 locs2 (by omega) h2 h3)
  exact fun i ls' H' locs' => key (N - i) i ls' H' locs' (Nat.le_refl _)
end LG
theorem up2_self {x : XX} {k j : Nat} {v : Int32} (h : x k j = v) : up2 x k j v = x := by
  funext k'
  unfold up2
  by_cases q : k' = k
  · rw [if_pos q, q]
    funext j'
    unfold upd
    by_cases r : j' = j
    · rw [r]; simp [h]
    · simp [r]
  · rw [if_neg q]
theorem up2_2 {x : XX} {k j : Nat} {a b : Int32} : up2 (up2 x k j a) k j b = up2 x k j b := by
  funext k'
  unfold up2
  by_cases q : k' = k
  · rw [if_pos q, if_pos q, if_pos rfl]
    funext j'
    unfold upd
    by_cases r : j' = j
    · simp [r]
    · simp [r]
  · rw [if_neg q, if_neg q, if_neg q]
/-- the ladder's strikes and how many of them are faded are numbers -/
def LI (x : XX) : Prop := x 39 0 = nI (tn (x 39 0)) ∧ x 40 0 = nI (tn (x 40 0)) ∧ tn (x 40 0) ≤ tn (x 39 0) ∧ tn (x 39 0) ≤ 400
/-- how far strikes are faded at a tick -/
def fdv (x : XX) (t : Int32) : Nat → Nat → Nat
  | 0, f => f
  | k + 1, f => if t - x 44 f < x 37 0 then f else fdv x t k (f + 1)
theorem fdv_le (x : XX) (t : Int32) : ∀ k f, f ≤ fdv x t k f ∧ fdv x t k f ≤ f + k
  | 0, f => ⟨Nat.le_refl _, Nat.le_refl _⟩
  | k + 1, f => by
    unfold fdv
    split
    · omega
    · have := fdv_le x t k (f + 1); omega
theorem fdv_s {x : XX} {t : Int32} {n i : Nat} (h : i < n) (c : ¬ t - x 44 i < x 37 0) : fdv x t (n - i) i = fdv x t (n - (i + 1)) (i + 1) := by
  rw [show n - i = (n - (i + 1)) + 1 by omega]
  show (if t - x 44 i < x 37 0 then i else fdv x t (n - (i + 1)) (i + 1)) = _
  rw [if_neg c]
theorem fdv_e {x : XX} {t : Int32} {n i : Nat} (h : i < n) (c : t - x 44 i < x 37 0) : fdv x t (n - i) i = i := by
  rw [show n - i = (n - (i + 1)) + 1 by omega]
  show (if t - x 44 i < x 37 0 then i else fdv x t (n - (i + 1)) (i + 1)) = _
  rw [if_pos c]
def fdX (x : XX) (t : Int32) : Nat := fdv x t (tn (x 39 0) - tn (x 40 0)) (tn (x 40 0))
def hdA (x : XX) (t : Int32) : Int32 := (x 39 0) - (nI (fdX x t))
def hdX (x : XX) (t : Int32) : XX := up2 x 40 0 (nI (fdX x t))
theorem nlt_i {a b : Nat} {u v : Int32} (hu : u = nI a) (hv : v = nI b) (ha : a < 2 ^ 31) (hb : b < 2 ^ 31) (h : ¬ u ≤ v) : b < a := by
  subst hu; subst hv
  rcases Nat.lt_or_ge b a with q | q
  · exact q
  · exact absurd (Int32.le_iff_toInt_le.mpr (by rw [nI_toInt ha, nI_toInt hb]; omega)) h
theorem le_i {a b : Nat} {u v : Int32} (hu : u = nI a) (hv : v = nI b) (ha : a < 2 ^ 31) (hb : b < 2 ^ 31) (h : u ≤ v) : a ≤ b := by
  subst hu; subst hv
  have h2 := Int32.le_iff_toInt_le.mp h
  rw [nI_toInt ha, nI_toInt hb] at h2
  omega
set_option maxRecDepth 100000 in
set_option maxHeartbeats 1000000 in
theorem cC_X4_holdingAt0 (l : Launch) (G : GG) (A : Nat → Prop) (ad : YY) (x : XX) (y : YY) (z : Nat → Int64) (t : Int32) (ns nf : Nat) (h39 : x 39 0 = nI ns) (h40 : x 40 0 = nI nf) (hle : nf ≤ ns) (h400 : ns ≤ 400) : MW l G yX4_holdingAt cX4_holdingAt 2 (some .int) 0 [.ref (ad 9 0), .int t] (CWd G A ad x y z) (some (.int ((x 39 0) - (nI (fdv x t (ns - nf) nf))))) (CWd G A ad (up2 x 40 0 (nI (fdv x t (ns - nf) nf))) y z) A 0 0 := by
  refine MW.of RX4 rfl (by decide) (Nat.le_of_ble_eq_true rfl) ?_
  intro p_ e_ s_ m_ args_ below_ meth_ c_ ls hargs C hr hnm hW hS hl
  have hl : lv_has ls 2 [(0, .ref (ad 9 0)), (1, .int t)] := hl
  refine W.loopG (N := ns) (Inv := fun i ls H locs => lv_has ls 2 [(0, .ref (ad 9 0)), (1, .int t)] ∧ nf ≤ i ∧ CWd G A ad (up2 x 40 0 (nI i)) y z H ∧ va_S A s_.heap H locs ∧ fdv x t (ns - nf) nf = fdv x t (ns - i) i) 0 [] (fun i1 ls H locs hi1 hq K1 => ?_) nf ls _ _ hle ⟨hl, Nat.le_refl _, by rw [up2_self h40]; exact hW, hS, rfl⟩
  obtain ⟨hl, hnf, hW, hS, hfd⟩ := hq
  refine lv_aload_n C.hx C.hb dX4_holdingAt_0 rfl (lv_at hl 0 rfl) ?_
  refine g_get (k := 4) (v := .int (nI i1)) C (hW.1 9 0 rfl).1 rfl wu_X4 (by decide) wf_X4_25 rfl rfl dX4_holdingAt_1 ?_
  refine lv_aload_n C.hx C.hb dX4_holdingAt_4 rfl (lv_at hl 0 rfl) ?_
  refine g_get (k := 3) (v := .int (x 39 0)) C (hW.1 9 0 rfl).1 rfl wu_X4 (by decide) wf_X4_22 rfl rfl dX4_holdingAt_5 ?_
  refine lv_icmp_ge (tgt := 42) C.hx C.hb dX4_holdingAt_8 (by decide) (fun c1 => ?_) (fun c1 => ?_)
  · have gc1 := le_i h39 rfl (by omega) (by omega) c1
    refine lv_aload_n C.hx C.hb dX4_holdingAt_42 rfl (lv_at hl 0 rfl) ?_
    refine g_get (k := 3) (v := .int (x 39 0)) C (hW.1 9 0 rfl).1 rfl wu_X4 (by decide) wf_X4_22 rfl rfl dX4_holdingAt_43 ?_
    refine lv_aload_n C.hx C.hb dX4_holdingAt_46 rfl (lv_at hl 0 rfl) ?_
    refine g_get (k := 4) (v := .int (nI i1)) C (hW.1 9 0 rfl).1 rfl wu_X4 (by decide) wf_X4_25 rfl rfl dX4_holdingAt_47 ?_
    refine lv_isub C.hx C.hb dX4_holdingAt_50 ?_
    have e9 : fdv x t (ns - nf) nf = i1 := hfd.trans (by rw [show i1 = ns by omega, Nat.sub_self]; rfl)
    exact wI C hr dX4_holdingAt_51 hS (by rw [e9]) (by rw [e9]; exact hW)
  · have gc1 := nlt_i h39 rfl (by omega) (by omega) c1
    refine lv_iload_n C.hx C.hb dX4_holdingAt_11 rfl (lv_at hl 1 rfl) ?_
    refine lv_aload_n C.hx C.hb dX4_holdingAt_12 rfl (lv_at hl 0 rfl) ?_
    refine g_get (k := 2) (v := .ref (ad 10 0)) C (hW.1 9 0 rfl).1 rfl wu_X4 (by decide) wf_X4_18 rfl rfl dX4_holdingAt_13 ?_
    refine lv_aload_n C.hx C.hb dX4_holdingAt_16 rfl (lv_at hl 0 rfl) ?_
    refine g_get (k := 4) (v := .int (nI i1)) C (hW.1 9 0 rfl).1 rfl wu_X4 (by decide) wf_X4_25 rfl rfl dX4_holdingAt_17 ?_
    refine g_iald (n := 400) (f := x 44) (k := i1) C (hW.1 10 0 (by exact (by decide : 0 < 2))).1 rfl (show i1 < 400 by omega) (by decide) dX4_holdingAt_20 ?_
    refine lv_isub C.hx C.hb dX4_holdingAt_21 ?_
    refine lv_aload_n C.hx C.hb dX4_holdingAt_22 rfl (lv_at hl 0 rfl) ?_
    refine g_get (k := 0) (v := .int (x 37 0)) C (hW.1 9 0 rfl).1 rfl wu_X4 (by decide) wf_X4_9 rfl rfl dX4_holdingAt_23 ?_
    refine lv_icmp_lt (tgt := 42) C.hx C.hb dX4_holdingAt_26 (by decide) (fun c2 => ?_) (fun c2 => ?_)
    · refine lv_aload_n C.hx C.hb dX4_holdingAt_42 rfl (lv_at hl 0 rfl) ?_
      refine g_get (k := 3) (v := .int (x 39 0)) C (hW.1 9 0 rfl).1 rfl wu_X4 (by decide) wf_X4_22 rfl rfl dX4_holdingAt_43 ?_
      refine lv_aload_n C.hx C.hb dX4_holdingAt_46 rfl (lv_at hl 0 rfl) ?_
      refine g_get (k := 4) (v := .int (nI i1)) C (hW.1 9 0 rfl).1 rfl wu_X4 (by decide) wf_X4_25 rfl rfl dX4_holdingAt_47 ?_
      refine lv_isub C.hx C.hb dX4_holdingAt_50 ?_
      have e9 : fdv x t (ns - nf) nf = i1 := hfd.trans (fdv_e (by omega) c2)
      exact wI C hr dX4_holdingAt_51 hS (by rw [e9]) (by rw [e9]; exact hW)
    · refine lv_aload_n C.hx C.hb dX4_holdingAt_29 rfl (lv_at hl 0 rfl) ?_
      refine lv_dup C.hx C.hb dX4_holdingAt_30 rfl ?_
      refine g_get (k := 4) (v := .int (nI i1)) C (hW.1 9 0 rfl).1 rfl wu_X4 (by decide) wf_X4_25 rfl rfl dX4_holdingAt_31 ?_
      refine lv_iconst (v := 1) C.hx C.hb dX4_holdingAt_34 (by decide) ?_
      refine lv_iadd C.hx C.hb dX4_holdingAt_35 ?_
      refine g_put (k := 4) tyX4 C hS (hW.1 9 0 rfl).1 (hW.1 9 0 rfl).2 rfl wu_X4 tyX4_ok nmX4 (by decide) wf_X4_25 rfl rfl rfl rfl rfl (Nat.le_of_ble_eq_true rfl) dX4_holdingAt_36 (fun H locs e1 o1 z1 hS => ?_)
      have hW : CWd G A ad (up2 (up2 x 40 0 (nI i1)) 40 0 ((nI i1) + 1)) y z H := hW.put 9 0 rfl (by rw [← ce_40]; exact e1) o1 (fun _ _ q => q) cu_40
      refine lv_goto (tgt := 0) C.hx C.hb dX4_holdingAt_39 (by decide) ?_
      rw [up2_2, nI_1] at hW
      exact K1 (i1 + 1) _ _ _ (by omega) (by omega) ⟨hl, by omega, hW, hS, hfd.trans (fdv_s (by omega) c2)⟩
theorem cC_X4_holdingAt (l : Launch) (G : GG) (A : Nat → Prop) (ad : YY) (x : XX) (y : YY) (z : Nat → Int64) (t : Int32) (h : LI x) : MW l G yX4_holdingAt cX4_holdingAt 2 (some .int) 0 [.ref (ad 9 0), .int t] (CWd G A ad x y z) (some (.int (hdA x t))) (CWd G A ad (hdX x t) y z) A 0 0 :=
  cC_X4_holdingAt0 l G A ad x y z t _ _ h.1 h.2.1 h.2.2.1 h.2.2.2
theorem tn_nI {n : Nat} (h : n < 2 ^ 31) : tn (nI n) = n := nI_clamp h
theorem LI.hd {x : XX} (h : LI x) (t : Int32) : LI (hdX x t) := by
  have b := fdv_le x t (tn (x 39 0) - tn (x 40 0)) (tn (x 40 0))
  obtain ⟨h1, h2, h3, h4⟩ := h
  have e : hdX x t 40 0 = nI (fdX x t) := by simp [hdX, up2, upd]
  have e2 : hdX x t 39 0 = x 39 0 := by simp [hdX, up2]
  have b2 : fdX x t ≤ tn (x 39 0) := by unfold fdX; omega
  unfold LI
  rw [e, e2, tn_nI (by omega)]
  exact ⟨h1, rfl, b2, h4⟩
theorem LI.rs (x : XX) : LI (sx_X4_restart x) := by
  refine ⟨rfl, rfl, Nat.le_refl _, ?_⟩
  show tn 0 ≤ 400
  decide
def sx_X4_climb (x : XX) (t : Int32) (nw : Int32) : XX := (if (nI 400) ≤ ((hdX x t) 39 0) then (if 3 ≤ (if (hdA x t) < 3 then hdA x t else 3 : Int32) then (if 0 ≤ ((hdX x t) 43 0) then (up2 (hdX x t) 41 0 (if (hdA x t) < 3 then hdA x t else 3 : Int32)) else (up2 (up2 (hdX x t) 41 0 (if (hdA x t) < 3 then hdA x t else 3 : Int32)) 43 0 t)) else (up2 (up2 (hdX x t) 41 0 (if (hdA x t) < 3 then hdA x t else 3 : Int32)) 42 0 (if ((hdX x t) 42 0) = 0 then (if ((if (hdA x t) < 3 then hdA x t else 3 : Int32) * ((hdX x t) 38 0)) ≤ (nw - t) then 0 else 1 : Int32) else 1 : Int32))) else (if 3 ≤ (if (hdA x t) < 3 then hdA x t else 3 : Int32) then (if 0 ≤ ((hdX x t) 43 0) then (up2 (up2 (up2 (hdX x t) 41 0 (if (hdA x t) < 3 then hdA x t else 3 : Int32)) 44 (tn ((hdX x t) 39 0)) t) 39 0 (((hdX x t) 39 0) + 1)) else (up2 (up2 (up2 (up2 (hdX x t) 41 0 (if (hdA x t) < 3 then hdA x t else 3 : Int32)) 44 (tn ((hdX x t) 39 0)) t) 39 0 (((hdX x t) 39 0) + 1)) 43 0 t)) else (up2 (up2 (up2 (up2 (hdX x t) 41 0 (if (hdA x t) < 3 then hdA x t else 3 : Int32)) 44 (tn ((hdX x t) 39 0)) t) 39 0 (((hdX x t) 39 0) + 1)) 42 0 (if ((hdX x t) 42 0) = 0 then (if ((if (hdA x t) < 3 then hdA x t else 3 : Int32) * ((hdX x t) 38 0)) ≤ (nw - t) then 0 else 1 : Int32) else 1 : Int32))))
set_option maxRecDepth 100000 in
set_option maxHeartbeats 1000000 in
theorem cC_X4_climb (l : Launch) (G : GG) (A : Nat → Prop) (ad : YY) (x : XX) (y : YY) (z : Nat → Int64) (t : Int32) (nw : Int32)  (hLI : LI x) : MW l G yX4_climb cX4_climb 3 none 1 [.ref (ad 9 0), .int t, .int nw] (CWd G A ad x y z) none (CWd G A ad (sx_X4_climb x t nw) y z) A 0 0 := by
  refine MW.of RX4 rfl (by decide) (Nat.le_of_ble_eq_true rfl) ?_
  intro p_ e_ s_ m_ args_ below_ meth_ c_ ls hargs C hr hnm hW hS hl
  have hl : lv_has ls 3 [(0, .ref (ad 9 0)), (1, .int t), (2, .int nw)] := hl
  refine lv_aload_n C.hx C.hb dX4_climb_0 rfl (lv_at hl 0 rfl) ?_
  refine lv_iconst (v := 3) C.hx C.hb dX4_climb_1 (by decide) ?_
  refine lv_aload_n C.hx C.hb dX4_climb_2 rfl (lv_at hl 0 rfl) ?_
  refine lv_iload_n C.hx C.hb dX4_climb_3 rfl (lv_at hl 1 rfl) ?_
  refine kVW (As := [.int t]) (rest := [.int 3, .ref (ad 9 0)]) (v := .int (hdA x t)) C (cC_X4_holdingAt l G A ad x y z t hLI) lk_X4_38 (g_recv C (hW.1 9 0 rfl).1 rfl) hW rfl rfl hl (Nat.le_of_ble_eq_true rfl) dX4_climb_4 ⟨⟨by decide, by decide⟩, by decide, by decide⟩ hS (fun q h => h) (fun H locs hP hz1 hk1 hS => ?_)
  have hW : CWd G A ad (hdX x t) y z H := hP
  refine g_min C hl mm_X4_42 ⟨by decide, Nat.le_of_ble_eq_true rfl, by decide, by decide⟩ dX4_climb_7 ?_
  refine g_put (k := 5) tyX4 C hS (hW.1 9 0 rfl).1 (hW.1 9 0 rfl).2 rfl wu_X4 tyX4_ok nmX4 (by decide) wf_X4_28 rfl rfl rfl rfl rfl (Nat.le_of_ble_eq_true rfl) dX4_climb_10 (fun H locs e1 o1 z1 hS => ?_)
  have hW : CWd G A ad (up2 (hdX x t) 41 0 (if (hdA x t) < 3 then hdA x t else 3 : Int32)) y z H := hW.put 9 0 rfl (by rw [← ce_41]; exact e1) o1 (fun _ _ q => q) cu_41
  refine lv_aload_n C.hx C.hb dX4_climb_13 rfl (lv_at hl 0 rfl) ?_
  refine g_get (k := 3) (v := .int ((hdX x t) 39 0)) C (hW.1 9 0 rfl).1 rfl wu_X4 (by decide) wf_X4_22 rfl rfl dX4_climb_14 ?_
  refine lv_aload_n C.hx C.hb dX4_climb_17 rfl (lv_at hl 0 rfl) ?_
  refine g_get (k := 2) (v := .ref (ad 10 0)) C (hW.1 9 0 rfl).1 rfl wu_X4 (by decide) wf_X4_18 rfl rfl dX4_climb_18 ?_
  refine g_alen (t := 0) C (hW.1 10 0 (show 0 < 2 by decide)).1 0 rfl dX4_climb_21 ?_
  show W _ _ _ _ _ _ _ _ _ _ _ _ _ _ _ (F0 m_ 22 ls [.int (nI 400), .int ((hdX x t) 39 0)])
  refine lv_icmp_ge (tgt := 45) C.hx C.hb dX4_climb_22 (by decide) (fun c1 => ?_) (fun c1 => ?_)
  · refine lv_aload_n C.hx C.hb dX4_climb_45 rfl (lv_at hl 0 rfl) ?_
    refine g_get (k := 5) (v := .int ((if (hdA x t) < 3 then hdA x t else 3 : Int32))) C (hW.1 9 0 rfl).1 rfl wu_X4 (by decide) wf_X4_28 rfl rfl dX4_climb_46 ?_
    refine lv_iconst (v := 3) C.hx C.hb dX4_climb_49 (by decide) ?_
    refine lv_icmp_ge (tgt := 87) C.hx C.hb dX4_climb_50 (by decide) (fun c2 => ?_) (fun c2 => ?_)
    · refine lv_aload_n C.hx C.hb dX4_climb_87 rfl (lv_at hl 0 rfl) ?_
      refine g_get (k := 7) (v := .int ((hdX x t) 43 0)) C (hW.1 9 0 rfl).1 rfl wu_X4 (by decide) wf_X4_35 rfl rfl dX4_climb_88 ?_
      refine lv_if_ge (tgt := 99) C.hx C.hb dX4_climb_91 (by decide) (fun c3 => ?_) (fun c3 => ?_)
      · exact wV C hr dX4_climb_99 hS (by unfold sx_X4_climb; (first | rw [if_pos c1, if_pos c2, if_pos c3] | simp only [if_pos c1, if_pos c2, if_pos c3]); exact hW)
      · refine lv_aload_n C.hx C.hb dX4_climb_94 rfl (lv_at hl 0 rfl) ?_
        refine lv_iload_n C.hx C.hb dX4_climb_95 rfl (lv_at hl 1 rfl) ?_
        refine g_put (k := 7) tyX4 C hS (hW.1 9 0 rfl).1 (hW.1 9 0 rfl).2 rfl wu_X4 tyX4_ok nmX4 (by decide) wf_X4_35 rfl rfl rfl rfl rfl (Nat.le_of_ble_eq_true rfl) dX4_climb_96 (fun H locs e1 o1 z1 hS => ?_)
        have hW : CWd G A ad (up2 (up2 (hdX x t) 41 0 (if (hdA x t) < 3 then hdA x t else 3 : Int32)) 43 0 t) y z H := hW.put 9 0 rfl (by rw [← ce_43]; exact e1) o1 (fun _ _ q => q) cu_43
        exact wV C hr dX4_climb_99 hS (by unfold sx_X4_climb; (first | rw [if_pos c1, if_pos c2, if_neg c3] | simp only [if_pos c1, if_pos c2, if_neg c3]); exact hW)
    · refine lv_aload_n C.hx C.hb dX4_climb_53 rfl (lv_at hl 0 rfl) ?_
      refine lv_aload_n C.hx C.hb dX4_climb_54 rfl (lv_at hl 0 rfl) ?_
      refine g_get (k := 6) (v := .int ((hdX x t) 42 0)) C (hW.1 9 0 rfl).1 rfl wu_X4 (by decide) wf_X4_31 rfl rfl dX4_climb_55 ?_
      refine W.joinI (P := fun jv => jv = (if ((hdX x t) 42 0) = 0 then (if ((if (hdA x t) < 3 then hdA x t else 3 : Int32) * ((hdX x t) 38 0)) ≤ (nw - t) then 0 else 1 : Int32) else 1 : Int32)) 81 ls [.ref (ad 9 0)] (fun J6 => ?_) (fun v7 hv7 => ?_)
      · refine lv_if_ne (tgt := 76) C.hx C.hb dX4_climb_58 (by decide) (fun c4 => ?_) (fun c4 => ?_)
        · refine lv_iconst (v := 1) C.hx C.hb dX4_climb_76 (by decide) ?_
          refine lv_goto (tgt := 81) C.hx C.hb dX4_climb_77 (by decide) ?_
          exact J6 _ (by rw [if_neg c4])
        · refine lv_iload_n C.hx C.hb dX4_climb_61 rfl (lv_at hl 2 rfl) ?_
          refine lv_iload_n C.hx C.hb dX4_climb_62 rfl (lv_at hl 1 rfl) ?_
          refine lv_isub C.hx C.hb dX4_climb_63 ?_
          refine lv_aload_n C.hx C.hb dX4_climb_64 rfl (lv_at hl 0 rfl) ?_
          refine g_get (k := 5) (v := .int ((if (hdA x t) < 3 then hdA x t else 3 : Int32))) C (hW.1 9 0 rfl).1 rfl wu_X4 (by decide) wf_X4_28 rfl rfl dX4_climb_65 ?_
          refine lv_aload_n C.hx C.hb dX4_climb_68 rfl (lv_at hl 0 rfl) ?_
          refine g_get (k := 1) (v := .int ((hdX x t) 38 0)) C (hW.1 9 0 rfl).1 rfl wu_X4 (by decide) wf_X4_15 rfl rfl dX4_climb_69 ?_
          refine lv_imul C.hx C.hb dX4_climb_72 ?_
          refine lv_icmp_ge (tgt := 80) C.hx C.hb dX4_climb_73 (by decide) (fun c5 => ?_) (fun c5 => ?_)
          · refine lv_iconst (v := 0) C.hx C.hb dX4_climb_80 (by decide) ?_
            exact J6 _ (by rw [if_pos c4, if_pos c5])
          · refine lv_iconst (v := 1) C.hx C.hb dX4_climb_76 (by decide) ?_
            refine lv_goto (tgt := 81) C.hx C.hb dX4_climb_77 (by decide) ?_
            exact J6 _ (by rw [if_pos c4, if_neg c5])
      · refine g_put (k := 6) tyX4 C hS (hW.1 9 0 rfl).1 (hW.1 9 0 rfl).2 rfl wu_X4 tyX4_ok nmX4 (by decide) wf_X4_31 rfl rfl rfl (nb01 (by rw [hv7]; (repeat' split) <;> simp)) (fb01 (by rw [hv7]; (repeat' split) <;> simp)) (Nat.le_of_ble_eq_true rfl) dX4_climb_81 (fun H locs e1 o1 z1 hS => ?_)
        have hW : CWd G A ad (up2 (up2 (hdX x t) 41 0 (if (hdA x t) < 3 then hdA x t else 3 : Int32)) 42 0 v7) y z H := hW.put 9 0 rfl (by rw [← ce_42]; exact e1) o1 (fun _ _ q => q) cu_42
        refine lv_goto (tgt := 99) C.hx C.hb dX4_climb_84 (by decide) ?_
        exact wV C hr dX4_climb_99 hS (by rw [hv7] at hW; unfold sx_X4_climb; (first | rw [if_pos c1, if_neg c2] | simp only [if_pos c1, if_neg c2]); exact hW)
  · have hLI2 := LI.hd hLI t
    have gc1 := nlt_i rfl hLI2.1 (by decide) (by have := hLI2.2.2.2; omega) c1
    refine lv_aload_n C.hx C.hb dX4_climb_25 rfl (lv_at hl 0 rfl) ?_
    refine g_get (k := 2) (v := .ref (ad 10 0)) C (hW.1 9 0 rfl).1 rfl wu_X4 (by decide) wf_X4_18 rfl rfl dX4_climb_26 ?_
    refine lv_aload_n C.hx C.hb dX4_climb_29 rfl (lv_at hl 0 rfl) ?_
    refine g_get (k := 3) (v := .int ((hdX x t) 39 0)) C (hW.1 9 0 rfl).1 rfl wu_X4 (by decide) wf_X4_22 rfl rfl dX4_climb_30 ?_
    refine lv_iload_n C.hx C.hb dX4_climb_33 rfl (lv_at hl 1 rfl) ?_
    refine g_iast (n := 400) (f := (hdX x t) 44) (k := (tn ((hdX x t) 39 0))) C hS (hW.1 10 0 (by exact (by decide : 0 < 2))).1 (hW.1 10 0 (by exact (by decide : 0 < 2))).2 hLI2.1 (show (tn ((hdX x t) 39 0)) < 400 by omega) (by decide) dX4_climb_34 (fun H locs e1 o1 z1 hS => ?_)
    have hW : CWd G A ad (up2 (up2 (hdX x t) 41 0 (if (hdA x t) < 3 then hdA x t else 3 : Int32)) 44 (tn ((hdX x t) 39 0)) t) y z H := hW.put 10 0 (show lv _ 10 0 by exact (by decide : 0 < 2)) (by exact e1) o1 (fun _ _ q => q) cu_44
    refine lv_aload_n C.hx C.hb dX4_climb_35 rfl (lv_at hl 0 rfl) ?_
    refine lv_dup C.hx C.hb dX4_climb_36 rfl ?_
    refine g_get (k := 3) (v := .int ((hdX x t) 39 0)) C (hW.1 9 0 rfl).1 rfl wu_X4 (by decide) wf_X4_22 rfl rfl dX4_climb_37 ?_
    refine lv_iconst (v := 1) C.hx C.hb dX4_climb_40 (by decide) ?_
    refine lv_iadd C.hx C.hb dX4_climb_41 ?_
    refine g_put (k := 3) tyX4 C hS (hW.1 9 0 rfl).1 (hW.1 9 0 rfl).2 rfl wu_X4 tyX4_ok nmX4 (by decide) wf_X4_22 rfl rfl rfl rfl rfl (Nat.le_of_ble_eq_true rfl) dX4_climb_42 (fun H locs e1 o1 z1 hS => ?_)
    have hW : CWd G A ad (up2 (up2 (up2 (hdX x t) 41 0 (if (hdA x t) < 3 then hdA x t else 3 : Int32)) 44 (tn ((hdX x t) 39 0)) t) 39 0 (((hdX x t) 39 0) + 1)) y z H := hW.put 9 0 rfl (by rw [← ce_39]; exact e1) o1 (fun _ _ q => q) cu_39
    refine lv_aload_n C.hx C.hb dX4_climb_45 rfl (lv_at hl 0 rfl) ?_
    refine g_get (k := 5) (v := .int ((if (hdA x t) < 3 then hdA x t else 3 : Int32))) C (hW.1 9 0 rfl).1 rfl wu_X4 (by decide) wf_X4_28 rfl rfl dX4_climb_46 ?_
    refine lv_iconst (v := 3) C.hx C.hb dX4_climb_49 (by decide) ?_
    refine lv_icmp_ge (tgt := 87) C.hx C.hb dX4_climb_50 (by decide) (fun c8 => ?_) (fun c8 => ?_)
    · refine lv_aload_n C.hx C.hb dX4_climb_87 rfl (lv_at hl 0 rfl) ?_
      refine g_get (k := 7) (v := .int ((hdX x t) 43 0)) C (hW.1 9 0 rfl).1 rfl wu_X4 (by decide) wf_X4_35 rfl rfl dX4_climb_88 ?_
      refine lv_if_ge (tgt := 99) C.hx C.hb dX4_climb_91 (by decide) (fun c9 => ?_) (fun c9 => ?_)
      · exact wV C hr dX4_climb_99 hS (by unfold sx_X4_climb; (first | rw [if_neg c1, if_pos c8, if_pos c9] | simp only [if_neg c1, if_pos c8, if_pos c9]); exact hW)
      · refine lv_aload_n C.hx C.hb dX4_climb_94 rfl (lv_at hl 0 rfl) ?_
        refine lv_iload_n C.hx C.hb dX4_climb_95 rfl (lv_at hl 1 rfl) ?_
        refine g_put (k := 7) tyX4 C hS (hW.1 9 0 rfl).1 (hW.1 9 0 rfl).2 rfl wu_X4 tyX4_ok nmX4 (by decide) wf_X4_35 rfl rfl rfl rfl rfl (Nat.le_of_ble_eq_true rfl) dX4_climb_96 (fun H locs e1 o1 z1 hS => ?_)
        have hW : CWd G A ad (up2 (up2 (up2 (up2 (hdX x t) 41 0 (if (hdA x t) < 3 then hdA x t else 3 : Int32)) 44 (tn ((hdX x t) 39 0)) t) 39 0 (((hdX x t) 39 0) + 1)) 43 0 t) y z H := hW.put 9 0 rfl (by rw [← ce_43]; exact e1) o1 (fun _ _ q => q) cu_43
        exact wV C hr dX4_climb_99 hS (by unfold sx_X4_climb; (first | rw [if_neg c1, if_pos c8, if_neg c9] | simp only [if_neg c1, if_pos c8, if_neg c9]); exact hW)
    · refine lv_aload_n C.hx C.hb dX4_climb_53 rfl (lv_at hl 0 rfl) ?_
      refine lv_aload_n C.hx C.hb dX4_climb_54 rfl (lv_at hl 0 rfl) ?_
      refine g_get (k := 6) (v := .int ((hdX x t) 42 0)) C (hW.1 9 0 rfl).1 rfl wu_X4 (by decide) wf_X4_31 rfl rfl dX4_climb_55 ?_
      refine W.joinI (P := fun jv => jv = (if ((hdX x t) 42 0) = 0 then (if ((if (hdA x t) < 3 then hdA x t else 3 : Int32) * ((hdX x t) 38 0)) ≤ (nw - t) then 0 else 1 : Int32) else 1 : Int32)) 81 ls [.ref (ad 9 0)] (fun J12 => ?_) (fun v13 hv13 => ?_)
      · refine lv_if_ne (tgt := 76) C.hx C.hb dX4_climb_58 (by decide) (fun c10 => ?_) (fun c10 => ?_)
        · refine lv_iconst (v := 1) C.hx C.hb dX4_climb_76 (by decide) ?_
          refine lv_goto (tgt := 81) C.hx C.hb dX4_climb_77 (by decide) ?_
          exact J12 _ (by rw [if_neg c10])
        · refine lv_iload_n C.hx C.hb dX4_climb_61 rfl (lv_at hl 2 rfl) ?_
          refine lv_iload_n C.hx C.hb dX4_climb_62 rfl (lv_at hl 1 rfl) ?_
          refine lv_isub C.hx C.hb dX4_climb_63 ?_
          refine lv_aload_n C.hx C.hb dX4_climb_64 rfl (lv_at hl 0 rfl) ?_
          refine g_get (k := 5) (v := .int ((if (hdA x t) < 3 then hdA x t else 3 : Int32))) C (hW.1 9 0 rfl).1 rfl wu_X4 (by decide) wf_X4_28 rfl rfl dX4_climb_65 ?_
          refine lv_aload_n C.hx C.hb dX4_climb_68 rfl (lv_at hl 0 rfl) ?_
          refine g_get (k := 1) (v := .int ((hdX x t) 38 0)) C (hW.1 9 0 rfl).1 rfl wu_X4 (by decide) wf_X4_15 rfl rfl dX4_climb_69 ?_
          refine lv_imul C.hx C.hb dX4_climb_72 ?_
          refine lv_icmp_ge (tgt := 80) C.hx C.hb dX4_climb_73 (by decide) (fun c11 => ?_) (fun c11 => ?_)
          · refine lv_iconst (v := 0) C.hx C.hb dX4_climb_80 (by decide) ?_
            exact J12 _ (by rw [if_pos c10, if_pos c11])
          · refine lv_iconst (v := 1) C.hx C.hb dX4_climb_76 (by decide) ?_
            refine lv_goto (tgt := 81) C.hx C.hb dX4_climb_77 (by decide) ?_
            exact J12 _ (by rw [if_pos c10, if_neg c11])
      · refine g_put (k := 6) tyX4 C hS (hW.1 9 0 rfl).1 (hW.1 9 0 rfl).2 rfl wu_X4 tyX4_ok nmX4 (by decide) wf_X4_31 rfl rfl rfl (nb01 (by rw [hv13]; (repeat' split) <;> simp)) (fb01 (by rw [hv13]; (repeat' split) <;> simp)) (Nat.le_of_ble_eq_true rfl) dX4_climb_81 (fun H locs e1 o1 z1 hS => ?_)
        have hW : CWd G A ad (up2 (up2 (up2 (up2 (hdX x t) 41 0 (if (hdA x t) < 3 then hdA x t else 3 : Int32)) 44 (tn ((hdX x t) 39 0)) t) 39 0 (((hdX x t) 39 0) + 1)) 42 0 v13) y z H := hW.put 9 0 rfl (by rw [← ce_42]; exact e1) o1 (fun _ _ q => q) cu_42
        refine lv_goto (tgt := 99) C.hx C.hb dX4_climb_84 (by decide) ?_
        exact wV C hr dX4_climb_99 hS (by rw [hv13] at hW; unfold sx_X4_climb; (first | rw [if_neg c1, if_neg c8] | simp only [if_neg c1, if_neg c8]); exact hW)
theorem LI.cl {x : XX} (h : LI x) (t nw : Int32) : LI (sx_X4_climb x t nw) := by
  have h2 := h.hd t
  obtain ⟨h1, h2, h3, h4⟩ := h2
  unfold sx_X4_climb
  split
  · repeat' split
    all_goals exact ⟨h1, h2, h3, h4⟩
  · rename_i hc
    have hb : tn (hdX x t 39 0) < 400 := nlt_i rfl h1 (by decide) (by omega) hc
    have e : hdX x t 39 0 + 1 = nI (tn (hdX x t 39 0) + 1) := (congrArg (fun q : Int32 => q + 1) h1).trans (nI_1 _)
    have e3 : tn (hdX x t 39 0 + 1) = tn (hdX x t 39 0) + 1 := by rw [e, tn_nI (by omega)]
    repeat' split
    all_goals
      refine ⟨?_, h2, ?_, ?_⟩
      · show hdX x t 39 0 + 1 = nI (tn (hdX x t 39 0 + 1)); rw [e3]; exact e
      · show tn (hdX x t 40 0) ≤ tn (hdX x t 39 0 + 1); omega
      · show tn (hdX x t 39 0 + 1) ≤ 400; omega
