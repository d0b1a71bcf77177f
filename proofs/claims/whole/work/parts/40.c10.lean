def KA (ad ad' : YY) : Prop := ∀ k, k ≠ 6 → ad' k = ad k
theorem KA.rf (ad : YY) : KA ad ad := fun _ _ => rfl
theorem KA.tr {a b c : YY} (h : KA a b) (k : KA b c) : KA a c := fun q hq => (k q hq).trans (h q hq)
theorem KA.tb (ad : YY) (i : Nat) : KA ad (tbA ad i) := fun k hk => by funext j; unfold tbA shf; rw [if_neg hk]
/-- all gifts of a judge go back, the last ones first -/
def lrF (j : Nat) : Nat → XX × YY → XX × YY
  | 0, s => s
  | i + 1, s => lrF j i (if s.2 6 i = j then (tbX s.1 s.2 i, tbY s.2 i) else s)
def lrS (x : XX) (y : YY) (j : Nat) : XX × YY := lrF j (y 20 2) (up2 x 9 j 1, y)
theorem lrF_ok (j : Nat) : ∀ (i : Nat) (s : XX × YY), i ≤ s.2 20 2 → CI s.2 → CI (lrF j i s).2 ∧ YK s.2 (lrF j i s).2
  | 0, s, _, h => ⟨h, YK.rf _⟩
  | i + 1, s, hi, h => by
    show CI (lrF j i _).2 ∧ YK s.2 (lrF j i _).2
    by_cases q : s.2 6 i = j
    · rw [if_pos q]
      have h2 := lrF_ok j i (tbX s.1 s.2 i, tbY s.2 i) (show i ≤ s.2 20 2 - 1 by omega) (h.tb (by omega))
      exact ⟨h2.1, (YK.tb s.2 i).tr h2.2⟩
    · rw [if_neg q]
      exact lrF_ok j i s (by omega) h
theorem lrS_ok {x : XX} {y : YY} {j : Nat} (h : CI y) : CI (lrS x y j).2 ∧ YK y (lrS x y j).2 := lrF_ok j _ (up2 x 9 j 1, y) (Nat.le_refl _) h
theorem lrF_t {j i : Nat} {x : XX} {y : YY} (h : y 6 i = j) : lrF j (i + 1) (x, y) = lrF j i (tbX x y i, tbY y i) := by
  show lrF j i (if y 6 i = j then _ else _) = _
  rw [if_pos h]
theorem lrF_f {j i : Nat} {x : XX} {y : YY} (h : ¬ y 6 i = j) : lrF j (i + 1) (x, y) = lrF j i (x, y) := by
  show lrF j i (if y 6 i = j then _ else _) = _
  rw [if_neg h]
theorem nn_sub {n : Nat} (hn : n ≤ 1000) (h : 0 ≤ nI n - 1) : 0 < n := by
  have h1 := Int32.le_iff_toInt_le.mp h
  have h2 := nIm1 hn
  have h3 : (0 : Int32).toInt = 0 := rfl
  omega
set_option maxRecDepth 100000 in
set_option maxHeartbeats 1000000 in
theorem cC_X7_layToRest (l : Launch) (G : GG) (A : Nat → Prop) (ad : YY) (x : XX) (y : YY) (z : Nat → Int64) (hI : CI y) (j : Nat) (hj : j < 20) : MW l G yX7_layToRest cX7_layToRest 3 none 5 [.ref (ad 0 0), .ref (ad 2 j)] (CWd G A ad x y z) none (fun H => ∃ ad', KA ad ad' ∧ CWd G A ad' (lrS x y j).1 (lrS x y j).2 z H) A 0 0 := by
  refine MW.of RX7 rfl (by decide) (Nat.le_of_ble_eq_true rfl) ?_
  intro p_ e_ s_ m_ args_ below_ meth_ c_ ls hargs C hr hnm hW hS hl
  have hl : lv_has ls 3 [(0, .ref (ad 0 0)), (1, .ref (ad 2 j))] := hl
  obtain ⟨-, -, -, bP, bC, bG, bL⟩ := id hI
  refine lv_aload_n C.hx C.hb dX7_layToRest_0 rfl (lv_at hl 1 rfl) ?_
  refine lv_iconst (v := 1) C.hx C.hb dX7_layToRest_1 (by decide) ?_
  refine g_putN (k := 5) tyX3 C hS (hW.1 2 j (show j < 20 by omega)).1 (hW.1 2 j (show j < 20 by omega)).2 rfl wu_X3 tyX3_ok nmX3 (by decide) wn_X7_144 rfl rfl rfl (nb1) rfl (Nat.le_of_ble_eq_true rfl) dX7_layToRest_2 (fun H locs e1 o1 z1 hS => ?_)
  have hW : CWd G A ad (up2 x 9 j 1) y z H := hW.put 2 j (show j < 20 by omega) (by rw [← ce_9]; exact e1) o1 (fun _ _ q => q) cu_9
  refine lv_aload_n C.hx C.hb dX7_layToRest_5 rfl (lv_at hl 0 rfl) ?_
  refine g_get (k := 4) (v := .ref (ad 7 2)) C (hW.1 0 0 rfl).1 rfl wu_X7 (by decide) wf_X7_31 rfl rfl dX7_layToRest_6 ?_
  refine kVR (As := []) (rest := []) (v := .int (nI (y 20 2))) C (cJ_size l G (ad 7 2) _ (y 20 2) _) lk_X7_83 (g_recv C (hW.1 7 2 (show 2 < 3 by decide)).1 rfl) (hW.1 7 2 (show 2 < 3 by decide)).1 rfl rfl hl (Nat.le_of_ble_eq_true rfl) dX7_layToRest_9 ⟨⟨by decide, by decide⟩, by decide, by decide⟩ ?_
  refine lv_iconst (v := 1) C.hx C.hb dX7_layToRest_12 (by decide) ?_
  refine lv_isub C.hx C.hb dX7_layToRest_13 ?_
  refine lv_istore_n (lv' := [(2, .int ((nI (y 20 2)) - 1)), (0, .ref (ad 0 0)), (1, .ref (ad 2 j))]) C.hx C.hb dX7_layToRest_14 rfl hl (by decide) rfl (fun ls hl => ?_)
  rw [show (nI (y 20 2)) - 1 = pri (y 20 2) from rfl] at hl
  refine W.loopWD (Inv := fun i ls H locs => ∃ (ad1 : YY) (x1 : XX) (y1 : YY), KA ad ad1 ∧ lv_has ls 3 [(2, .int (pri i)), (0, .ref (ad1 0 0)), (1, .ref (ad1 2 j))] ∧ lrF j i (x1, y1) = lrS x y j ∧ CI y1 ∧ i ≤ y1 20 2 ∧ CWd G A ad1 x1 y1 z H ∧ va_S A s_.heap H locs) 15 [] (fun i1 ls H locs hq K1 => ?_) (fun ls H locs hq => ?_) (y 20 2) ls _ _ ⟨ad, _, y, KA.rf ad, lv_sub hl [0, 1, 2] rfl, rfl, hI, Nat.le_refl _, hW, hS⟩
  · obtain ⟨ad1, x1, y1, ka, hl, elr, hI1, hle, hW, hS⟩ := hq
    obtain ⟨-, -, -, bP, bC, bG, bL⟩ := id hI1
    rw [show pri (i1 + 1) = nI i1 from pri_p i1] at hl
    refine lv_iload_n C.hx C.hb dX7_layToRest_15 rfl (lv_at hl 0 rfl) ?_
    refine lv_if_lt (tgt := 48) C.hx C.hb dX7_layToRest_16 (by decide) (fun c1 => ?_) (fun c1 => ?_)
    · exact absurd c1 (nI_pos (by omega))
    · refine lv_aload_n C.hx C.hb dX7_layToRest_19 rfl (lv_at hl 1 rfl) ?_
      refine g_get (k := 4) (v := .ref (ad1 7 2)) C (hW.1 0 0 rfl).1 rfl wu_X7 (by decide) wf_X7_31 rfl rfl dX7_layToRest_20 ?_
      refine lv_iload_n C.hx C.hb dX7_layToRest_23 rfl (lv_at hl 0 rfl) ?_
      refine kVR (As := [.int (nI i1)]) (rest := []) (v := .ref (ad1 6 i1)) C (cC_get l G ad1 x1 y1 hI1 2 i1 (by decide) (by omega)) lk_X7_169 (g_recv C (hW.1 7 2 (show 2 < 3 by decide)).1 rfl) (CWd.ls hW hI1 2 (by decide) (by omega)) rfl rfl hl (Nat.le_of_ble_eq_true rfl) dX7_layToRest_24 ⟨⟨by decide, by decide⟩, by decide, by decide⟩ ?_
      refine va_castS C.hx C.hb C.hown (C.hT _ wl_X7_156) (C.hK.1.1 2 _ rfl).2 (g_recv C (hW.1 6 i1 (show i1 < y1 20 2 by omega)).1 rfl) dX7_layToRest_27 ?_
      refine g_getN (k := 0) (v := .ref (ad1 2 (y1 6 i1))) C (hW.1 6 i1 (show i1 < y1 20 2 by omega)).1 rfl wu_X1 (by decide) wn_X7_335 rfl rfl dX7_layToRest_30 ?_
      have g2 := (hI1.2.2.1 i1 (by omega)).1
      refine lv_aload_n C.hx C.hb dX7_layToRest_33 rfl (lv_at hl 2 rfl) ?_
      refine g_acmp_ne (g := ad1 2) (i := (y1 6 i1)) (j := j) (fun q => (hW.2.1 2 (y1 6 i1) 2 j (show (y1 6 i1) < 20 by omega) (show j < 20 by omega) q).2) (tgt := 42) C.hx C.hb dX7_layToRest_34 (by decide) (fun c3 => ?_) (fun c3 => ?_)
      · refine lv_iinc (v := (nI i1) + (-1)) (lv' := [(2, .int ((nI i1) + (-1))), (0, .ref (ad1 0 0)), (1, .ref (ad1 2 j))]) C.hx C.hb dX7_layToRest_42 hl (k := 0) rfl rfl (by decide) rfl (fun ls hl => ?_)
        refine lv_goto (tgt := 15) C.hx C.hb dX7_layToRest_45 (by decide) ?_
        rw [show nI i1 + (-1) = pri i1 from pri_s i1] at hl
        exact K1 _ _ _ ⟨ad1, x1, y1, ka, lv_sub hl [0, 1, 2] rfl, (lrF_f c3).symm.trans elr, hI1, by omega, hW, hS⟩
      · refine lv_aload_n C.hx C.hb dX7_layToRest_37 rfl (lv_at hl 1 rfl) ?_
        refine lv_iload_n C.hx C.hb dX7_layToRest_38 rfl (lv_at hl 0 rfl) ?_
        refine kVWn (As := [.int (nI i1)]) (rest := []) C (cC_X7_takeBack l G A ad1 x1 y1 z hI1 i1 (by omega)) lk_X7_177 (g_recv C (hW.1 0 0 rfl).1 rfl) hW rfl rfl hl (Nat.le_of_ble_eq_true rfl) dX7_layToRest_39 ⟨⟨by decide, by decide⟩, by decide, by decide⟩ hS (fun q h => h) (fun H locs hP hz1 hk1 hS => ?_)
        obtain ⟨ad4, ka4, hW⟩ : ∃ ad', KA ad1 ad' ∧ CWd G A ad' (tbX x1 y1 i1) (tbY y1 i1) z H := ⟨_, KA.tb _ _, hP⟩
        have hl : lv_has ls 3 [(2, .int (nI i1)), (0, .ref (ad4 0 0)), (1, .ref (ad4 2 j))] := by rw [ka4 0 (by decide), ka4 2 (by decide)]; exact hl
        have hI4 : CI (tbY y1 i1) := CI.tb hI1 (by omega)
        have yk4 : YK y1 (tbY y1 i1) := YK.tb _ _
        have yb4 : (tbY y1 i1) 20 0 = y1 20 0 ∧ (tbY y1 i1) 20 1 = y1 20 1 := yk4.2
        refine lv_iinc (v := (nI i1) + (-1)) (lv' := [(2, .int ((nI i1) + (-1))), (0, .ref (ad4 0 0)), (1, .ref (ad4 2 j))]) C.hx C.hb dX7_layToRest_42 hl (k := 0) rfl rfl (by decide) rfl (fun ls hl => ?_)
        refine lv_goto (tgt := 15) C.hx C.hb dX7_layToRest_45 (by decide) ?_
        rw [show nI i1 + (-1) = pri i1 from pri_s i1] at hl
        exact K1 _ _ _ ⟨_, _, _, KA.tr ka ka4, lv_sub hl [0, 1, 2] rfl, (lrF_t c3).symm.trans elr, hI4, (show i1 ≤ y1 20 2 - 1 by omega), hW, hS⟩
  · obtain ⟨ad1, x1, y1, ka, hl, elr, hI1, hle, hW, hS⟩ := hq
    refine lv_iload_n C.hx C.hb dX7_layToRest_15 rfl (lv_at hl 0 rfl) ?_
    refine lv_if_lt (tgt := 48) C.hx C.hb dX7_layToRest_16 (by decide) (fun c5 => ?_) (fun c5 => ?_)
    · exact wV C hr dX7_layToRest_48 hS ⟨ad1, ka, by rw [← elr]; exact hW⟩
    · exact absurd (by decide) c5
/-- judges that are doubted come to rest, the least first -/
def rdF : Nat → XX × YY → XX × YY := fun j s => if s_X7_askedOf s.1 s.2 j < 5 then s else if s_X7_stoodAlone s.1 s.2 j * 100 ≤ s.1 1 0 * s_X7_askedOf s.1 s.2 j then s else lrS s.1 s.2 j
def rdS (x : XX) (y : YY) : XX × YY := itrG rdF (x, y) 20
theorem rdF_a {x : XX} {y : YY} {j : Nat} (h : (s_X7_askedOf x y j) < 5) : rdF j (x, y) = (x, y) := if_pos h
theorem rdF_b {x : XX} {y : YY} {j : Nat} (h : ¬ (s_X7_askedOf x y j) < 5) (k : ((s_X7_stoodAlone x y j) * 100) ≤ ((x 1 0) * (s_X7_askedOf x y j))) : rdF j (x, y) = (x, y) := (if_neg h).trans (if_pos k)
theorem rdF_c {x : XX} {y : YY} {j : Nat} (h : ¬ (s_X7_askedOf x y j) < 5) (k : ¬ ((s_X7_stoodAlone x y j) * 100) ≤ ((x 1 0) * (s_X7_askedOf x y j))) : rdF j (x, y) = lrS x y j := (if_neg h).trans (if_neg k)
theorem itrG_s {α : Type} {f : Nat → α → α} {a b c : α} {i : Nat} (h : itrG f a i = b) (k : f i b = c) : itrG f a (i + 1) = c := by
  show f i (itrG f a i) = c
  rw [h]; exact k
theorem itrG_inv2 {α : Type} {f : Nat → α → α} {a : α} {P : α → Prop} (h0 : P a) (hs : ∀ i b, P b → P (f i b)) (n : Nat) : P (itrG f a n) := by
  induction n with
  | zero => exact h0
  | succ n ih => exact hs n _ ih
theorem rdS_ok {x : XX} {y : YY} (h : CI y) : CI (rdS x y).2 ∧ YK y (rdS x y).2 := by
  refine itrG_inv2 (P := fun s : XX × YY => CI s.2 ∧ YK y s.2) ⟨h, YK.rf y⟩ (fun j s hs => ?_) 20
  unfold rdF
  split
  · exact hs
  · split
    · exact hs
    · exact ⟨(lrS_ok hs.1).1, hs.2.tr (lrS_ok hs.1).2⟩
set_option maxRecDepth 100000 in
set_option maxHeartbeats 1000000 in
theorem cC_X7_restDoubtedJudges (l : Launch) (G : GG) (A : Nat → Prop) (ad : YY) (x : XX) (y : YY) (z : Nat → Int64) (hI : CI y) : MW l G yX7_restDoubtedJudges cX7_restDoubtedJudges 6 none 6 [.ref (ad 0 0)] (CWd G A ad x y z) none (fun H => ∃ ad', KA ad ad' ∧ CWd G A ad' (rdS x y).1 (rdS x y).2 z H) A 0 0 := by
  refine MW.of RX7 rfl (by decide) (Nat.le_of_ble_eq_true rfl) ?_
  intro p_ e_ s_ m_ args_ below_ meth_ c_ ls hargs C hr hnm hW hS hl
  have hl : lv_has ls 6 [(0, .ref (ad 0 0))] := hl
  refine lv_aload_n C.hx C.hb dX7_restDoubtedJudges_0 rfl (lv_at hl 0 rfl) ?_
  refine g_get (k := 1) (v := .ref (ad 12 0)) C (hW.1 0 0 rfl).1 rfl wu_X7 (by decide) wf_X7_17 rfl rfl dX7_restDoubtedJudges_1 ?_
  refine lv_astore_n (lv' := [(1, .ref (ad 12 0)), (0, .ref (ad 0 0))]) C.hx C.hb dX7_restDoubtedJudges_4 rfl hl (by decide) rfl (fun ls hl => ?_)
  refine lv_aload_n C.hx C.hb dX7_restDoubtedJudges_5 rfl (lv_at hl 0 rfl) ?_
  refine g_alen (t := 0) C (hW.1 12 0 (rfl)).1 4 rfl dX7_restDoubtedJudges_6 ?_
  show W _ _ _ _ _ _ _ _ _ _ _ _ _ _ _ (F0 m_ 7 ls [.int (nI 20)])
  refine lv_istore_n (lv' := [(2, .int (nI 20)), (1, .ref (ad 12 0)), (0, .ref (ad 0 0))]) C.hx C.hb dX7_restDoubtedJudges_7 rfl hl (by decide) rfl (fun ls hl => ?_)
  refine lv_iconst (v := 0) C.hx C.hb dX7_restDoubtedJudges_8 (by decide) ?_
  refine lv_istore_n (lv' := [(3, .int 0), (2, .int (nI 20)), (1, .ref (ad 12 0)), (0, .ref (ad 0 0))]) C.hx C.hb dX7_restDoubtedJudges_9 rfl hl (by decide) rfl (fun ls hl => ?_)
  refine W.loopG (N := 20) (Inv := fun i ls H locs => ∃ (ad1 : YY) (x1 : XX) (y1 : YY), KA ad ad1 ∧ lv_has ls 6 [(3, .int (nI i)), (0, .ref (ad1 0 0)), (1, .ref (ad1 12 0)), (2, .int (nI 20))] ∧ itrG rdF (x, y) i = (x1, y1) ∧ CI y1 ∧ CWd G A ad1 x1 y1 z H ∧ va_S A s_.heap H locs) 10 [] (fun i1 ls H locs hi1 hq K1 => ?_) 0 ls _ _ (Nat.zero_le _) ⟨ad, x, y, KA.rf ad, lv_sub hl [0, 3, 2, 1] rfl, rfl, hI, hW, hS⟩
  obtain ⟨ad1, x1, y1, ka, hl, erd, hI1, hW, hS⟩ := hq
  obtain ⟨-, -, -, bP, bC, bG, bL⟩ := id hI1
  refine lv_iload_n C.hx C.hb dX7_restDoubtedJudges_10 rfl (lv_at hl 0 rfl) ?_
  refine lv_iload_n C.hx C.hb dX7_restDoubtedJudges_11 rfl (lv_at hl 3 rfl) ?_
  refine lv_icmp_ge (tgt := 65) C.hx C.hb dX7_restDoubtedJudges_12 (by decide) (fun c1 => ?_) (fun c1 => ?_)
  · have gc1 := le_i rfl rfl (by decide) (by omega) c1
    have e9 : i1 = 20 := by omega
    subst e9
    exact wV C hr dX7_restDoubtedJudges_65 hS ⟨ad1, ka, by unfold rdS; rw [erd]; exact hW⟩
  · have gc1 := nlt_i rfl rfl (by decide) (by omega) c1
    refine lv_aload_n C.hx C.hb dX7_restDoubtedJudges_15 rfl (lv_at hl 2 rfl) ?_
    refine lv_iload_n C.hx C.hb dX7_restDoubtedJudges_16 rfl (lv_at hl 0 rfl) ?_
    refine g_aald (t0 := 4) (k := i1) (v := ad1 2 i1) C (hW.1 12 0 rfl).1 rfl rfl (show i1 < 20 by omega) (by decide) rfl dX7_restDoubtedJudges_17 ?_
    refine lv_astore (lv' := [(4, .ref (ad1 2 i1)), (3, .int (nI i1)), (0, .ref (ad1 0 0)), (1, .ref (ad1 12 0)), (2, .int (nI 20))]) C.hx C.hb dX7_restDoubtedJudges_18 hl (by decide) rfl (fun ls hl => ?_)
    refine lv_aload_n C.hx C.hb dX7_restDoubtedJudges_20 rfl (lv_at hl 2 rfl) ?_
    refine lv_aload C.hx C.hb dX7_restDoubtedJudges_21 (lv_at hl 0 rfl) ?_
    refine kVR (As := [.ref (ad1 2 i1)]) (rest := []) (v := .int (s_X7_askedOf x1 y1 i1)) C (cC_X7_askedOf l G A ad1 x1 y1 z hI1 i1 (by omega)) lk_X7_210 (g_recv C (hW.1 0 0 rfl).1 rfl) hW rfl rfl hl (Nat.le_of_ble_eq_true rfl) dX7_restDoubtedJudges_23 ⟨⟨by decide, by decide⟩, by decide, by decide⟩ ?_
    refine lv_istore (lv' := [(5, .int (s_X7_askedOf x1 y1 i1)), (4, .ref (ad1 2 i1)), (3, .int (nI i1)), (0, .ref (ad1 0 0)), (1, .ref (ad1 12 0)), (2, .int (nI 20))]) C.hx C.hb dX7_restDoubtedJudges_26 hl (by decide) rfl (fun ls hl => ?_)
    refine lv_iload C.hx C.hb dX7_restDoubtedJudges_28 (lv_at hl 0 rfl) ?_
    refine lv_iconst (v := 5) C.hx C.hb dX7_restDoubtedJudges_30 (by decide) ?_
    refine lv_icmp_lt (tgt := 59) C.hx C.hb dX7_restDoubtedJudges_31 (by decide) (fun c2 => ?_) (fun c2 => ?_)
    · refine lv_iinc (v := (nI i1) + 1) (lv' := [(3, .int ((nI i1) + 1)), (5, .int (s_X7_askedOf x1 y1 i1)), (4, .ref (ad1 2 i1)), (0, .ref (ad1 0 0)), (1, .ref (ad1 12 0)), (2, .int (nI 20))]) C.hx C.hb dX7_restDoubtedJudges_59 hl (k := 2) rfl rfl (by decide) rfl (fun ls hl => ?_)
      refine lv_goto (tgt := 10) C.hx C.hb dX7_restDoubtedJudges_62 (by decide) ?_
      rw [nI_1 i1] at hl
      exact K1 (i1 + 1) _ _ _ (by omega) (by omega) ⟨ad1, x1, y1, ka, lv_sub hl [0, 3, 4, 5] rfl, itrG_s erd (rdF_a c2), hI1, hW, hS⟩
    · refine lv_aload_n C.hx C.hb dX7_restDoubtedJudges_34 rfl (lv_at hl 3 rfl) ?_
      refine lv_aload C.hx C.hb dX7_restDoubtedJudges_35 (lv_at hl 1 rfl) ?_
      refine kVR (As := [.ref (ad1 2 i1)]) (rest := []) (v := .int (s_X7_stoodAlone x1 y1 i1)) C (cC_X7_stoodAlone l G A ad1 x1 y1 z hI1 i1 (by omega)) lk_X7_214 (g_recv C (hW.1 0 0 rfl).1 rfl) hW rfl rfl hl (Nat.le_of_ble_eq_true rfl) dX7_restDoubtedJudges_37 ⟨⟨by decide, by decide⟩, by decide, by decide⟩ ?_
      refine lv_bipush (v := 100) C.hx C.hb dX7_restDoubtedJudges_40 (by decide) ?_
      refine lv_imul C.hx C.hb dX7_restDoubtedJudges_42 ?_
      refine lv_aload_n C.hx C.hb dX7_restDoubtedJudges_43 rfl (lv_at hl 3 rfl) ?_
      refine g_get (k := 8) (v := .int (x1 1 0)) C (hW.1 0 0 rfl).1 rfl wu_X7 (by decide) wf_X7_49 rfl rfl dX7_restDoubtedJudges_44 ?_
      refine lv_iload C.hx C.hb dX7_restDoubtedJudges_47 (lv_at hl 0 rfl) ?_
      refine lv_imul C.hx C.hb dX7_restDoubtedJudges_49 ?_
      refine lv_icmp_le (tgt := 59) C.hx C.hb dX7_restDoubtedJudges_50 (by decide) (fun c3 => ?_) (fun c3 => ?_)
      · refine lv_iinc (v := (nI i1) + 1) (lv' := [(3, .int ((nI i1) + 1)), (5, .int (s_X7_askedOf x1 y1 i1)), (4, .ref (ad1 2 i1)), (0, .ref (ad1 0 0)), (1, .ref (ad1 12 0)), (2, .int (nI 20))]) C.hx C.hb dX7_restDoubtedJudges_59 hl (k := 2) rfl rfl (by decide) rfl (fun ls hl => ?_)
        refine lv_goto (tgt := 10) C.hx C.hb dX7_restDoubtedJudges_62 (by decide) ?_
        rw [nI_1 i1] at hl
        exact K1 (i1 + 1) _ _ _ (by omega) (by omega) ⟨ad1, x1, y1, ka, lv_sub hl [0, 3, 4, 5] rfl, itrG_s erd (rdF_b c2 c3), hI1, hW, hS⟩
      · refine lv_aload_n C.hx C.hb dX7_restDoubtedJudges_53 rfl (lv_at hl 3 rfl) ?_
        refine lv_aload C.hx C.hb dX7_restDoubtedJudges_54 (lv_at hl 1 rfl) ?_
        refine kVWn (As := [.ref (ad1 2 i1)]) (rest := []) C (cC_X7_layToRest l G A ad1 x1 y1 z hI1 i1 (by omega)) lk_X7_148 (g_recv C (hW.1 0 0 rfl).1 rfl) hW rfl rfl hl (Nat.le_of_ble_eq_true rfl) dX7_restDoubtedJudges_56 ⟨⟨by decide, by decide⟩, by decide, by decide⟩ hS (fun q h => h) (fun H locs hP hz1 hk1 hS => ?_)
        obtain ⟨ad4, ka4, hW⟩ : ∃ ad', KA ad1 ad' ∧ CWd G A ad' (lrS x1 y1 i1).1 (lrS x1 y1 i1).2 z H := hP
        have hl : lv_has ls 6 [(5, .int (s_X7_askedOf x1 y1 i1)), (4, .ref (ad4 2 i1)), (3, .int (nI i1)), (0, .ref (ad4 0 0)), (1, .ref (ad4 12 0)), (2, .int (nI 20))] := by rw [ka4 2 (by decide), ka4 0 (by decide), ka4 12 (by decide)]; exact hl
        have hI4 : CI (lrS x1 y1 i1).2 := (lrS_ok hI1).1
        have yk4 : YK y1 (lrS x1 y1 i1).2 := (lrS_ok hI1).2
        have yb4 : (lrS x1 y1 i1).2 20 0 = y1 20 0 ∧ (lrS x1 y1 i1).2 20 1 = y1 20 1 := yk4.2
        refine lv_iinc (v := (nI i1) + 1) (lv' := [(3, .int ((nI i1) + 1)), (5, .int (s_X7_askedOf x1 y1 i1)), (4, .ref (ad4 2 i1)), (0, .ref (ad4 0 0)), (1, .ref (ad4 12 0)), (2, .int (nI 20))]) C.hx C.hb dX7_restDoubtedJudges_59 hl (k := 2) rfl rfl (by decide) rfl (fun ls hl => ?_)
        refine lv_goto (tgt := 10) C.hx C.hb dX7_restDoubtedJudges_62 (by decide) ?_
        rw [nI_1 i1] at hl
        exact K1 (i1 + 1) _ _ _ (by omega) (by omega) ⟨_, _, _, KA.tr ka ka4, lv_sub hl [0, 3, 4, 5] rfl, itrG_s erd (rdF_c c2 c3), hI4, hW, hS⟩
def sx_X7_settle (x : XX) (y : YY) (c : Nat) : XX := (if (x 22 (i_X0_hearing y c)) ≤ (s_X2_votes x (i_X0_hearing y c)) then (if (s_X2_isAgreed x (i_X0_hearing y c)) = 0 then (if (s_X2_mayAskMore x (i_X0_hearing y c)) = 0 then (rdS (up2 (sx_X0_close x y c) 2 0 (((sx_X0_close x y c) 2 0) + 1)) y).1 else (sx_X2_askMore x (i_X0_hearing y c))) else (rdS (up2 (sx_X0_close x y c) 2 0 (((sx_X0_close x y c) 2 0) + 1)) y).1) else x)
def sy_X7_settle (x : XX) (y : YY) (c : Nat) : YY := (if (x 22 (i_X0_hearing y c)) ≤ (s_X2_votes x (i_X0_hearing y c)) then (if (s_X2_isAgreed x (i_X0_hearing y c)) = 0 then (if (s_X2_mayAskMore x (i_X0_hearing y c)) = 0 then (rdS (up2 (sx_X0_close x y c) 2 0 (((sx_X0_close x y c) 2 0) + 1)) y).2 else y) else (rdS (up2 (sx_X0_close x y c) 2 0 (((sx_X0_close x y c) 2 0) + 1)) y).2) else y)
set_option maxRecDepth 100000 in
set_option maxHeartbeats 1000000 in
theorem cC_X7_settle (l : Launch) (G : GG) (A : Nat → Prop) (ad : YY) (x : XX) (y : YY) (z : Nat → Int64) (hI : CI y) (c : Nat) (hc : c < y 20 1) : MW l G yX7_settle cX7_settle 3 none 7 [.ref (ad 0 0), .ref (ad 4 c)] (CWd G A ad x y z) none (fun H => ∃ ad', KA ad ad' ∧ CWd G A ad' (sx_X7_settle x y c) (sy_X7_settle x y c) z H) A 0 0 := by
  refine MW.of RX7 rfl (by decide) (Nat.le_of_ble_eq_true rfl) ?_
  intro p_ e_ s_ m_ args_ below_ meth_ c_ ls hargs C hr hnm hW hS hl
  obtain ⟨-, -, -, bP, bC, bG, bL⟩ := id hI
  have hl : lv_has ls 3 [(0, .ref (ad 0 0)), (1, .ref (ad 4 c))] := hl
  refine lv_aload_n C.hx C.hb dX7_settle_0 rfl (lv_at hl 1 rfl) ?_
  refine kVNR (As := []) (rest := []) (v := .ref (ad 5 (i_X0_hearing y c))) C (cC_X0_hearing l G A ad x y z c (by omega)) lk_X7_190 (g_recv C (hW.1 4 c (show c < y 20 1 by omega)).1 rfl) hW rfl rfl hl (Nat.le_of_ble_eq_true rfl) dX7_settle_1 ⟨⟨by decide, by decide⟩, by decide, by decide⟩ ?_
  refine lv_astore_n (lv' := [(2, .ref (ad 5 (i_X0_hearing y c))), (0, .ref (ad 0 0)), (1, .ref (ad 4 c))]) C.hx C.hb dX7_settle_4 rfl hl (by decide) rfl (fun ls hl => ?_)
  refine lv_aload_n C.hx C.hb dX7_settle_5 rfl (lv_at hl 0 rfl) ?_
  refine kVNR (As := []) (rest := []) (v := .int (s_X2_votes x (i_X0_hearing y c))) C (cC_X2_votes l G A ad x y z (i_X0_hearing y c) (lvHe c (by omega))) lk_X7_247 (g_recv C (hW.1 5 (i_X0_hearing y c) (lvHe c (by omega))).1 rfl) hW rfl rfl hl (Nat.le_of_ble_eq_true rfl) dX7_settle_6 ⟨⟨by decide, by decide⟩, by decide, by decide⟩ ?_
  refine lv_aload_n C.hx C.hb dX7_settle_9 rfl (lv_at hl 0 rfl) ?_
  refine g_getN (k := 0) (v := .int (x 22 (i_X0_hearing y c))) C (hW.1 5 (i_X0_hearing y c) (lvHe c (by omega))).1 rfl wu_X2 (by decide) wn_X7_231 rfl rfl dX7_settle_10 ?_
  refine lv_icmp_ge (tgt := 17) C.hx C.hb dX7_settle_13 (by decide) (fun c1 => ?_) (fun c1 => ?_)
  · refine lv_aload_n C.hx C.hb dX7_settle_17 rfl (lv_at hl 0 rfl) ?_
    refine kVNR (As := []) (rest := []) (v := .int (s_X2_isAgreed x (i_X0_hearing y c))) C (cC_X2_isAgreed l G A ad x y z (i_X0_hearing y c) (lvHe c (by omega))) lk_X7_342 (g_recv C (hW.1 5 (i_X0_hearing y c) (lvHe c (by omega))).1 rfl) hW rfl rfl hl (Nat.le_of_ble_eq_true rfl) dX7_settle_18 ⟨⟨by decide, by decide⟩, by decide, by decide⟩ ?_
    refine lv_if_ne (tgt := 36) C.hx C.hb dX7_settle_21 (by decide) (fun c2 => ?_) (fun c2 => ?_)
    · refine lv_aload_n C.hx C.hb dX7_settle_36 rfl (lv_at hl 2 rfl) ?_
      refine kVNWn (As := []) (rest := []) C (cC_X0_close l G A ad x y z c (by omega)) lk_X7_351 (g_recv C (hW.1 4 c (show c < y 20 1 by omega)).1 rfl) hW rfl rfl hl (Nat.le_of_ble_eq_true rfl) dX7_settle_37 ⟨⟨by decide, by decide⟩, by decide, by decide⟩ hS (fun q h => h) (fun H locs hP hz1 hk1 hS => ?_)
      have hW : CWd G A ad (sx_X0_close x y c) y z H := hP
      refine lv_aload_n C.hx C.hb dX7_settle_40 rfl (lv_at hl 1 rfl) ?_
      refine lv_dup C.hx C.hb dX7_settle_41 rfl ?_
      refine g_get (k := 9) (v := .int ((sx_X0_close x y c) 2 0)) C (hW.1 0 0 rfl).1 rfl wu_X7 (by decide) wf_X7_52 rfl rfl dX7_settle_42 ?_
      refine lv_iconst (v := 1) C.hx C.hb dX7_settle_45 (by decide) ?_
      refine lv_iadd C.hx C.hb dX7_settle_46 ?_
      refine g_put (k := 9) tyX7 C hS (hW.1 0 0 rfl).1 (hW.1 0 0 rfl).2 rfl wu_X7 tyX7_ok nmX7 (by decide) wf_X7_52 rfl rfl rfl rfl rfl (Nat.le_of_ble_eq_true rfl) dX7_settle_47 (fun H locs e1 o1 z1 hS => ?_)
      have hW : CWd G A ad (up2 (sx_X0_close x y c) 2 0 (((sx_X0_close x y c) 2 0) + 1)) y z H := hW.put 0 0 rfl (by rw [← ce_2]; exact e1) o1 (fun _ _ q => q) cu_2
      refine lv_aload_n C.hx C.hb dX7_settle_50 rfl (lv_at hl 1 rfl) ?_
      refine kVWn (As := []) (rest := []) C (cC_X7_restDoubtedJudges l G A ad (up2 (sx_X0_close x y c) 2 0 (((sx_X0_close x y c) 2 0) + 1)) y z hI) lk_X7_261 (g_recv C (hW.1 0 0 rfl).1 rfl) hW rfl rfl hl (Nat.le_of_ble_eq_true rfl) dX7_settle_51 ⟨⟨by decide, by decide⟩, by decide, by decide⟩ hS (fun q h => h) (fun H locs hP hz1 hk1 hS => ?_)
      obtain ⟨ad3, ka3, hW⟩ : ∃ ad', KA ad ad' ∧ CWd G A ad' (rdS (up2 (sx_X0_close x y c) 2 0 (((sx_X0_close x y c) 2 0) + 1)) y).1 (rdS (up2 (sx_X0_close x y c) 2 0 (((sx_X0_close x y c) 2 0) + 1)) y).2 z H := hP
      have hl : lv_has ls 3 [(2, .ref (ad3 5 (i_X0_hearing y c))), (0, .ref (ad3 0 0)), (1, .ref (ad3 4 c))] := by rw [ka3 5 (by decide), ka3 0 (by decide), ka3 4 (by decide)]; exact hl
      have hI3 : CI (rdS (up2 (sx_X0_close x y c) 2 0 (((sx_X0_close x y c) 2 0) + 1)) y).2 := (rdS_ok hI).1
      have yk3 : YK y (rdS (up2 (sx_X0_close x y c) 2 0 (((sx_X0_close x y c) 2 0) + 1)) y).2 := (rdS_ok hI).2
      have yb3 : (rdS (up2 (sx_X0_close x y c) 2 0 (((sx_X0_close x y c) 2 0) + 1)) y).2 20 0 = y 20 0 ∧ (rdS (up2 (sx_X0_close x y c) 2 0 (((sx_X0_close x y c) 2 0) + 1)) y).2 20 1 = y 20 1 := yk3.2
      exact wV C hr dX7_settle_54 hS ⟨ad3, ka3, (by unfold sx_X7_settle sy_X7_settle; simp only [if_pos c1, if_neg c2]; exact hW)⟩
    · refine lv_aload_n C.hx C.hb dX7_settle_24 rfl (lv_at hl 0 rfl) ?_
      refine kVNR (As := []) (rest := []) (v := .int (s_X2_mayAskMore x (i_X0_hearing y c))) C (cC_X2_mayAskMore l G A ad x y z (i_X0_hearing y c) (lvHe c (by omega))) lk_X7_345 (g_recv C (hW.1 5 (i_X0_hearing y c) (lvHe c (by omega))).1 rfl) hW rfl rfl hl (Nat.le_of_ble_eq_true rfl) dX7_settle_25 ⟨⟨by decide, by decide⟩, by decide, by decide⟩ ?_
      refine lv_if_eq (tgt := 36) C.hx C.hb dX7_settle_28 (by decide) (fun c4 => ?_) (fun c4 => ?_)
      · refine lv_aload_n C.hx C.hb dX7_settle_36 rfl (lv_at hl 2 rfl) ?_
        refine kVNWn (As := []) (rest := []) C (cC_X0_close l G A ad x y z c (by omega)) lk_X7_351 (g_recv C (hW.1 4 c (show c < y 20 1 by omega)).1 rfl) hW rfl rfl hl (Nat.le_of_ble_eq_true rfl) dX7_settle_37 ⟨⟨by decide, by decide⟩, by decide, by decide⟩ hS (fun q h => h) (fun H locs hP hz1 hk1 hS => ?_)
        have hW : CWd G A ad (sx_X0_close x y c) y z H := hP
        refine lv_aload_n C.hx C.hb dX7_settle_40 rfl (lv_at hl 1 rfl) ?_
        refine lv_dup C.hx C.hb dX7_settle_41 rfl ?_
        refine g_get (k := 9) (v := .int ((sx_X0_close x y c) 2 0)) C (hW.1 0 0 rfl).1 rfl wu_X7 (by decide) wf_X7_52 rfl rfl dX7_settle_42 ?_
        refine lv_iconst (v := 1) C.hx C.hb dX7_settle_45 (by decide) ?_
        refine lv_iadd C.hx C.hb dX7_settle_46 ?_
        refine g_put (k := 9) tyX7 C hS (hW.1 0 0 rfl).1 (hW.1 0 0 rfl).2 rfl wu_X7 tyX7_ok nmX7 (by decide) wf_X7_52 rfl rfl rfl rfl rfl (Nat.le_of_ble_eq_true rfl) dX7_settle_47 (fun H locs e1 o1 z1 hS => ?_)
        have hW : CWd G A ad (up2 (sx_X0_close x y c) 2 0 (((sx_X0_close x y c) 2 0) + 1)) y z H := hW.put 0 0 rfl (by rw [← ce_2]; exact e1) o1 (fun _ _ q => q) cu_2
        refine lv_aload_n C.hx C.hb dX7_settle_50 rfl (lv_at hl 1 rfl) ?_
        refine kVWn (As := []) (rest := []) C (cC_X7_restDoubtedJudges l G A ad (up2 (sx_X0_close x y c) 2 0 (((sx_X0_close x y c) 2 0) + 1)) y z hI) lk_X7_261 (g_recv C (hW.1 0 0 rfl).1 rfl) hW rfl rfl hl (Nat.le_of_ble_eq_true rfl) dX7_settle_51 ⟨⟨by decide, by decide⟩, by decide, by decide⟩ hS (fun q h => h) (fun H locs hP hz1 hk1 hS => ?_)
        obtain ⟨ad5, ka5, hW⟩ : ∃ ad', KA ad ad' ∧ CWd G A ad' (rdS (up2 (sx_X0_close x y c) 2 0 (((sx_X0_close x y c) 2 0) + 1)) y).1 (rdS (up2 (sx_X0_close x y c) 2 0 (((sx_X0_close x y c) 2 0) + 1)) y).2 z H := hP
        have hl : lv_has ls 3 [(2, .ref (ad5 5 (i_X0_hearing y c))), (0, .ref (ad5 0 0)), (1, .ref (ad5 4 c))] := by rw [ka5 5 (by decide), ka5 0 (by decide), ka5 4 (by decide)]; exact hl
        have hI5 : CI (rdS (up2 (sx_X0_close x y c) 2 0 (((sx_X0_close x y c) 2 0) + 1)) y).2 := (rdS_ok hI).1
        have yk5 : YK y (rdS (up2 (sx_X0_close x y c) 2 0 (((sx_X0_close x y c) 2 0) + 1)) y).2 := (rdS_ok hI).2
        have yb5 : (rdS (up2 (sx_X0_close x y c) 2 0 (((sx_X0_close x y c) 2 0) + 1)) y).2 20 0 = y 20 0 ∧ (rdS (up2 (sx_X0_close x y c) 2 0 (((sx_X0_close x y c) 2 0) + 1)) y).2 20 1 = y 20 1 := yk5.2
        exact wV C hr dX7_settle_54 hS ⟨ad5, ka5, (by unfold sx_X7_settle sy_X7_settle; simp only [if_pos c1, if_pos c2, if_pos c4]; exact hW)⟩
      · refine lv_aload_n C.hx C.hb dX7_settle_31 rfl (lv_at hl 0 rfl) ?_
        refine kVNWn (As := []) (rest := []) C (cC_X2_askMore l G A ad x y z (i_X0_hearing y c) (lvHe c (by omega))) lk_X7_348 (g_recv C (hW.1 5 (i_X0_hearing y c) (lvHe c (by omega))).1 rfl) hW rfl rfl hl (Nat.le_of_ble_eq_true rfl) dX7_settle_32 ⟨⟨by decide, by decide⟩, by decide, by decide⟩ hS (fun q h => h) (fun H locs hP hz1 hk1 hS => ?_)
        have hW : CWd G A ad (sx_X2_askMore x (i_X0_hearing y c)) y z H := hP
        exact wV C hr dX7_settle_35 hS ⟨ad, KA.rf _, (by unfold sx_X7_settle sy_X7_settle; simp only [if_pos c1, if_pos c2, if_neg c4]; exact hW)⟩
  · exact wV C hr dX7_settle_16 hS ⟨ad, KA.rf _, (by unfold sx_X7_settle sy_X7_settle; simp only [if_neg c1]; exact hW)⟩
theorem se_ok {x : XX} {y : YY} {c : Nat} (h : CI y) : CI (sy_X7_settle x y c) ∧ YK y (sy_X7_settle x y c) := by
  unfold sy_X7_settle
  split
  · split
    · split
      · exact rdS_ok h
      · exact ⟨h, YK.rf y⟩
    · exact rdS_ok h
  · exact ⟨h, YK.rf y⟩
def s_X7_known (x : XX) (y : YY) (c : Int32) (gu : Int32) : Int32 := (if s_X7_within c 0 ((nI (y 20 1)) - 1) = 0 then (-5) else (if (s_X7_within gu (-1) 1) = 0 then (-5) else x 20 (tn c)))
def sx_X7_known (x : XX) (y : YY) (c : Int32) (gu : Int32) : XX := (if s_X7_within c 0 ((nI (y 20 1)) - 1) = 0 then x else (if (s_X7_within gu (-1) 1) = 0 then x else (rdS (up2 x 20 (tn c) gu) y).1))
def sy_X7_known (x : XX) (y : YY) (c : Int32) (gu : Int32) : YY := (if s_X7_within c 0 ((nI (y 20 1)) - 1) = 0 then y else (if (s_X7_within gu (-1) 1) = 0 then y else (rdS (up2 x 20 (tn c) gu) y).2))
set_option maxRecDepth 100000 in
set_option maxHeartbeats 1000000 in
theorem cC_X7_known (l : Launch) (G : GG) (A : Nat → Prop) (ad : YY) (x : XX) (y : YY) (z : Nat → Int64) (hI : CI y) (c : Int32) (gu : Int32)  : MW l G yX7_known cX7_known 5 (some .int) 7 [.ref (ad 0 0), .int c, .int gu] (CWd G A ad x y z) (some (.int (s_X7_known x y c gu))) (fun H => ∃ ad', KA ad ad' ∧ CWd G A ad' (sx_X7_known x y c gu) (sy_X7_known x y c gu) z H) A 0 0 := by
  refine MW.of RX7 rfl (by decide) (Nat.le_of_ble_eq_true rfl) ?_
  intro p_ e_ s_ m_ args_ below_ meth_ c_ ls hargs C hr hnm hW hS hl
  obtain ⟨-, -, -, bP, bC, bG, bL⟩ := id hI
  have hl : lv_has ls 5 [(0, .ref (ad 0 0)), (1, .int c), (2, .int gu)] := hl
  refine lv_aload_n C.hx C.hb dX7_known_0 rfl (lv_at hl 0 rfl) ?_
  refine lv_iload_n C.hx C.hb dX7_known_1 rfl (lv_at hl 1 rfl) ?_
  by_cases c1 : s_X7_within c 0 ((nI (y 20 1)) - 1) = 0
  · refine kVR (As := [.int c]) (rest := []) (v := .null) C (cC_X7_caseAt_no l G A ad x y z hI c c1) lk_X7_180 (g_recv C (hW.1 0 0 rfl).1 rfl) hW rfl rfl hl (Nat.le_of_ble_eq_true rfl) dX7_known_2 ⟨⟨by decide, by decide⟩, by decide, by decide⟩ ?_
    refine lv_astore_nN (lv' := [(3, .null), (0, .ref (ad 0 0)), (1, .int c), (2, .int gu)]) C.hx C.hb dX7_known_5 rfl hl (by decide) rfl (fun ls hl => ?_)
    refine lv_aload_nN C.hx C.hb dX7_known_6 rfl (lv_at hl 0 rfl) ?_
    refine lv_ifnullN (tgt := 19) C.hx C.hb dX7_known_7 (by decide) ?_
    refine lv_bipush (v := (-5)) C.hx C.hb dX7_known_19 (by decide) ?_
    exact wI C hr dX7_known_21 hS (by unfold s_X7_known; first | (rw [if_pos c1]; done) | simp only [if_pos c1] | (simp only [if_pos c1]; rfl)) ⟨ad, KA.rf _, (by unfold sx_X7_known sy_X7_known; simp only [if_pos c1]; exact hW)⟩
  · obtain ⟨cN, hcN, rfl⟩ := withinN (n := y 20 1) c1 (by omega)
    have tcN : tn (nI cN) = cN := nI_clamp (by omega)
    refine kVR (As := [.int (nI cN)]) (rest := []) (v := .ref (ad 4 cN)) C (cC_X7_caseAt_yes l G A ad x y z hI cN (by omega)) lk_X7_180 (g_recv C (hW.1 0 0 rfl).1 rfl) hW rfl rfl hl (Nat.le_of_ble_eq_true rfl) dX7_known_2 ⟨⟨by decide, by decide⟩, by decide, by decide⟩ ?_
    refine lv_astore_n (lv' := [(3, .ref (ad 4 cN)), (0, .ref (ad 0 0)), (1, .int (nI cN)), (2, .int gu)]) C.hx C.hb dX7_known_5 rfl hl (by decide) rfl (fun ls hl => ?_)
    refine lv_aload_n C.hx C.hb dX7_known_6 rfl (lv_at hl 0 rfl) ?_
    refine lv_ifnull C.hx C.hb dX7_known_7 ?_
    refine lv_iload_n C.hx C.hb dX7_known_10 rfl (lv_at hl 3 rfl) ?_
    refine lv_iconst (v := (-1)) C.hx C.hb dX7_known_11 (by decide) ?_
    refine lv_iconst (v := 1) C.hx C.hb dX7_known_12 (by decide) ?_
    refine kSR (As := [.int gu, .int ((-1)), .int 1]) (rest := []) (v := .int (s_X7_within gu (-1) 1)) C (cJ_X7_within l G gu (-1) 1) lk_X7_59 trivial rfl rfl hl (Nat.le_of_ble_eq_true rfl) dX7_known_13 ⟨⟨by decide, by decide⟩, by decide, by decide⟩ ?_
    refine lv_if_ne (tgt := 22) C.hx C.hb dX7_known_16 (by decide) (fun c2 => ?_) (fun c2 => ?_)
    · refine lv_aload_n C.hx C.hb dX7_known_22 rfl (lv_at hl 0 rfl) ?_
      refine g_getN (k := 9) (v := .int (x 20 cN)) C (hW.1 4 cN (show cN < y 20 1 by omega)).1 rfl wu_X0 (by decide) wn_X7_258 rfl rfl dX7_known_23 ?_
      refine lv_istore (lv' := [(4, .int (x 20 cN)), (3, .ref (ad 4 cN)), (0, .ref (ad 0 0)), (1, .int (nI cN)), (2, .int gu)]) C.hx C.hb dX7_known_26 hl (by decide) rfl (fun ls hl => ?_)
      refine lv_aload_n C.hx C.hb dX7_known_28 rfl (lv_at hl 1 rfl) ?_
      refine lv_iload_n C.hx C.hb dX7_known_29 rfl (lv_at hl 4 rfl) ?_
      refine g_putN (k := 9) tyX0 C hS (hW.1 4 cN (show cN < y 20 1 by omega)).1 (hW.1 4 cN (show cN < y 20 1 by omega)).2 rfl wu_X0 tyX0_ok nmX0 (by decide) wn_X7_258 rfl rfl rfl rfl rfl (Nat.le_of_ble_eq_true rfl) dX7_known_30 (fun H locs e1 o1 z1 hS => ?_)
      have hW : CWd G A ad (up2 x 20 cN gu) y z H := hW.put 4 cN (show cN < y 20 1 by omega) (by rw [← ce_20]; exact e1) o1 (fun _ _ q => q) cu_20
      refine lv_aload_n C.hx C.hb dX7_known_33 rfl (lv_at hl 2 rfl) ?_
      refine kVWn (As := []) (rest := []) C (cC_X7_restDoubtedJudges l G A ad (up2 x 20 cN gu) y z hI) lk_X7_261 (g_recv C (hW.1 0 0 rfl).1 rfl) hW rfl rfl hl (Nat.le_of_ble_eq_true rfl) dX7_known_34 ⟨⟨by decide, by decide⟩, by decide, by decide⟩ hS (fun q h => h) (fun H locs hP hz1 hk1 hS => ?_)
      obtain ⟨ad3, ka3, hW⟩ : ∃ ad', KA ad ad' ∧ CWd G A ad' (rdS (up2 x 20 cN gu) y).1 (rdS (up2 x 20 cN gu) y).2 z H := hP
      have hl : lv_has ls 5 [(4, .int (x 20 cN)), (3, .ref (ad3 4 cN)), (0, .ref (ad3 0 0)), (1, .int (nI cN)), (2, .int gu)] := by rw [ka3 4 (by decide), ka3 0 (by decide)]; exact hl
      have hI3 : CI (rdS (up2 x 20 cN gu) y).2 := (rdS_ok hI).1
      have yk3 : YK y (rdS (up2 x 20 cN gu) y).2 := (rdS_ok hI).2
      have yb3 : (rdS (up2 x 20 cN gu) y).2 20 0 = y 20 0 ∧ (rdS (up2 x 20 cN gu) y).2 20 1 = y 20 1 := yk3.2
      refine lv_iload C.hx C.hb dX7_known_37 (lv_at hl 0 rfl) ?_
      exact wI C hr dX7_known_39 hS (by unfold s_X7_known; (try simp only [tcN]); first | (rw [if_neg c1, if_neg c2]; done) | simp only [if_neg c1, if_neg c2] | (simp only [if_neg c1, if_neg c2]; rfl)) ⟨ad3, ka3, (by unfold sx_X7_known sy_X7_known; (try simp only [tcN]); simp only [if_neg c1, if_neg c2]; exact hW)⟩
    · refine lv_bipush (v := (-5)) C.hx C.hb dX7_known_19 (by decide) ?_
      exact wI C hr dX7_known_21 hS (by unfold s_X7_known; (try simp only [tcN]); first | (rw [if_neg c1, if_pos c2]; done) | simp only [if_neg c1, if_pos c2] | (simp only [if_neg c1, if_pos c2]; rfl)) ⟨ad, KA.rf _, (by unfold sx_X7_known sy_X7_known; (try simp only [tcN]); simp only [if_neg c1, if_pos c2]; exact hW)⟩
def s_X7_rest (x : XX) (j : Int32) (is : Int32) : Int32 := (if s_X7_within j 0 19 = 0 then (-1) else (if (s_X7_within is 0 1) = 0 then (-1) else s_X7_asNumber (x 9 (tn j))))
def sx_X7_rest (x : XX) (y : YY) (j : Int32) (is : Int32) : XX := (if s_X7_within j 0 19 = 0 then x else (if (s_X7_within is 0 1) = 0 then x else (if is = 1 then (lrS x y (tn j)).1 else (up2 x 9 (tn j) 0))))
def sy_X7_rest (x : XX) (y : YY) (j : Int32) (is : Int32) : YY := (if s_X7_within j 0 19 = 0 then y else (if (s_X7_within is 0 1) = 0 then y else (if is = 1 then (lrS x y (tn j)).2 else y)))
set_option maxRecDepth 100000 in
set_option maxHeartbeats 1000000 in
theorem cC_X7_rest (l : Launch) (G : GG) (A : Nat → Prop) (ad : YY) (x : XX) (y : YY) (z : Nat → Int64) (hI : CI y) (j : Int32) (is : Int32)  : MW l G yX7_rest cX7_rest 5 (some .int) 6 [.ref (ad 0 0), .int j, .int is] (CWd G A ad x y z) (some (.int (s_X7_rest x j is))) (fun H => ∃ ad', KA ad ad' ∧ CWd G A ad' (sx_X7_rest x y j is) (sy_X7_rest x y j is) z H) A 0 0 := by
  refine MW.of RX7 rfl (by decide) (Nat.le_of_ble_eq_true rfl) ?_
  intro p_ e_ s_ m_ args_ below_ meth_ c_ ls hargs C hr hnm hW hS hl
  obtain ⟨-, -, -, bP, bC, bG, bL⟩ := id hI
  have hl : lv_has ls 5 [(0, .ref (ad 0 0)), (1, .int j), (2, .int is)] := hl
  refine lv_aload_n C.hx C.hb dX7_rest_0 rfl (lv_at hl 0 rfl) ?_
  refine lv_iload_n C.hx C.hb dX7_rest_1 rfl (lv_at hl 1 rfl) ?_
  by_cases c1 : s_X7_within j 0 19 = 0
  · refine kVR (As := [.int j]) (rest := []) (v := .null) C (cC_X7_judgeAt_no l G A ad x y z j c1) lk_X7_119 (g_recv C (hW.1 0 0 rfl).1 rfl) hW rfl rfl hl (Nat.le_of_ble_eq_true rfl) dX7_rest_2 ⟨⟨by decide, by decide⟩, by decide, by decide⟩ ?_
    refine lv_astore_nN (lv' := [(3, .null), (0, .ref (ad 0 0)), (1, .int j), (2, .int is)]) C.hx C.hb dX7_rest_5 rfl hl (by decide) rfl (fun ls hl => ?_)
    refine lv_aload_nN C.hx C.hb dX7_rest_6 rfl (lv_at hl 0 rfl) ?_
    refine lv_ifnullN (tgt := 19) C.hx C.hb dX7_rest_7 (by decide) ?_
    refine lv_iconst (v := (-1)) C.hx C.hb dX7_rest_19 (by decide) ?_
    exact wI C hr dX7_rest_20 hS (by unfold s_X7_rest; first | (rw [if_pos c1]; done) | simp only [if_pos c1] | (simp only [if_pos c1]; rfl)) ⟨ad, KA.rf _, (by unfold sx_X7_rest sy_X7_rest; simp only [if_pos c1]; exact hW)⟩
  · obtain ⟨jN, hjN, rfl⟩ := withinK (n := 20) c1 (by decide)
    have tjN : tn (nI jN) = jN := nI_clamp (by omega)
    refine kVR (As := [.int (nI jN)]) (rest := []) (v := .ref (ad 2 jN)) C (cC_X7_judgeAt_yes l G A ad x y z jN (by omega)) lk_X7_119 (g_recv C (hW.1 0 0 rfl).1 rfl) hW rfl rfl hl (Nat.le_of_ble_eq_true rfl) dX7_rest_2 ⟨⟨by decide, by decide⟩, by decide, by decide⟩ ?_
    refine lv_astore_n (lv' := [(3, .ref (ad 2 jN)), (0, .ref (ad 0 0)), (1, .int (nI jN)), (2, .int is)]) C.hx C.hb dX7_rest_5 rfl hl (by decide) rfl (fun ls hl => ?_)
    refine lv_aload_n C.hx C.hb dX7_rest_6 rfl (lv_at hl 0 rfl) ?_
    refine lv_ifnull C.hx C.hb dX7_rest_7 ?_
    refine lv_iload_n C.hx C.hb dX7_rest_10 rfl (lv_at hl 3 rfl) ?_
    refine lv_iconst (v := 0) C.hx C.hb dX7_rest_11 (by decide) ?_
    refine lv_iconst (v := 1) C.hx C.hb dX7_rest_12 (by decide) ?_
    refine kSR (As := [.int is, .int 0, .int 1]) (rest := []) (v := .int (s_X7_within is 0 1)) C (cJ_X7_within l G is 0 1) lk_X7_59 trivial rfl rfl hl (Nat.le_of_ble_eq_true rfl) dX7_rest_13 ⟨⟨by decide, by decide⟩, by decide, by decide⟩ ?_
    refine lv_if_ne (tgt := 21) C.hx C.hb dX7_rest_16 (by decide) (fun c2 => ?_) (fun c2 => ?_)
    · refine lv_aload_n C.hx C.hb dX7_rest_21 rfl (lv_at hl 0 rfl) ?_
      refine g_getN (k := 5) (v := .int (x 9 jN)) C (hW.1 2 jN (show jN < 20 by omega)).1 rfl wu_X3 (by decide) wn_X7_144 rfl rfl dX7_rest_22 ?_
      refine kSR (As := [.int (x 9 jN)]) (rest := []) (v := .int (s_X7_asNumber (x 9 jN))) C (cJ_X7_asNumber l G (x 9 jN)) lk_X7_136 trivial rfl rfl hl (Nat.le_of_ble_eq_true rfl) dX7_rest_25 ⟨⟨by decide, by decide⟩, by decide, by decide⟩ ?_
      refine lv_istore (lv' := [(4, .int (s_X7_asNumber (x 9 jN))), (3, .ref (ad 2 jN)), (0, .ref (ad 0 0)), (1, .int (nI jN)), (2, .int is)]) C.hx C.hb dX7_rest_28 hl (by decide) rfl (fun ls hl => ?_)
      refine lv_iload_n C.hx C.hb dX7_rest_30 rfl (lv_at hl 4 rfl) ?_
      refine lv_iconst (v := 1) C.hx C.hb dX7_rest_31 (by decide) ?_
      refine lv_icmp_ne (tgt := 43) C.hx C.hb dX7_rest_32 (by decide) (fun c3 => ?_) (fun c3 => ?_)
      · refine lv_aload_n C.hx C.hb dX7_rest_43 rfl (lv_at hl 1 rfl) ?_
        refine lv_iconst (v := 0) C.hx C.hb dX7_rest_44 (by decide) ?_
        refine g_putN (k := 5) tyX3 C hS (hW.1 2 jN (show jN < 20 by omega)).1 (hW.1 2 jN (show jN < 20 by omega)).2 rfl wu_X3 tyX3_ok nmX3 (by decide) wn_X7_144 rfl rfl rfl (nb0) rfl (Nat.le_of_ble_eq_true rfl) dX7_rest_45 (fun H locs e1 o1 z1 hS => ?_)
        have hW : CWd G A ad (up2 x 9 jN 0) y z H := hW.put 2 jN (show jN < 20 by omega) (by rw [← ce_9]; exact e1) o1 (fun _ _ q => q) cu_9
        refine lv_iload C.hx C.hb dX7_rest_48 (lv_at hl 0 rfl) ?_
        exact wI C hr dX7_rest_50 hS (by unfold s_X7_rest; (try simp only [tjN]); first | (rw [if_neg c1, if_neg c2]; done) | simp only [if_neg c1, if_neg c2] | (simp only [if_neg c1, if_neg c2]; rfl)) ⟨ad, KA.rf _, (by unfold sx_X7_rest sy_X7_rest; (try simp only [tjN]); simp only [if_neg c1, if_neg c2, if_neg c3]; exact hW)⟩
      · refine lv_aload_n C.hx C.hb dX7_rest_35 rfl (lv_at hl 2 rfl) ?_
        refine lv_aload_n C.hx C.hb dX7_rest_36 rfl (lv_at hl 1 rfl) ?_
        refine kVWn (As := [.ref (ad 2 jN)]) (rest := []) C (cC_X7_layToRest l G A ad x y z hI jN (by omega)) lk_X7_148 (g_recv C (hW.1 0 0 rfl).1 rfl) hW rfl rfl hl (Nat.le_of_ble_eq_true rfl) dX7_rest_37 ⟨⟨by decide, by decide⟩, by decide, by decide⟩ hS (fun q h => h) (fun H locs hP hz1 hk1 hS => ?_)
        obtain ⟨ad4, ka4, hW⟩ : ∃ ad', KA ad ad' ∧ CWd G A ad' (lrS x y jN).1 (lrS x y jN).2 z H := hP
        have hl : lv_has ls 5 [(4, .int (s_X7_asNumber (x 9 jN))), (3, .ref (ad4 2 jN)), (0, .ref (ad4 0 0)), (1, .int (nI jN)), (2, .int is)] := by rw [ka4 2 (by decide), ka4 0 (by decide)]; exact hl
        have hI4 : CI (lrS x y jN).2 := (lrS_ok hI).1
        have yk4 : YK y (lrS x y jN).2 := (lrS_ok hI).2
        have yb4 : (lrS x y jN).2 20 0 = y 20 0 ∧ (lrS x y jN).2 20 1 = y 20 1 := yk4.2
        refine lv_goto (tgt := 48) C.hx C.hb dX7_rest_40 (by decide) ?_
        refine lv_iload C.hx C.hb dX7_rest_48 (lv_at hl 0 rfl) ?_
        exact wI C hr dX7_rest_50 hS (by unfold s_X7_rest; (try simp only [tjN]); first | (rw [if_neg c1, if_neg c2]; done) | simp only [if_neg c1, if_neg c2] | (simp only [if_neg c1, if_neg c2]; rfl)) ⟨ad4, ka4, (by unfold sx_X7_rest sy_X7_rest; (try simp only [tjN]); simp only [if_neg c1, if_neg c2, if_pos c3]; exact hW)⟩
    · refine lv_iconst (v := (-1)) C.hx C.hb dX7_rest_19 (by decide) ?_
      exact wI C hr dX7_rest_20 hS (by unfold s_X7_rest; (try simp only [tjN]); first | (rw [if_neg c1, if_pos c2]; done) | simp only [if_neg c1, if_pos c2] | (simp only [if_neg c1, if_pos c2]; rfl)) ⟨ad, KA.rf _, (by unfold sx_X7_rest sy_X7_rest; (try simp only [tjN]); simp only [if_neg c1, if_pos c2]; exact hW)⟩
def s_X7_undo (y : YY) : Int32 := (if 0 ≤ ((nI (y 20 2)) - 1) then nI (y 7 ((y 20 2) - 1)) else (-4))
def sx_X7_undo (x : XX) (y : YY) : XX := (if 0 ≤ ((nI (y 20 2)) - 1) then (tbX x y ((y 20 2) - 1)) else x)
def sy_X7_undo (y : YY) : YY := (if 0 ≤ ((nI (y 20 2)) - 1) then (tbY y ((y 20 2) - 1)) else y)
set_option maxRecDepth 100000 in
set_option maxHeartbeats 1000000 in
theorem cC_X7_undo (l : Launch) (G : GG) (A : Nat → Prop) (ad : YY) (x : XX) (y : YY) (z : Nat → Int64) (hI : CI y)   : MW l G yX7_undo cX7_undo 3 (some .int) 5 [.ref (ad 0 0)] (CWd G A ad x y z) (some (.int (s_X7_undo y))) (fun H => ∃ ad', KA ad ad' ∧ CWd G A ad' (sx_X7_undo x y) (sy_X7_undo y) z H) A 0 0 := by
  refine MW.of RX7 rfl (by decide) (Nat.le_of_ble_eq_true rfl) ?_
  intro p_ e_ s_ m_ args_ below_ meth_ c_ ls hargs C hr hnm hW hS hl
  obtain ⟨-, -, -, bP, bC, bG, bL⟩ := id hI
  have hl : lv_has ls 3 [(0, .ref (ad 0 0))] := hl
  refine lv_aload_n C.hx C.hb dX7_undo_0 rfl (lv_at hl 0 rfl) ?_
  refine g_get (k := 4) (v := .ref (ad 7 2)) C (hW.1 0 0 rfl).1 rfl wu_X7 (by decide) wf_X7_31 rfl rfl dX7_undo_1 ?_
  refine kVR (As := []) (rest := []) (v := .int (nI (y 20 2))) C (cJ_size l G (ad 7 2) _ (y 20 2) _) lk_X7_83 (g_recv C (hW.1 7 2 (show 2 < 3 by decide)).1 rfl) (hW.1 7 2 (show 2 < 3 by decide)).1 rfl rfl hl (Nat.le_of_ble_eq_true rfl) dX7_undo_4 ⟨⟨by decide, by decide⟩, by decide, by decide⟩ ?_
  refine lv_iconst (v := 1) C.hx C.hb dX7_undo_7 (by decide) ?_
  refine lv_isub C.hx C.hb dX7_undo_8 ?_
  refine lv_istore_n (lv' := [(1, .int ((nI (y 20 2)) - 1)), (0, .ref (ad 0 0))]) C.hx C.hb dX7_undo_9 rfl hl (by decide) rfl (fun ls hl => ?_)
  refine lv_iload_n C.hx C.hb dX7_undo_10 rfl (lv_at hl 0 rfl) ?_
  refine lv_if_ge (tgt := 17) C.hx C.hb dX7_undo_11 (by decide) (fun c1 => ?_) (fun c1 => ?_)
  · have gc1 := nn_sub (by omega) c1
    refine lv_aload_n C.hx C.hb dX7_undo_17 rfl (lv_at hl 1 rfl) ?_
    refine g_get (k := 4) (v := .ref (ad 7 2)) C (hW.1 0 0 rfl).1 rfl wu_X7 (by decide) wf_X7_31 rfl rfl dX7_undo_18 ?_
    refine lv_iload_n C.hx C.hb dX7_undo_21 rfl (lv_at hl 0 rfl) ?_
    refine W.eq (g2 := F0 m_ 22 ls [.int (nI ((y 20 2) - 1)), .ref (ad 7 2)]) (congrArg (fun jq => F0 m_ 22 ls [.int jq, .ref (ad 7 2)]) (nI_subE rfl (by decide) (by omega))) ?_
    refine kVR (As := [.int (nI ((y 20 2) - 1))]) (rest := []) (v := .ref (ad 6 ((y 20 2) - 1))) C (cC_get l G ad x y hI 2 ((y 20 2) - 1) (by decide) (by omega)) lk_X7_169 (g_recv C (hW.1 7 2 (show 2 < 3 by decide)).1 rfl) (CWd.ls hW hI 2 (by decide) (by omega)) rfl rfl hl (Nat.le_of_ble_eq_true rfl) dX7_undo_22 ⟨⟨by decide, by decide⟩, by decide, by decide⟩ ?_
    refine va_castS C.hx C.hb C.hown (C.hT _ wl_X7_156) (C.hK.1.1 2 _ rfl).2 (g_recv C (hW.1 6 ((y 20 2) - 1) (show ((y 20 2) - 1) < y 20 2 by omega)).1 rfl) dX7_undo_25 ?_
    refine g_getN (k := 1) (v := .ref (ad 4 (y 7 ((y 20 2) - 1)))) C (hW.1 6 ((y 20 2) - 1) (show ((y 20 2) - 1) < y 20 2 by omega)).1 rfl wu_X1 (by decide) wn_X7_173 rfl rfl dX7_undo_28 ?_
    have g2 := (hI.2.2.1 ((y 20 2) - 1) (by omega)).2
    refine g_getN (k := 0) (v := .int (nI (y 7 ((y 20 2) - 1)))) C (hW.1 4 (y 7 ((y 20 2) - 1)) (show (y 7 ((y 20 2) - 1)) < y 20 1 by omega)).1 rfl wu_X0 (by decide) wn_X7_109 rfl rfl dX7_undo_31 ?_
    refine lv_istore_n (lv' := [(2, .int (nI (y 7 ((y 20 2) - 1)))), (1, .int ((nI (y 20 2)) - 1)), (0, .ref (ad 0 0))]) C.hx C.hb dX7_undo_34 rfl hl (by decide) rfl (fun ls hl => ?_)
    refine lv_aload_n C.hx C.hb dX7_undo_35 rfl (lv_at hl 2 rfl) ?_
    refine lv_iload_n C.hx C.hb dX7_undo_36 rfl (lv_at hl 1 rfl) ?_
    refine W.eq (g2 := F0 m_ 37 ls [.int (nI ((y 20 2) - 1)), .ref (ad 0 0)]) (congrArg (fun jq => F0 m_ 37 ls [.int jq, .ref (ad 0 0)]) (nI_subE rfl (by decide) (by omega))) ?_
    refine kVWn (As := [.int (nI ((y 20 2) - 1))]) (rest := []) C (cC_X7_takeBack l G A ad x y z hI ((y 20 2) - 1) (by omega)) lk_X7_177 (g_recv C (hW.1 0 0 rfl).1 rfl) hW rfl rfl hl (Nat.le_of_ble_eq_true rfl) dX7_undo_37 ⟨⟨by decide, by decide⟩, by decide, by decide⟩ hS (fun q h => h) (fun H locs hP hz1 hk1 hS => ?_)
    obtain ⟨ad3, ka3, hW⟩ : ∃ ad', KA ad ad' ∧ CWd G A ad' (tbX x y ((y 20 2) - 1)) (tbY y ((y 20 2) - 1)) z H := ⟨_, KA.tb _ _, hP⟩
    have hl : lv_has ls 3 [(2, .int (nI (y 7 ((y 20 2) - 1)))), (1, .int ((nI (y 20 2)) - 1)), (0, .ref (ad3 0 0))] := by rw [ka3 0 (by decide)]; exact hl
    have hI3 : CI (tbY y ((y 20 2) - 1)) := CI.tb hI (by omega)
    have yk3 : YK y (tbY y ((y 20 2) - 1)) := YK.tb _ _
    have yb3 : (tbY y ((y 20 2) - 1)) 20 0 = y 20 0 ∧ (tbY y ((y 20 2) - 1)) 20 1 = y 20 1 := yk3.2
    refine lv_iload_n C.hx C.hb dX7_undo_40 rfl (lv_at hl 0 rfl) ?_
    exact wI C hr dX7_undo_41 hS (by unfold s_X7_undo; first | (rw [if_pos c1]; done) | simp only [if_pos c1] | (simp only [if_pos c1]; rfl)) ⟨ad3, ka3, (by unfold sx_X7_undo sy_X7_undo; simp only [if_pos c1]; exact hW)⟩
  · refine lv_bipush (v := (-4)) C.hx C.hb dX7_undo_14 (by decide) ?_
    exact wI C hr dX7_undo_16 hS (by unfold s_X7_undo; first | (rw [if_neg c1]; done) | simp only [if_neg c1] | (simp only [if_neg c1]; rfl)) ⟨ad, KA.rf _, (by unfold sx_X7_undo sy_X7_undo; simp only [if_neg c1]; exact hW)⟩
theorem fstv_lt {q : Nat → Bool} : ∀ {n : Nat}, hasv q n = true → fstv q n < n
  | 0, h => by cases h
  | n + 1, h => by
    by_cases k : hasv q n = true
    · have := fstv_lt k
      unfold fstv
      rw [if_pos k]
      omega
    · have hq : q n = true := by
        unfold hasv at h
        simpa [k] using h
      unfold fstv
      rw [if_neg k, if_pos hq]
      omega
theorem giftOf_nn {y : YY} {j c : Nat} (hb : y 20 2 ≤ 400) (h : 0 ≤ s_X7_giftOf y j c) : s_X7_giftOf y j c = nI (tn (s_X7_giftOf y j c)) ∧ tn (s_X7_giftOf y j c) < y 20 2 := by
  unfold s_X7_giftOf at h ⊢
  split at h
  · rename_i k
    have := fstv_lt k
    rw [if_pos k, tn_nI (by omega)]
    exact ⟨rfl, this⟩
  · exact absurd h (by decide)
def s_X7_vote (x : XX) (y : YY) (j : Int32) (c : Int32) (gu : Int32) : Int32 := (if s_X7_within j 0 19 = 0 then (-1) else (if s_X7_within c 0 ((nI (y 20 1)) - 1) = 0 then (-1) else (if (s_X7_within gu 0 1) = 0 then (-1) else (if 0 ≤ (s_X7_giftOf y (tn j) (tn c)) then (sx_X7_settle (sx_X2_cast (up2 (tbX x y (tn (s_X7_giftOf y (tn j) (tn c)))) 11 (tn j) (((tbX x y (tn (s_X7_giftOf y (tn j) (tn c)))) 11 (tn j)) + 1)) (i_X0_hearing (tbY y (tn (s_X7_giftOf y (tn j) (tn c)))) (tn c)) (tn j) (if gu = 1 then 1 else 0 : Int32)) (tbY y (tn (s_X7_giftOf y (tn j) (tn c)))) (tn c)) 19 (tn c) else (-4)))))
def sx_X7_vote (x : XX) (y : YY) (j : Int32) (c : Int32) (gu : Int32) : XX := (if s_X7_within j 0 19 = 0 then x else (if s_X7_within c 0 ((nI (y 20 1)) - 1) = 0 then x else (if (s_X7_within gu 0 1) = 0 then x else (if 0 ≤ (s_X7_giftOf y (tn j) (tn c)) then (sx_X7_settle (sx_X2_cast (up2 (tbX x y (tn (s_X7_giftOf y (tn j) (tn c)))) 11 (tn j) (((tbX x y (tn (s_X7_giftOf y (tn j) (tn c)))) 11 (tn j)) + 1)) (i_X0_hearing (tbY y (tn (s_X7_giftOf y (tn j) (tn c)))) (tn c)) (tn j) (if gu = 1 then 1 else 0 : Int32)) (tbY y (tn (s_X7_giftOf y (tn j) (tn c)))) (tn c)) else x))))
def sy_X7_vote (x : XX) (y : YY) (j : Int32) (c : Int32) (gu : Int32) : YY := (if s_X7_within j 0 19 = 0 then y else (if s_X7_within c 0 ((nI (y 20 1)) - 1) = 0 then y else (if (s_X7_within gu 0 1) = 0 then y else (if 0 ≤ (s_X7_giftOf y (tn j) (tn c)) then (sy_X7_settle (sx_X2_cast (up2 (tbX x y (tn (s_X7_giftOf y (tn j) (tn c)))) 11 (tn j) (((tbX x y (tn (s_X7_giftOf y (tn j) (tn c)))) 11 (tn j)) + 1)) (i_X0_hearing (tbY y (tn (s_X7_giftOf y (tn j) (tn c)))) (tn c)) (tn j) (if gu = 1 then 1 else 0 : Int32)) (tbY y (tn (s_X7_giftOf y (tn j) (tn c)))) (tn c)) else y))))
set_option maxRecDepth 100000 in
set_option maxHeartbeats 1000000 in
theorem cC_X7_vote (l : Launch) (G : GG) (A : Nat → Prop) (ad : YY) (x : XX) (y : YY) (z : Nat → Int64) (hI : CI y) (j : Int32) (c : Int32) (gu : Int32)  : MW l G yX7_vote cX7_vote 7 (some .int) 8 [.ref (ad 0 0), .int j, .int c, .int gu] (CWd G A ad x y z) (some (.int (s_X7_vote x y j c gu))) (fun H => ∃ ad', KA ad ad' ∧ CWd G A ad' (sx_X7_vote x y j c gu) (sy_X7_vote x y j c gu) z H) A 0 0 := by
  refine MW.of RX7 rfl (by decide) (Nat.le_of_ble_eq_true rfl) ?_
  intro p_ e_ s_ m_ args_ below_ meth_ c_ ls hargs C hr hnm hW hS hl
  obtain ⟨-, -, -, bP, bC, bG, bL⟩ := id hI
  have hl : lv_has ls 7 [(0, .ref (ad 0 0)), (1, .int j), (2, .int c), (3, .int gu)] := hl
  refine lv_aload_n C.hx C.hb dX7_vote_0 rfl (lv_at hl 0 rfl) ?_
  refine lv_iload_n C.hx C.hb dX7_vote_1 rfl (lv_at hl 1 rfl) ?_
  by_cases c1 : s_X7_within j 0 19 = 0
  · refine kVR (As := [.int j]) (rest := []) (v := .null) C (cC_X7_judgeAt_no l G A ad x y z j c1) lk_X7_119 (g_recv C (hW.1 0 0 rfl).1 rfl) hW rfl rfl hl (Nat.le_of_ble_eq_true rfl) dX7_vote_2 ⟨⟨by decide, by decide⟩, by decide, by decide⟩ ?_
    refine lv_astoreN (lv' := [(4, .null), (0, .ref (ad 0 0)), (1, .int j), (2, .int c), (3, .int gu)]) C.hx C.hb dX7_vote_5 hl (by decide) rfl (fun ls hl => ?_)
    refine lv_aload_n C.hx C.hb dX7_vote_7 rfl (lv_at hl 1 rfl) ?_
    refine lv_iload_n C.hx C.hb dX7_vote_8 rfl (lv_at hl 3 rfl) ?_
    by_cases c2 : s_X7_within c 0 ((nI (y 20 1)) - 1) = 0
    · refine kVR (As := [.int c]) (rest := []) (v := .null) C (cC_X7_caseAt_no l G A ad x y z hI c c2) lk_X7_180 (g_recv C (hW.1 0 0 rfl).1 rfl) hW rfl rfl hl (Nat.le_of_ble_eq_true rfl) dX7_vote_9 ⟨⟨by decide, by decide⟩, by decide, by decide⟩ ?_
      refine lv_astoreN (lv' := [(5, .null), (4, .null), (0, .ref (ad 0 0)), (1, .int j), (2, .int c), (3, .int gu)]) C.hx C.hb dX7_vote_12 hl (by decide) rfl (fun ls hl => ?_)
      refine lv_aloadN C.hx C.hb dX7_vote_14 (lv_at hl 1 rfl) ?_
      refine lv_ifnullN (tgt := 33) C.hx C.hb dX7_vote_16 (by decide) ?_
      refine lv_iconst (v := (-1)) C.hx C.hb dX7_vote_33 (by decide) ?_
      exact wI C hr dX7_vote_34 hS (by unfold s_X7_vote; first | (rw [if_pos c1]; done) | simp only [if_pos c1] | (simp only [if_pos c1]; rfl)) ⟨ad, KA.rf _, (by unfold sx_X7_vote sy_X7_vote; simp only [if_pos c1]; exact hW)⟩
    · obtain ⟨cN, hcN, rfl⟩ := withinN (n := y 20 1) c2 (by omega)
      have tcN : tn (nI cN) = cN := nI_clamp (by omega)
      refine kVR (As := [.int (nI cN)]) (rest := []) (v := .ref (ad 4 cN)) C (cC_X7_caseAt_yes l G A ad x y z hI cN (by omega)) lk_X7_180 (g_recv C (hW.1 0 0 rfl).1 rfl) hW rfl rfl hl (Nat.le_of_ble_eq_true rfl) dX7_vote_9 ⟨⟨by decide, by decide⟩, by decide, by decide⟩ ?_
      refine lv_astore (lv' := [(5, .ref (ad 4 cN)), (4, .null), (0, .ref (ad 0 0)), (1, .int j), (2, .int (nI cN)), (3, .int gu)]) C.hx C.hb dX7_vote_12 hl (by decide) rfl (fun ls hl => ?_)
      refine lv_aloadN C.hx C.hb dX7_vote_14 (lv_at hl 1 rfl) ?_
      refine lv_ifnullN (tgt := 33) C.hx C.hb dX7_vote_16 (by decide) ?_
      refine lv_iconst (v := (-1)) C.hx C.hb dX7_vote_33 (by decide) ?_
      exact wI C hr dX7_vote_34 hS (by unfold s_X7_vote; (try simp only [tcN]); first | (rw [if_pos c1]; done) | simp only [if_pos c1] | (simp only [if_pos c1]; rfl)) ⟨ad, KA.rf _, (by unfold sx_X7_vote sy_X7_vote; (try simp only [tcN]); simp only [if_pos c1]; exact hW)⟩
  · obtain ⟨jN, hjN, rfl⟩ := withinK (n := 20) c1 (by decide)
    have tjN : tn (nI jN) = jN := nI_clamp (by omega)
    refine kVR (As := [.int (nI jN)]) (rest := []) (v := .ref (ad 2 jN)) C (cC_X7_judgeAt_yes l G A ad x y z jN (by omega)) lk_X7_119 (g_recv C (hW.1 0 0 rfl).1 rfl) hW rfl rfl hl (Nat.le_of_ble_eq_true rfl) dX7_vote_2 ⟨⟨by decide, by decide⟩, by decide, by decide⟩ ?_
    refine lv_astore (lv' := [(4, .ref (ad 2 jN)), (0, .ref (ad 0 0)), (1, .int (nI jN)), (2, .int c), (3, .int gu)]) C.hx C.hb dX7_vote_5 hl (by decide) rfl (fun ls hl => ?_)
    refine lv_aload_n C.hx C.hb dX7_vote_7 rfl (lv_at hl 1 rfl) ?_
    refine lv_iload_n C.hx C.hb dX7_vote_8 rfl (lv_at hl 3 rfl) ?_
    by_cases c3 : s_X7_within c 0 ((nI (y 20 1)) - 1) = 0
    · refine kVR (As := [.int c]) (rest := []) (v := .null) C (cC_X7_caseAt_no l G A ad x y z hI c c3) lk_X7_180 (g_recv C (hW.1 0 0 rfl).1 rfl) hW rfl rfl hl (Nat.le_of_ble_eq_true rfl) dX7_vote_9 ⟨⟨by decide, by decide⟩, by decide, by decide⟩ ?_
      refine lv_astoreN (lv' := [(5, .null), (4, .ref (ad 2 jN)), (0, .ref (ad 0 0)), (1, .int (nI jN)), (2, .int c), (3, .int gu)]) C.hx C.hb dX7_vote_12 hl (by decide) rfl (fun ls hl => ?_)
      refine lv_aload C.hx C.hb dX7_vote_14 (lv_at hl 1 rfl) ?_
      refine lv_ifnull C.hx C.hb dX7_vote_16 ?_
      refine lv_aloadN C.hx C.hb dX7_vote_19 (lv_at hl 0 rfl) ?_
      refine lv_ifnullN (tgt := 33) C.hx C.hb dX7_vote_21 (by decide) ?_
      refine lv_iconst (v := (-1)) C.hx C.hb dX7_vote_33 (by decide) ?_
      exact wI C hr dX7_vote_34 hS (by unfold s_X7_vote; (try simp only [tjN]); first | (rw [if_neg c1, if_pos c3]; done) | simp only [if_neg c1, if_pos c3] | (simp only [if_neg c1, if_pos c3]; rfl)) ⟨ad, KA.rf _, (by unfold sx_X7_vote sy_X7_vote; (try simp only [tjN]); simp only [if_neg c1, if_pos c3]; exact hW)⟩
    · obtain ⟨cN, hcN, rfl⟩ := withinN (n := y 20 1) c3 (by omega)
      have tcN : tn (nI cN) = cN := nI_clamp (by omega)
      refine kVR (As := [.int (nI cN)]) (rest := []) (v := .ref (ad 4 cN)) C (cC_X7_caseAt_yes l G A ad x y z hI cN (by omega)) lk_X7_180 (g_recv C (hW.1 0 0 rfl).1 rfl) hW rfl rfl hl (Nat.le_of_ble_eq_true rfl) dX7_vote_9 ⟨⟨by decide, by decide⟩, by decide, by decide⟩ ?_
      refine lv_astore (lv' := [(5, .ref (ad 4 cN)), (4, .ref (ad 2 jN)), (0, .ref (ad 0 0)), (1, .int (nI jN)), (2, .int (nI cN)), (3, .int gu)]) C.hx C.hb dX7_vote_12 hl (by decide) rfl (fun ls hl => ?_)
      refine lv_aload C.hx C.hb dX7_vote_14 (lv_at hl 1 rfl) ?_
      refine lv_ifnull C.hx C.hb dX7_vote_16 ?_
      refine lv_aload C.hx C.hb dX7_vote_19 (lv_at hl 0 rfl) ?_
      refine lv_ifnull C.hx C.hb dX7_vote_21 ?_
      refine lv_iload_n C.hx C.hb dX7_vote_24 rfl (lv_at hl 5 rfl) ?_
      refine lv_iconst (v := 0) C.hx C.hb dX7_vote_25 (by decide) ?_
      refine lv_iconst (v := 1) C.hx C.hb dX7_vote_26 (by decide) ?_
      refine kSR (As := [.int gu, .int 0, .int 1]) (rest := []) (v := .int (s_X7_within gu 0 1)) C (cJ_X7_within l G gu 0 1) lk_X7_59 trivial rfl rfl hl (Nat.le_of_ble_eq_true rfl) dX7_vote_27 ⟨⟨by decide, by decide⟩, by decide, by decide⟩ ?_
      refine lv_if_ne (tgt := 35) C.hx C.hb dX7_vote_30 (by decide) (fun c4 => ?_) (fun c4 => ?_)
      · refine lv_aload_n C.hx C.hb dX7_vote_35 rfl (lv_at hl 2 rfl) ?_
        refine lv_aload C.hx C.hb dX7_vote_36 (lv_at hl 1 rfl) ?_
        refine lv_aload C.hx C.hb dX7_vote_38 (lv_at hl 0 rfl) ?_
        refine kVR (As := [.ref (ad 2 jN), .ref (ad 4 cN)]) (rest := []) (v := .int (s_X7_giftOf y jN cN)) C (cC_X7_giftOf l G A ad x y z hI jN cN (by omega) (by omega)) lk_X7_183 (g_recv C (hW.1 0 0 rfl).1 rfl) hW rfl rfl hl (Nat.le_of_ble_eq_true rfl) dX7_vote_40 ⟨⟨by decide, by decide⟩, by decide, by decide⟩ ?_
        refine lv_istore (lv' := [(6, .int (s_X7_giftOf y jN cN)), (5, .ref (ad 4 cN)), (4, .ref (ad 2 jN)), (0, .ref (ad 0 0)), (1, .int (nI jN)), (2, .int (nI cN)), (3, .int gu)]) C.hx C.hb dX7_vote_43 hl (by decide) rfl (fun ls hl => ?_)
        refine lv_iload C.hx C.hb dX7_vote_45 (lv_at hl 0 rfl) ?_
        refine lv_if_ge (tgt := 53) C.hx C.hb dX7_vote_47 (by decide) (fun c5 => ?_) (fun c5 => ?_)
        · have f6 := giftOf_nn (by omega) c5
          have f6b : tn (s_X7_giftOf y jN cN) < y 20 2 := f6.2
          refine lv_aload_n C.hx C.hb dX7_vote_53 rfl (lv_at hl 3 rfl) ?_
          refine lv_iload C.hx C.hb dX7_vote_54 (lv_at hl 0 rfl) ?_
          refine W.eq (g2 := F0 m_ 56 ls [.int (nI (tn (s_X7_giftOf y jN cN))), .ref (ad 0 0)]) (congrArg (fun jq => F0 m_ 56 ls [.int jq, .ref (ad 0 0)]) f6.1) ?_
          refine kVWn (As := [.int (nI (tn (s_X7_giftOf y jN cN)))]) (rest := []) C (cC_X7_takeBack l G A ad x y z hI (tn (s_X7_giftOf y jN cN)) (by omega)) lk_X7_177 (g_recv C (hW.1 0 0 rfl).1 rfl) hW rfl rfl hl (Nat.le_of_ble_eq_true rfl) dX7_vote_56 ⟨⟨by decide, by decide⟩, by decide, by decide⟩ hS (fun q h => h) (fun H locs hP hz1 hk1 hS => ?_)
          obtain ⟨ad7, ka7, hW⟩ : ∃ ad', KA ad ad' ∧ CWd G A ad' (tbX x y (tn (s_X7_giftOf y jN cN))) (tbY y (tn (s_X7_giftOf y jN cN))) z H := ⟨_, KA.tb _ _, hP⟩
          have hl : lv_has ls 7 [(6, .int (s_X7_giftOf y jN cN)), (5, .ref (ad7 4 cN)), (4, .ref (ad7 2 jN)), (0, .ref (ad7 0 0)), (1, .int (nI jN)), (2, .int (nI cN)), (3, .int gu)] := by rw [ka7 4 (by decide), ka7 2 (by decide), ka7 0 (by decide)]; exact hl
          have hI7 : CI (tbY y (tn (s_X7_giftOf y jN cN))) := CI.tb hI (by omega)
          have yk7 : YK y (tbY y (tn (s_X7_giftOf y jN cN))) := YK.tb _ _
          have yb7 : (tbY y (tn (s_X7_giftOf y jN cN))) 20 0 = y 20 0 ∧ (tbY y (tn (s_X7_giftOf y jN cN))) 20 1 = y 20 1 := yk7.2
          refine lv_aload C.hx C.hb dX7_vote_59 (lv_at hl 2 rfl) ?_
          refine lv_dup C.hx C.hb dX7_vote_61 rfl ?_
          refine g_getN (k := 7) (v := .int ((tbX x y (tn (s_X7_giftOf y jN cN))) 11 jN)) C (hW.1 2 jN (show jN < 20 by omega)).1 rfl wu_X3 (by decide) wn_X7_187 rfl rfl dX7_vote_62 ?_
          refine lv_iconst (v := 1) C.hx C.hb dX7_vote_65 (by decide) ?_
          refine lv_iadd C.hx C.hb dX7_vote_66 ?_
          refine g_putN (k := 7) tyX3 C hS (hW.1 2 jN (show jN < 20 by omega)).1 (hW.1 2 jN (show jN < 20 by omega)).2 rfl wu_X3 tyX3_ok nmX3 (by decide) wn_X7_187 rfl rfl rfl rfl rfl (Nat.le_of_ble_eq_true rfl) dX7_vote_67 (fun H locs e1 o1 z1 hS => ?_)
          have hW : CWd G A ad7 (up2 (tbX x y (tn (s_X7_giftOf y jN cN))) 11 jN (((tbX x y (tn (s_X7_giftOf y jN cN))) 11 jN) + 1)) (tbY y (tn (s_X7_giftOf y jN cN))) z H := hW.put 2 jN (show jN < 20 by omega) (by rw [← ce_11]; exact e1) o1 (fun _ _ q => q) cu_11
          refine lv_aload C.hx C.hb dX7_vote_70 (lv_at hl 1 rfl) ?_
          refine kVNR (As := []) (rest := []) (v := .ref (ad7 5 (i_X0_hearing (tbY y (tn (s_X7_giftOf y jN cN))) cN))) C (cC_X0_hearing l G A ad7 (up2 (tbX x y (tn (s_X7_giftOf y jN cN))) 11 jN (((tbX x y (tn (s_X7_giftOf y jN cN))) 11 jN) + 1)) (tbY y (tn (s_X7_giftOf y jN cN))) z cN (by omega)) lk_X7_190 (g_recv C (hW.1 4 cN (show cN < (tbY y (tn (s_X7_giftOf y jN cN))) 20 1 by omega)).1 rfl) hW rfl rfl hl (Nat.le_of_ble_eq_true rfl) dX7_vote_72 ⟨⟨by decide, by decide⟩, by decide, by decide⟩ ?_
          refine lv_aload C.hx C.hb dX7_vote_75 (lv_at hl 2 rfl) ?_
          refine lv_iload_n C.hx C.hb dX7_vote_77 rfl (lv_at hl 6 rfl) ?_
          refine lv_iconst (v := 1) C.hx C.hb dX7_vote_78 (by decide) ?_
          refine W.joinI (P := fun jv => jv = (if gu = 1 then 1 else 0 : Int32)) 87 ls [.ref (ad7 2 jN), .ref (ad7 5 (i_X0_hearing (tbY y (tn (s_X7_giftOf y jN cN))) cN))] (fun J9 => ?_) (fun v10 hv10 => ?_)
          · refine lv_icmp_ne (tgt := 86) C.hx C.hb dX7_vote_79 (by decide) (fun c8 => ?_) (fun c8 => ?_)
            · refine lv_iconst (v := 0) C.hx C.hb dX7_vote_86 (by decide) ?_
              exact J9 _ (by rw [if_neg c8])
            · refine lv_iconst (v := 1) C.hx C.hb dX7_vote_82 (by decide) ?_
              refine lv_goto (tgt := 87) C.hx C.hb dX7_vote_83 (by decide) ?_
              exact J9 _ (by rw [if_pos c8])
          · refine kVNWn (As := [.ref (ad7 2 jN), .int v10]) (rest := []) C (cC_X2_cast l G A ad7 (up2 (tbX x y (tn (s_X7_giftOf y jN cN))) 11 jN (((tbX x y (tn (s_X7_giftOf y jN cN))) 11 jN) + 1)) (tbY y (tn (s_X7_giftOf y jN cN))) z (i_X0_hearing (tbY y (tn (s_X7_giftOf y jN cN))) cN) jN v10 (lvHe cN (by omega)) (by omega)) lk_X7_194 (g_recv C (hW.1 5 (i_X0_hearing (tbY y (tn (s_X7_giftOf y jN cN))) cN) (lvHe cN (by omega))).1 rfl) hW rfl rfl hl (Nat.le_of_ble_eq_true rfl) dX7_vote_87 ⟨⟨by decide, by decide⟩, by decide, by decide⟩ hS (fun q h => h) (fun H locs hP hz1 hk1 hS => ?_)
            have hW : CWd G A ad7 (sx_X2_cast (up2 (tbX x y (tn (s_X7_giftOf y jN cN))) 11 jN (((tbX x y (tn (s_X7_giftOf y jN cN))) 11 jN) + 1)) (i_X0_hearing (tbY y (tn (s_X7_giftOf y jN cN))) cN) jN v10) (tbY y (tn (s_X7_giftOf y jN cN))) z H := hP
            refine lv_aload_n C.hx C.hb dX7_vote_90 rfl (lv_at hl 3 rfl) ?_
            refine lv_aload C.hx C.hb dX7_vote_91 (lv_at hl 1 rfl) ?_
            refine kVWn (As := [.ref (ad7 4 cN)]) (rest := []) C (cC_X7_settle l G A ad7 (sx_X2_cast (up2 (tbX x y (tn (s_X7_giftOf y jN cN))) 11 jN (((tbX x y (tn (s_X7_giftOf y jN cN))) 11 jN) + 1)) (i_X0_hearing (tbY y (tn (s_X7_giftOf y jN cN))) cN) jN v10) (tbY y (tn (s_X7_giftOf y jN cN))) z hI7 cN (by omega)) lk_X7_200 (g_recv C (hW.1 0 0 rfl).1 rfl) hW rfl rfl hl (Nat.le_of_ble_eq_true rfl) dX7_vote_93 ⟨⟨by decide, by decide⟩, by decide, by decide⟩ hS (fun q h => h) (fun H locs hP hz1 hk1 hS => ?_)
            obtain ⟨ad11, ka11, hW⟩ : ∃ ad', KA ad7 ad' ∧ CWd G A ad' (sx_X7_settle (sx_X2_cast (up2 (tbX x y (tn (s_X7_giftOf y jN cN))) 11 jN (((tbX x y (tn (s_X7_giftOf y jN cN))) 11 jN) + 1)) (i_X0_hearing (tbY y (tn (s_X7_giftOf y jN cN))) cN) jN v10) (tbY y (tn (s_X7_giftOf y jN cN))) cN) (sy_X7_settle (sx_X2_cast (up2 (tbX x y (tn (s_X7_giftOf y jN cN))) 11 jN (((tbX x y (tn (s_X7_giftOf y jN cN))) 11 jN) + 1)) (i_X0_hearing (tbY y (tn (s_X7_giftOf y jN cN))) cN) jN v10) (tbY y (tn (s_X7_giftOf y jN cN))) cN) z H := hP
            have hl : lv_has ls 7 [(6, .int (s_X7_giftOf y jN cN)), (5, .ref (ad11 4 cN)), (4, .ref (ad11 2 jN)), (0, .ref (ad11 0 0)), (1, .int (nI jN)), (2, .int (nI cN)), (3, .int gu)] := by rw [ka11 4 (by decide), ka11 2 (by decide), ka11 0 (by decide)]; exact hl
            have hI11 : CI (sy_X7_settle (sx_X2_cast (up2 (tbX x y (tn (s_X7_giftOf y jN cN))) 11 jN (((tbX x y (tn (s_X7_giftOf y jN cN))) 11 jN) + 1)) (i_X0_hearing (tbY y (tn (s_X7_giftOf y jN cN))) cN) jN v10) (tbY y (tn (s_X7_giftOf y jN cN))) cN) := (se_ok hI7).1
            have yk11 : YK (tbY y (tn (s_X7_giftOf y jN cN))) (sy_X7_settle (sx_X2_cast (up2 (tbX x y (tn (s_X7_giftOf y jN cN))) 11 jN (((tbX x y (tn (s_X7_giftOf y jN cN))) 11 jN) + 1)) (i_X0_hearing (tbY y (tn (s_X7_giftOf y jN cN))) cN) jN v10) (tbY y (tn (s_X7_giftOf y jN cN))) cN) := (se_ok hI7).2
            have yb11 : (sy_X7_settle (sx_X2_cast (up2 (tbX x y (tn (s_X7_giftOf y jN cN))) 11 jN (((tbX x y (tn (s_X7_giftOf y jN cN))) 11 jN) + 1)) (i_X0_hearing (tbY y (tn (s_X7_giftOf y jN cN))) cN) jN v10) (tbY y (tn (s_X7_giftOf y jN cN))) cN) 20 0 = (tbY y (tn (s_X7_giftOf y jN cN))) 20 0 ∧ (sy_X7_settle (sx_X2_cast (up2 (tbX x y (tn (s_X7_giftOf y jN cN))) 11 jN (((tbX x y (tn (s_X7_giftOf y jN cN))) 11 jN) + 1)) (i_X0_hearing (tbY y (tn (s_X7_giftOf y jN cN))) cN) jN v10) (tbY y (tn (s_X7_giftOf y jN cN))) cN) 20 1 = (tbY y (tn (s_X7_giftOf y jN cN))) 20 1 := yk11.2
            refine lv_aload C.hx C.hb dX7_vote_96 (lv_at hl 1 rfl) ?_
            refine g_getN (k := 8) (v := .int ((sx_X7_settle (sx_X2_cast (up2 (tbX x y (tn (s_X7_giftOf y jN cN))) 11 jN (((tbX x y (tn (s_X7_giftOf y jN cN))) 11 jN) + 1)) (i_X0_hearing (tbY y (tn (s_X7_giftOf y jN cN))) cN) jN v10) (tbY y (tn (s_X7_giftOf y jN cN))) cN) 19 cN)) C (hW.1 4 cN (show cN < (sy_X7_settle (sx_X2_cast (up2 (tbX x y (tn (s_X7_giftOf y jN cN))) 11 jN (((tbX x y (tn (s_X7_giftOf y jN cN))) 11 jN) + 1)) (i_X0_hearing (tbY y (tn (s_X7_giftOf y jN cN))) cN) jN v10) (tbY y (tn (s_X7_giftOf y jN cN))) cN) 20 1 by omega)).1 rfl wu_X0 (by decide) wn_X7_203 rfl rfl dX7_vote_98 ?_
            exact wI C hr dX7_vote_101 hS (by rw [hv10]; unfold s_X7_vote; (try simp only [tcN, tjN]); first | (rw [if_neg c1, if_neg c3, if_neg c4, if_pos c5]; done) | simp only [if_neg c1, if_neg c3, if_neg c4, if_pos c5] | (simp only [if_neg c1, if_neg c3, if_neg c4, if_pos c5]; rfl)) ⟨ad11, (KA.tr ka7 ka11), (by rw [hv10] at hW; unfold sx_X7_vote sy_X7_vote; (try simp only [tcN, tjN]); simp only [if_neg c1, if_neg c3, if_neg c4, if_pos c5]; exact hW)⟩
        · refine lv_bipush (v := (-4)) C.hx C.hb dX7_vote_50 (by decide) ?_
          exact wI C hr dX7_vote_52 hS (by unfold s_X7_vote; (try simp only [tcN, tjN]); first | (rw [if_neg c1, if_neg c3, if_neg c4, if_neg c5]; done) | simp only [if_neg c1, if_neg c3, if_neg c4, if_neg c5] | (simp only [if_neg c1, if_neg c3, if_neg c4, if_neg c5]; rfl)) ⟨ad, KA.rf _, (by unfold sx_X7_vote sy_X7_vote; (try simp only [tcN, tjN]); simp only [if_neg c1, if_neg c3, if_neg c4, if_neg c5]; exact hW)⟩
      · refine lv_iconst (v := (-1)) C.hx C.hb dX7_vote_33 (by decide) ?_
        exact wI C hr dX7_vote_34 hS (by unfold s_X7_vote; (try simp only [tcN, tjN]); first | (rw [if_neg c1, if_neg c3, if_pos c4]; done) | simp only [if_neg c1, if_neg c3, if_pos c4] | (simp only [if_neg c1, if_neg c3, if_pos c4]; rfl)) ⟨ad, KA.rf _, (by unfold sx_X7_vote sy_X7_vote; (try simp only [tcN, tjN]); simp only [if_neg c1, if_neg c3, if_pos c4]; exact hW)⟩
