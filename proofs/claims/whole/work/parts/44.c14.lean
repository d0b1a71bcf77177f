section CF
variable {G : GG} {A : Nat → Prop} {ad : YY} {x : XX} {y : YY} {z : Nat → Int64} {H H1 : Heap}
theorem cf_0 {i v : Nat} : (.inr (6, [.int (nI i), .int (x 12 i), .int (x 13 i), .int (x 14 i), .int (x 15 i), opt (ad 4) v, opt (ad 4) (y 1 i)]) : va_E) = cob G ad x (upY y 0 i v) z 3 i := by simp [cob, upY]
theorem cy_0 {i v : Nat} : ∀ k' i', ¬ (k' = 3 ∧ i' = i) → cob G ad x (upY y 0 i v) z k' i' = cob G ad x y z k' i' := fun k' i' hn => match k', hn with
  | 0, hn => rfl
  | 1, hn => rfl
  | 2, hn => rfl
  | 3, hn => (by have h : i' ≠ i := fun q => hn ⟨rfl, q⟩; simp [cob, upY, h])
  | 4, hn => rfl
  | 5, hn => rfl
  | 6, hn => rfl
  | 7, hn => rfl
  | 8, hn => rfl
  | 9, hn => rfl
  | 10, hn => rfl
  | 11, hn => rfl
  | 12, hn => rfl
  | _ + 13, _ => rfl
theorem ylv_0 {i v : Nat} : ∀ k' i', lv (upY y 0 i v) k' i' → lv y k' i' := fun k' i' q => match k', q with
  | 0, q => q
  | 1, q => q
  | 2, q => q
  | 3, q => q
  | 4, q => q
  | 5, q => q
  | 6, q => q
  | 7, q => q
  | 8, q => q
  | 9, q => q
  | 10, q => q
  | 11, q => q
  | 12, q => q
  | _ + 13, q => q.elim
theorem cf_1 {i v : Nat} : (.inr (6, [.int (nI i), .int (x 12 i), .int (x 13 i), .int (x 14 i), .int (x 15 i), opt (ad 4) (y 0 i), opt (ad 4) v]) : va_E) = cob G ad x (upY y 1 i v) z 3 i := by simp [cob, upY]
theorem cy_1 {i v : Nat} : ∀ k' i', ¬ (k' = 3 ∧ i' = i) → cob G ad x (upY y 1 i v) z k' i' = cob G ad x y z k' i' := fun k' i' hn => match k', hn with
  | 0, hn => rfl
  | 1, hn => rfl
  | 2, hn => rfl
  | 3, hn => (by have h : i' ≠ i := fun q => hn ⟨rfl, q⟩; simp [cob, upY, h])
  | 4, hn => rfl
  | 5, hn => rfl
  | 6, hn => rfl
  | 7, hn => rfl
  | 8, hn => rfl
  | 9, hn => rfl
  | 10, hn => rfl
  | 11, hn => rfl
  | 12, hn => rfl
  | _ + 13, _ => rfl
theorem ylv_1 {i v : Nat} : ∀ k' i', lv (upY y 1 i v) k' i' → lv y k' i' := fun k' i' q => match k', q with
  | 0, q => q
  | 1, q => q
  | 2, q => q
  | 3, q => q
  | 4, q => q
  | 5, q => q
  | 6, q => q
  | 7, q => q
  | 8, q => q
  | 9, q => q
  | 10, q => q
  | 11, q => q
  | 12, q => q
  | _ + 13, q => q.elim
theorem cf_5 {i v : Nat} : (.inr (1, [.int (nI i), .ref (ad 3 (y 2 i)), .ref (ad 1 (y 3 i)), .int (x 16 i), .ref (ad 5 (2 * i)), opt (fun _ => ad 5 (2 * i + 1)) (y 4 i), .int (x 17 i), .int (x 18 i), .int (x 19 i), .int (x 20 i), .int (x 21 i), opt (ad 4) v]) : va_E) = cob G ad x (upY y 5 i v) z 4 i := by simp [cob, upY]
theorem cy_5 {i v : Nat} : ∀ k' i', ¬ (k' = 4 ∧ i' = i) → cob G ad x (upY y 5 i v) z k' i' = cob G ad x y z k' i' := fun k' i' hn => match k', hn with
  | 0, hn => rfl
  | 1, hn => rfl
  | 2, hn => rfl
  | 3, hn => rfl
  | 4, hn => (by have h : i' ≠ i := fun q => hn ⟨rfl, q⟩; simp [cob, upY, h])
  | 5, hn => rfl
  | 6, hn => rfl
  | 7, hn => rfl
  | 8, hn => rfl
  | 9, hn => rfl
  | 10, hn => rfl
  | 11, hn => rfl
  | 12, hn => rfl
  | _ + 13, _ => rfl
theorem ylv_5 {i v : Nat} : ∀ k' i', lv (upY y 5 i v) k' i' → lv y k' i' := fun k' i' q => match k', q with
  | 0, q => q
  | 1, q => q
  | 2, q => q
  | 3, q => q
  | 4, q => q
  | 5, q => q
  | 6, q => q
  | 7, q => q
  | 8, q => q
  | 9, q => q
  | 10, q => q
  | 11, q => q
  | 12, q => q
  | _ + 13, q => q.elim
/-- a second hearing for case c -/
def heX (x : XX) (h : Nat) (n : Int32) : XX := up2 (up2 (up2 (up2 (up2 (up2 (up2 x 22 h n) 23 h 0) 24 h 0) 25 h 0) 26 h 0) 27 h 0) 28 h 0
theorem CWd.addH (h : CWd G A ad x y z H) {c hh : Nat} {n : Int32} (hc : c < y 20 1) (h4 : y 4 c = 0) (hA : ∀ r : Nat, H.size ≤ r → A r) (hq : H.size ≤ hh) (e5 : va_at G.1 vwCl (hh, .inr (3, [.int n, .int 0, .int 0, .int 0, .int 0, .int 0, .int 0])) H1) (e4 : va_at G.1 vwCl (ad 4 c, .inr (1, [.int (nI c), .ref (ad 3 (y 2 c)), .ref (ad 1 (y 3 c)), .int (x 16 c), .ref (ad 5 (2 * c)), .ref hh, .int (x 17 c), .int (x 18 c), .int (x 19 c), .int (x 20 c), .int (x 21 c), opt (ad 4) (y 5 c)])) H1) (o : ∀ r : Nat, r < H.size → r ≠ ad 4 c → H1[r]? = H[r]?) : CWd G A (upY ad 5 (2 * c + 1) hh) (heX x (2 * c + 1) n) (upY y 4 c 1) z H1 := by
  have kp : ∀ k j, lv y k j → ¬ (k = 4 ∧ j = c) → H1[ad k j]? = H[ad k j]? := fun k j hl n1 => o _ (h.1 k j hl).1.lt (fun q => n1 (h.2.1 k j 4 c hl hc q))
  have aA := (h.1 4 c hc).2
  refine CWd.ext [(5, 2 * c + 1, hh)] h (fun k i hl => ?_) ?_ (o _ h.l6 (fun q => h.2.2.2.1 (by rw [q]; exact aA))) (o _ h.l8 (fun q => h.2.2.2.2 (by rw [q]; exact aA)))
  · exact match k, i, hl with
    | 0, i, hl => Or.inl ⟨hl, rfl, Or.inl ⟨rfl, kp 0 i hl (by omega)⟩⟩
    | 1, i, hl => Or.inl ⟨hl, rfl, Or.inl ⟨rfl, kp 1 i hl (by omega)⟩⟩
    | 2, i, hl => Or.inl ⟨hl, rfl, Or.inl ⟨rfl, kp 2 i hl (by omega)⟩⟩
    | 3, i, hl => Or.inl ⟨hl, rfl, Or.inl ⟨rfl, kp 3 i hl (by omega)⟩⟩
    | 4, i, hl => by
        have hl : i < y 20 1 := hl
        by_cases e : i = c
        · subst e
          refine Or.inl ⟨hl, rfl, Or.inr ?_⟩
          have ec : cob G (upY ad 5 (2 * i + 1) hh) (heX x (2 * i + 1) n) (upY y 4 i 1) z 4 i = .inr (1, [.int (nI i), .ref (ad 3 (y 2 i)), .ref (ad 1 (y 3 i)), .int (x 16 i), .ref (ad 5 (2 * i)), .ref hh, .int (x 17 i), .int (x 18 i), .int (x 19 i), .int (x 20 i), .int (x 21 i), opt (ad 4) (y 5 i)]) := by
            have a5 : upY ad 5 (2 * i + 1) hh 5 (2 * i) = ad 5 (2 * i) := by unfold upY; rw [if_neg (by omega)]
            have a6 : upY ad 5 (2 * i + 1) hh 5 (2 * i + 1) = hh := by simp [upY]
            have a4 : upY y 4 i 1 4 i = 1 := by simp [upY]
            have b4 : upY ad 5 (2 * i + 1) hh 4 = ad 4 := rfl
            simp only [cob]
            rw [a5, a6, a4, b4]
            rfl
          rw [ec]; exact e4
        · refine Or.inl ⟨hl, rfl, Or.inl ⟨?_, kp 4 i hl (by omega)⟩⟩
          have a5 : upY ad 5 (2 * c + 1) hh 5 (2 * i) = ad 5 (2 * i) := by unfold upY; rw [if_neg (by omega)]
          have a6 : upY ad 5 (2 * c + 1) hh 5 (2 * i + 1) = ad 5 (2 * i + 1) := by unfold upY; rw [if_neg (by omega)]
          have a4 : upY y 4 c 1 4 i = y 4 i := by unfold upY; rw [if_neg (by omega)]
          have b4 : upY ad 5 (2 * c + 1) hh 4 = ad 4 := rfl
          simp only [cob]
          rw [a5, a6, a4, b4]
          rfl
    | 5, i, hl => by
        by_cases e : i = 2 * c + 1
        · subst e
          refine Or.inr ⟨hh, by simp, by simp [upY], hq, ?_, hA _ hq⟩
          have ec : cob G (upY ad 5 (2 * c + 1) hh) (heX x (2 * c + 1) n) (upY y 4 c 1) z 5 (2 * c + 1) = .inr (3, [.int n, .int 0, .int 0, .int 0, .int 0, .int 0, .int 0]) := by simp [cob, heX, up2, upd]
          rw [ec]; exact e5
        · have hl : i / 2 < y 20 1 ∧ (i % 2 = 0 ∨ upY y 4 c 1 4 (i / 2) ≠ 0) := hl
          have hl2 : lv y 5 i := by
            refine ⟨hl.1, ?_⟩
            rcases hl.2 with h7 | h7
            · exact Or.inl h7
            · by_cases h9 : i / 2 = c
              · exact Or.inl (by omega)
              · have h6 : upY y 4 c 1 4 (i / 2) = y 4 (i / 2) := by unfold upY; rw [if_neg (by omega)]
                rw [h6] at h7; exact Or.inr h7
          refine Or.inl ⟨hl2, by unfold upY; rw [if_neg (by omega)], Or.inl ⟨?_, kp 5 i hl2 (by omega)⟩⟩
          simp [cob, heX, up2, upd, e]
    | 6, i, hl => Or.inl ⟨hl, rfl, Or.inl ⟨rfl, kp 6 i hl (by omega)⟩⟩
    | 7, i, hl => Or.inl ⟨hl, rfl, Or.inl ⟨rfl, kp 7 i hl (by omega)⟩⟩
    | 8, 0, hl => Or.inl ⟨hl, rfl, Or.inl ⟨rfl, kp 8 0 hl (by omega)⟩⟩
    | 8, 1, hl => Or.inl ⟨hl, rfl, Or.inl ⟨rfl, kp 8 1 hl (by omega)⟩⟩
    | 8, 2, hl => Or.inl ⟨hl, rfl, Or.inl ⟨rfl, kp 8 2 hl (by omega)⟩⟩
    | 8, i + 3, hl => absurd (show i + 3 < 3 from hl.1) (by omega)
    | 9, i, hl => Or.inl ⟨hl, rfl, Or.inl ⟨rfl, kp 9 i hl (by omega)⟩⟩
    | 10, i, hl => Or.inl ⟨hl, rfl, Or.inl ⟨by simp only [cob]; unfold heX; rw [up2_ne (by omega), up2_ne (by omega), up2_ne (by omega), up2_ne (by omega), up2_ne (by omega), up2_ne (by omega), up2_ne (by omega)], kp 10 i hl (by omega)⟩⟩
    | 11, i, hl => Or.inl ⟨hl, rfl, Or.inl ⟨rfl, kp 11 i hl (by omega)⟩⟩
    | 12, i, hl => Or.inl ⟨hl, rfl, Or.inl ⟨rfl, kp 12 i hl (by omega)⟩⟩
    | _ + 13, i, hl => hl.elim
  · intro k i v k' i' v' h1 h2 e
    simp only [List.mem_cons, List.not_mem_nil, or_false, Prod.mk.injEq] at h1 h2
    obtain ⟨rfl, rfl, rfl⟩ := h1
    obtain ⟨rfl, rfl, rfl⟩ := h2
    exact ⟨rfl, rfl⟩
end CF
def acY (y : YY) (p c : Nat) : YY := if y 1 p = 0 then (upY (upY y 0 p (c + 1)) 1 p (c + 1)) else (upY (upY y 5 (y 1 p - 1) (c + 1)) 1 p (c + 1))
set_option maxRecDepth 100000 in
set_option maxHeartbeats 1000000 in
theorem cC_X5_addCase (l : Launch) (G : GG) (A : Nat → Prop) (ad : YY) (x : XX) (y : YY) (z : Nat → Int64) (hI : CI y) (pp c : Nat) (hpp : pp < y 20 0) (hc : c < y 20 1) : MW l G yX5_addCase cX5_addCase 2 none 0 [.ref (ad 3 pp), .ref (ad 4 c)] (CWd G A ad x y z) none (CWd G A ad x (acY y pp c) z) A 0 0 := by
  refine MW.of RX5 rfl (by decide) (Nat.le_of_ble_eq_true rfl) ?_
  intro p_ e_ s_ m_ args_ below_ meth_ c_ ls hargs C hr hnm hW hS hl
  have hl : lv_has ls 2 [(0, .ref (ad 3 pp)), (1, .ref (ad 4 c))] := hl
  refine lv_aload_n C.hx C.hb dX5_addCase_0 rfl (lv_at hl 0 rfl) ?_
  by_cases c1 : y 1 pp = 0
  · refine g_get (k := 6) (v := .null) C (hW.1 3 pp hpp).1 rfl wu_X5 (by decide) wf_X5_13 rfl (by show some (opt _ (y 1 pp)) = _; rw [c1]; rfl) dX5_addCase_1 ?_
    refine lv_ifnonnullN C.hx C.hb dX5_addCase_4 ?_
    refine lv_aload_n C.hx C.hb dX5_addCase_7 rfl (lv_at hl 0 rfl) ?_
    refine lv_aload_n C.hx C.hb dX5_addCase_8 rfl (lv_at hl 1 rfl) ?_
    refine g_put (k := 5) tyX5 C hS (hW.1 3 pp hpp).1 (hW.1 3 pp hpp).2 rfl wu_X5 tyX5_ok nmX5 (by decide) wf_X5_7 rfl rfl rfl rfl rfl (Nat.le_of_ble_eq_true rfl) dX5_addCase_9 (fun H locs e1 o1 z1 hS => ?_)
    have hW : CWd G A ad x (upY y 0 pp (c + 1)) z H := hW.put 3 pp hpp (by rw [← cf_0]; exact e1) o1 ylv_0 cy_0
    refine lv_goto (tgt := 23) C.hx C.hb dX5_addCase_12 (by decide) ?_
    refine lv_aload_n C.hx C.hb dX5_addCase_23 rfl (lv_at hl 0 rfl) ?_
    refine lv_aload_n C.hx C.hb dX5_addCase_24 rfl (lv_at hl 1 rfl) ?_
    refine g_put (k := 6) tyX5 C hS (hW.1 3 pp hpp).1 (hW.1 3 pp hpp).2 rfl wu_X5 tyX5_ok nmX5 (by decide) wf_X5_13 rfl rfl rfl rfl rfl (Nat.le_of_ble_eq_true rfl) dX5_addCase_25 (fun H locs e1 o1 z1 hS => ?_)
    have hW : CWd G A ad x (upY (upY y 0 pp (c + 1)) 1 pp (c + 1)) z H := hW.put 3 pp hpp (by rw [← cf_1]; exact e1) o1 ylv_1 cy_1
    exact wV C hr dX5_addCase_28 hS (by unfold acY; rw [if_pos c1]; exact hW)
  · refine g_get (k := 6) (v := .ref (ad 4 (y 1 pp - 1))) C (hW.1 3 pp hpp).1 rfl wu_X5 (by decide) wf_X5_13 rfl (by show some (opt _ (y 1 pp)) = _; rw [show y 1 pp = (y 1 pp - 1) + 1 by omega]; rfl) dX5_addCase_1 ?_
    have pc1 := (hI.2.1 pp (by omega)).2
    refine lv_ifnonnull (tgt := 15) C.hx C.hb dX5_addCase_4 (by decide) ?_
    refine lv_aload_n C.hx C.hb dX5_addCase_15 rfl (lv_at hl 0 rfl) ?_
    refine g_get (k := 6) (v := .ref (ad 4 (y 1 pp - 1))) C (hW.1 3 pp hpp).1 rfl wu_X5 (by decide) wf_X5_13 rfl (by show some (opt _ (y 1 pp)) = _; rw [show y 1 pp = (y 1 pp - 1) + 1 by omega]; rfl) dX5_addCase_16 ?_
    refine lv_aload_n C.hx C.hb dX5_addCase_19 rfl (lv_at hl 1 rfl) ?_
    refine g_putN (k := 11) tyX0 C hS (hW.1 4 (y 1 pp - 1) (show (y 1 pp - 1) < y 20 1 by omega)).1 (hW.1 4 (y 1 pp - 1) (show (y 1 pp - 1) < y 20 1 by omega)).2 rfl wu_X0 tyX0_ok nmX0 (by decide) wn_X5_32 rfl rfl rfl rfl rfl (Nat.le_of_ble_eq_true rfl) dX5_addCase_20 (fun H locs e1 o1 z1 hS => ?_)
    have hW : CWd G A ad x (upY y 5 (y 1 pp - 1) (c + 1)) z H := hW.put 4 (y 1 pp - 1) (show (y 1 pp - 1) < y 20 1 by omega) (by rw [← cf_5]; exact e1) o1 ylv_5 cy_5
    refine lv_aload_n C.hx C.hb dX5_addCase_23 rfl (lv_at hl 0 rfl) ?_
    refine lv_aload_n C.hx C.hb dX5_addCase_24 rfl (lv_at hl 1 rfl) ?_
    refine g_put (k := 6) tyX5 C hS (hW.1 3 pp hpp).1 (hW.1 3 pp hpp).2 rfl wu_X5 tyX5_ok nmX5 (by decide) wf_X5_13 rfl rfl rfl rfl rfl (Nat.le_of_ble_eq_true rfl) dX5_addCase_25 (fun H locs e1 o1 z1 hS => ?_)
    have hW : CWd G A ad x (upY (upY y 5 (y 1 pp - 1) (c + 1)) 1 pp (c + 1)) z H := hW.put 3 pp hpp (by rw [← cf_1]; exact e1) o1 ylv_1 cy_1
    exact wV C hr dX5_addCase_28 hS (by unfold acY; rw [if_neg c1]; exact hW)
def haX (x : XX) (c : Nat) (t : Int32) : XX := (up2 (up2 (heX x (2 * c + 1) (if (x 22 (2 * c)) + 2 < 9 then (x 22 (2 * c)) + 2 else 9 : Int32)) 17 c t) 19 c 3)
set_option maxRecDepth 100000 in
set_option maxHeartbeats 1000000 in
theorem cC_X0_hearAgain (l : Launch) (G : GG) (A : Nat → Prop) (ad : YY) (x : XX) (y : YY) (z : Nat → Int64) (c : Nat) (hc : c < y 20 1) (t : Int32) (h4 : y 4 c = 0) (sz : Nat) (hA : ∀ r : Nat, sz ≤ r → A r) : MW l G yX0_hearAgain cX0_hearAgain 2 none 2 [.ref (ad 4 c), .int t] (fun H => CWd G A ad x y z H ∧ H.size = sz) none (fun H => ∃ ad' : YY, ad' 0 0 = ad 0 0 ∧ CWd G A ad' (haX x c t) (upY y 4 c 1) z H) A 1 7 := by
  refine MW.of RX0 rfl (by decide) (Nat.le_of_ble_eq_true rfl) ?_
  intro p_ e_ s_ m_ args_ below_ meth_ c_ ls hargs C hr hnm hP hS hl
  have hl : lv_has ls 2 [(0, .ref (ad 4 c)), (1, .int t)] := hl
  obtain ⟨hW, hsz⟩ := hP
  subst hsz
  have hW0 := hW
  have hlt : ∀ k i, lv y k i → ad k i < s_.heap.size := fun k i hl => (hW0.1 k i hl).1.lt
  have hl6 : @LT.lt Nat _ (G.2 6) s_.heap.size := hW0.l6
  have hl8 : @LT.lt Nat _ (G.2 8) s_.heap.size := hW0.l8
  refine lv_aload_n C.hx C.hb dX0_hearAgain_0 rfl (lv_at hl 0 rfl) ?_
  refine g_new (ci := 3) tyX2 (fs := [.int 0, .int 0, .int 0, .int 0, .int 0, .int 0, .int 0]) C hS rfl wu_X2 tyX2_ok wl_X0_49 wi_X2 wz_X2 (fun j hj => by match j, hj with | 0, _ => rfl | 1, _ => rfl | 2, _ => rfl | 3, _ => rfl | 4, _ => rfl | 5, _ => rfl | 6, _ => rfl) (by decide) (by decide) dX0_hearAgain_1 (fun H hN o1 z1 hS => ?_)
  have hW : CWd G A ad x y z H := hW.kp (fun k i hl => o1 _ (hlt k i hl)) (o1 _ hW0.l6) (o1 _ hW0.l8)
  have hc0 : va_at G.1 vwCl (ad 4 c, cob G ad x y z 4 c) s_.heap := (hW0.1 4 c hc).1
  refine lv_dup C.hx C.hb dX0_hearAgain_4 rfl ?_
  refine lv_bipush (v := 9) C.hx C.hb dX0_hearAgain_5 (by decide) ?_
  refine lv_aload_n C.hx C.hb dX0_hearAgain_7 rfl (lv_at hl 0 rfl) ?_
  refine g_get (k := 4) (v := .ref (ad 5 (2 * c))) C (hW.1 4 c hc).1 rfl wu_X0 (by decide) wf_X0_54 rfl rfl dX0_hearAgain_8 ?_
  refine g_getN (k := 0) (v := .int (x 22 (2 * c))) C (hW.1 5 (2 * c) (lvH1 hc)).1 rfl wu_X2 (by decide) wn_X0_77 rfl rfl dX0_hearAgain_11 ?_
  refine lv_iconst (v := 2) C.hx C.hb dX0_hearAgain_14 (by decide) ?_
  refine lv_iadd C.hx C.hb dX0_hearAgain_15 ?_
  refine g_min C hl mm_X0_96 ⟨by decide, Nat.le_of_ble_eq_true rfl, by decide, by decide⟩ dX0_hearAgain_16 ?_
  refine kINWn (As := [.int (if ((x 22 (2 * c)) + 2) < 9 then (x 22 (2 * c)) + 2 else 9 : Int32)]) (rest := [.ref s_.heap.size, .ref (ad 4 c)]) C (cC_X2_init l G s_.heap.size (s_.heap.size + 1) (if ((x 22 (2 * c)) + 2) < 9 then (x 22 (2 * c)) + 2 else 9 : Int32)) lk_X0_51 ⟨hN, z1⟩ rfl rfl hl (Nat.le_of_ble_eq_true rfl) dX0_hearAgain_19 ⟨⟨by decide, by decide⟩, by decide, by decide⟩ hS (fun q h => by rw [h]; exact hA _ (Nat.le_refl _)) (fun H locs hPq hz2 hk2 hS => ?_)
  obtain ⟨hN, hz⟩ := id hPq
  rw [z1] at hk2
  have hW : CWd G A ad x y z H := hW.kp (fun k i hl => hk2 _ (by have := hlt k i hl; omega) (by have := hlt k i hl; omega)) (hk2 _ (by omega) (by omega)) (hk2 _ (by omega) (by omega))
  have hg4 := hlt 4 c hc
  refine g_put (k := 5) tyX0 C hS (hW.1 4 c hc).1 (hW.1 4 c hc).2 rfl wu_X0 tyX0_ok nmX0 (by decide) wf_X0_9 rfl rfl rfl rfl rfl (Nat.le_of_ble_eq_true rfl) dX0_hearAgain_22 (fun H locs e1 o3 z3 hS => ?_)
  have hN := hN.kept (o3 _ (by show s_.heap.size ≠ _; omega))
  have hW : CWd G A (upY ad 5 (2 * c + 1) s_.heap.size) (heX x (2 * c + 1) (if ((x 22 (2 * c)) + 2) < 9 then (x 22 (2 * c)) + 2 else 9 : Int32)) (upY y 4 c 1) z H := CWd.addH hW0 hc h4 hA (Nat.le_refl _) hN e1 (fun r g1 g2 => (o3 r g2).trans ((hk2 r (by omega) (by omega)).trans (o1 r g1)))
  refine lv_aload_n C.hx C.hb dX0_hearAgain_25 rfl (lv_at hl 0 rfl) ?_
  refine lv_iload_n C.hx C.hb dX0_hearAgain_26 rfl (lv_at hl 1 rfl) ?_
  refine g_put (k := 6) tyX0 C hS (hW.1 4 c hc).1 (hW.1 4 c hc).2 rfl wu_X0 tyX0_ok nmX0 (by decide) wf_X0_57 rfl rfl rfl rfl rfl (Nat.le_of_ble_eq_true rfl) dX0_hearAgain_27 (fun H locs e1 o1 z1 hS => ?_)
  have hW : CWd G A (upY ad 5 (2 * c + 1) s_.heap.size) (up2 (heX x (2 * c + 1) (if ((x 22 (2 * c)) + 2) < 9 then (x 22 (2 * c)) + 2 else 9 : Int32)) 17 c t) (upY y 4 c 1) z H := hW.put 4 c hc (by rw [← ce_17]; exact e1) o1 (fun _ _ q => q) cu_17
  refine lv_aload_n C.hx C.hb dX0_hearAgain_30 rfl (lv_at hl 0 rfl) ?_
  refine lv_iconst (v := 3) C.hx C.hb dX0_hearAgain_31 (by decide) ?_
  refine g_put (k := 8) tyX0 C hS (hW.1 4 c hc).1 (hW.1 4 c hc).2 rfl wu_X0 tyX0_ok nmX0 (by decide) wf_X0_19 rfl rfl rfl rfl rfl (Nat.le_of_ble_eq_true rfl) dX0_hearAgain_32 (fun H locs e1 o1 z1 hS => ?_)
  have hW : CWd G A (upY ad 5 (2 * c + 1) s_.heap.size) (up2 (up2 (heX x (2 * c + 1) (if ((x 22 (2 * c)) + 2) < 9 then (x 22 (2 * c)) + 2 else 9 : Int32)) 17 c t) 19 c 3) (upY y 4 c 1) z H := hW.put 4 c hc (by rw [← ce_19]; exact e1) o1 (fun _ _ q => q) cu_19
  exact wV C hr dX0_hearAgain_35 hS ⟨(upY ad 5 (2 * c + 1) s_.heap.size), rfl, hW⟩
def s_X7_appeal (x : XX) (y : YY) (c : Int32) : Int32 := if s_X7_within c 0 ((nI (y 20 1)) - 1) = 0 then (-1) else if (x 19 (tn c)) = 2 then 1 else (-4)
def okA (G : GG) (A : Nat → Prop) (ad : YY) (x : XX) (y : YY) (z : Nat → Int64) (c : Int32) (H : Heap) : Prop := if s_X7_within c 0 ((nI (y 20 1)) - 1) = 0 then CWd G A ad x y z H else if (x 19 (tn c)) = 2 then ∃ ad' : YY, ad' 0 0 = ad 0 0 ∧ CWd G A ad' (haX x (tn c) (x 0 0)) (upY y 4 (tn c) 1) z H else CWd G A ad x y z H
set_option maxRecDepth 100000 in
set_option maxHeartbeats 1000000 in
theorem cC_X7_appeal (l : Launch) (G : GG) (A : Nat → Prop) (ad : YY) (x : XX) (y : YY) (z : Nat → Int64) (hI : CI y) (c : Int32) (h42 : ∀ c, c < y 20 1 → (x 19 c) = 2 → y 4 c = 0) (sz : Nat) (hA : ∀ r : Nat, sz ≤ r → A r) : MW l G yX7_appeal cX7_appeal 3 (some .int) 5 [.ref (ad 0 0), .int c] (fun H => CWd G A ad x y z H ∧ H.size = sz) (some (.int (s_X7_appeal x y c))) (okA G A ad x y z c) A 1 7 := by
  refine MW.of RX7 rfl (by decide) (Nat.le_of_ble_eq_true rfl) ?_
  intro p_ e_ s_ m_ args_ below_ meth_ c_ ls hargs C hr hnm hP hS hl
  have hl : lv_has ls 3 [(0, .ref (ad 0 0)), (1, .int c)] := hl
  obtain ⟨hW, hsz⟩ := hP
  subst hsz
  have hW0 := hW
  have hlt : ∀ k i, lv y k i → ad k i < s_.heap.size := fun k i hl => (hW0.1 k i hl).1.lt
  obtain ⟨-, -, -, bP, bC, bG, bL⟩ := id hI
  have hl6 : @LT.lt Nat _ (G.2 6) s_.heap.size := hW0.l6
  have hl8 : @LT.lt Nat _ (G.2 8) s_.heap.size := hW0.l8
  refine lv_aload_n C.hx C.hb dX7_appeal_0 rfl (lv_at hl 0 rfl) ?_
  refine lv_iload_n C.hx C.hb dX7_appeal_1 rfl (lv_at hl 1 rfl) ?_
  by_cases c1 : s_X7_within c 0 ((nI (y 20 1)) - 1) = 0
  · refine kVR (As := [.int c]) (rest := []) (v := .null) C (cC_X7_caseAt_no l G A ad x y z hI c c1) lk_X7_180 (g_recv C (hW.1 0 0 rfl).1 rfl) hW rfl rfl hl (Nat.le_of_ble_eq_true rfl) dX7_appeal_2 ⟨⟨by decide, by decide⟩, by decide, by decide⟩ ?_
    refine lv_astore_nN (lv' := [(2, .null), (0, .ref (ad 0 0)), (1, .int c)]) C.hx C.hb dX7_appeal_5 rfl hl (by decide) rfl (fun ls hl => ?_)
    refine lv_aload_nN C.hx C.hb dX7_appeal_6 rfl (lv_at hl 0 rfl) ?_
    refine lv_ifnonnullN C.hx C.hb dX7_appeal_7 ?_
    refine lv_iconst (v := (-1)) C.hx C.hb dX7_appeal_10 (by decide) ?_
    refine W.widen (k := 1) (n := 7) (by decide) (by decide) ?_
    exact wI C hr dX7_appeal_11 hS (by unfold s_X7_appeal; rw [if_pos c1]) (by unfold okA; rw [if_pos c1]; exact hW)
  · obtain ⟨cN, hcN, rfl⟩ := withinN (n := y 20 1) c1 (by omega)
    have tcN : tn (nI cN) = cN := nI_clamp (by omega)
    refine kVR (As := [.int (nI cN)]) (rest := []) (v := .ref (ad 4 cN)) C (cC_X7_caseAt_yes l G A ad x y z hI cN (by omega)) lk_X7_180 (g_recv C (hW.1 0 0 rfl).1 rfl) hW rfl rfl hl (Nat.le_of_ble_eq_true rfl) dX7_appeal_2 ⟨⟨by decide, by decide⟩, by decide, by decide⟩ ?_
    refine lv_astore_n (lv' := [(2, .ref (ad 4 cN)), (0, .ref (ad 0 0)), (1, .int (nI cN))]) C.hx C.hb dX7_appeal_5 rfl hl (by decide) rfl (fun ls hl => ?_)
    refine lv_aload_n C.hx C.hb dX7_appeal_6 rfl (lv_at hl 0 rfl) ?_
    refine lv_ifnonnull (tgt := 12) C.hx C.hb dX7_appeal_7 (by decide) ?_
    refine lv_aload_n C.hx C.hb dX7_appeal_12 rfl (lv_at hl 0 rfl) ?_
    refine g_getN (k := 8) (v := .int (x 19 cN)) C (hW.1 4 cN (show cN < y 20 1 by omega)).1 rfl wu_X0 (by decide) wn_X7_203 rfl rfl dX7_appeal_13 ?_
    refine lv_iconst (v := 2) C.hx C.hb dX7_appeal_16 (by decide) ?_
    refine lv_icmp_eq (tgt := 23) C.hx C.hb dX7_appeal_17 (by decide) (fun c2 => ?_) (fun c2 => ?_)
    · refine lv_aload_n C.hx C.hb dX7_appeal_23 rfl (lv_at hl 0 rfl) ?_
      refine lv_aload_n C.hx C.hb dX7_appeal_24 rfl (lv_at hl 1 rfl) ?_
      refine g_get (k := 7) (v := .int (x 0 0)) C (hW.1 0 0 rfl).1 rfl wu_X7 (by decide) wf_X7_45 rfl rfl dX7_appeal_25 ?_
      refine kVNWn (As := [.int (x 0 0)]) (rest := []) C (cC_X0_hearAgain l G A ad x y z cN hcN (x 0 0) (h42 cN hcN c2) s_.heap.size hA) lk_X7_255 (g_recv C (hW.1 4 cN hcN).1 rfl) ⟨hW, rfl⟩ rfl rfl hl (Nat.le_of_ble_eq_true rfl) dX7_appeal_28 ⟨⟨by decide, by decide⟩, by decide, by decide⟩ hS (fun q h => h) (fun H locs hP hz1 hk1 hS => ?_)
      refine lv_iconst (v := 1) C.hx C.hb dX7_appeal_31 (by decide) ?_
      exact wI C hr dX7_appeal_32 hS (by unfold s_X7_appeal; simp only [tcN]; rw [if_neg c1, if_pos c2]) (by unfold okA; simp only [tcN]; rw [if_neg c1, if_pos c2]; exact hP)
    · refine lv_bipush (v := (-4)) C.hx C.hb dX7_appeal_20 (by decide) ?_
      refine W.widen (k := 1) (n := 7) (by decide) (by decide) ?_
      exact wI C hr dX7_appeal_22 hS (by unfold s_X7_appeal; simp only [tcN]; rw [if_neg c1, if_neg c2]) (by unfold okA; simp only [tcN]; rw [if_neg c1, if_neg c2]; exact hW)
def s_X7_complain (y : YY) (pp r : Int32) : Int32 := if s_X7_within pp 0 ((nI (y 20 0)) - 1) = 0 then (-1) else if s_X7_within r 0 7 = 0 then (-1) else if (i_X5_caseUnder y (tn pp) (tn r)) = 0 then (if (nI (y 20 1)) < 400 then nI (y 20 1) else (-2)) else nI ((i_X5_caseUnder y (tn pp) (tn r)) - 1)
def okC (G : GG) (A : Nat → Prop) (ad : YY) (x : XX) (y : YY) (z : Nat → Int64) (pp r : Int32) (H : Heap) : Prop := if s_X7_within pp 0 ((nI (y 20 0)) - 1) = 0 then CWd G A ad x y z H else if s_X7_within r 0 7 = 0 then CWd G A ad x y z H else if (i_X5_caseUnder y (tn pp) (tn r)) = 0 then (if (nI (y 20 1)) < 400 then ∃ (ad' : YY) (cp : Nat), ad' 0 0 = ad 0 0 ∧ y 20 1 < cp ∧ cp ≤ 600 ∧ CWd G A ad' (caX x (y 20 1) (x 3 (tn r)) (x 0 0)) (acY (caY y cp (tn pp) (tn r)) (tn pp) (y 20 1)) z H else CWd G A ad x y z H) else CWd G A ad (up2 x 18 ((i_X5_caseUnder y (tn pp) (tn r)) - 1) ((x 18 ((i_X5_caseUnder y (tn pp) (tn r)) - 1)) + 1)) y z H
theorem caseUnder_le (y : YY) (p r : Nat) : i_X5_caseUnder y p r ≤ y 20 1 := by
  unfold i_X5_caseUnder
  split
  · rename_i h; have := fstv_lt h; omega
  · omega
theorem CI.ca {y : YY} (h : CI y) {cp p r : Nat} (hn : y 20 1 < 400) (hp : p < y 20 0) (hr : r < 8) (hcp : y 20 1 < cp) (hcp2 : cp ≤ 600) : CI (caY y cp p r) := by
  obtain ⟨h1, h2, h3, h4, h5, h6, h7⟩ := h
  have e20 : caY y cp p r 20 1 = y 20 1 + 1 := rfl
  have e200 : caY y cp p r 20 0 = y 20 0 := rfl
  have e202 : caY y cp p r 20 2 = y 20 2 := rfl
  refine ⟨fun c hc => ?_, fun q hq => ?_, fun g hg => ?_, h4, by rw [e20]; omega, h6, fun l hl => ?_⟩
  · rw [e20] at hc ⊢
    rw [e200]
    by_cases e : c = y 20 1
    · subst e
      have a2 : caY y cp p r 2 (y 20 1) = p := by simp [caY, upY]
      have a3 : caY y cp p r 3 (y 20 1) = r := by simp [caY, upY]
      have a5 : caY y cp p r 5 (y 20 1) = 0 := by simp [caY, upY]
      rw [a2, a3, a5]
      exact ⟨hp, hr, by omega⟩
    · have a2 : caY y cp p r 2 c = y 2 c := by simp [caY, upY, e]
      have a3 : caY y cp p r 3 c = y 3 c := by simp [caY, upY, e]
      have a5 : caY y cp p r 5 c = y 5 c := by simp [caY, upY, e]
      have := h1 c (by omega)
      rw [a2, a3, a5]
      exact ⟨this.1, this.2.1, by omega⟩
  · have := h2 q hq
    rw [e20]
    show y 0 q ≤ _ ∧ y 1 q ≤ _
    omega
  · have := h3 g hg
    rw [e20]
    show y 6 g < 20 ∧ y 7 g < _
    omega
  · have h8 := h7 l hl
    match l, hl with
    | 0, _ => exact h8
    | 1, _ => show y 20 1 + 1 ≤ cp ∧ cp ≤ 600; omega
    | 2, _ => exact h8
set_option maxRecDepth 100000 in
set_option maxHeartbeats 1000000 in
theorem cC_X7_complain (l : Launch) (G : GG) (A : Nat → Prop) (ad : YY) (x : XX) (y : YY) (z : Nat → Int64) (hI : CI y) (hL : CL y) (pp r : Int32) (sz : Nat) (hA : ∀ r : Nat, sz ≤ r → A r) : MW l G yX7_complain cX7_complain 8 (some .int) 7 [.ref (ad 0 0), .int pp, .int r] (fun H => CWd G A ad x y z H ∧ H.size = sz) (some (.int (s_X7_complain y pp r))) (okC G A ad x y z pp r) A 3 619 := by
  refine MW.of RX7 rfl (by decide) (Nat.le_of_ble_eq_true rfl) ?_
  intro p_ e_ s_ m_ args_ below_ meth_ c_ ls hargs C hr hnm hP hS hl
  have hl : lv_has ls 8 [(0, .ref (ad 0 0)), (1, .int pp), (2, .int r)] := hl
  obtain ⟨hW, hsz⟩ := hP
  subst hsz
  have hW0 := hW
  have hlt : ∀ k i, lv y k i → ad k i < s_.heap.size := fun k i hl => (hW0.1 k i hl).1.lt
  obtain ⟨-, -, -, bP, bC, bG, bL⟩ := id hI
  have hl6 : @LT.lt Nat _ (G.2 6) s_.heap.size := hW0.l6
  have hl8 : @LT.lt Nat _ (G.2 8) s_.heap.size := hW0.l8
  refine lv_aload_n C.hx C.hb dX7_complain_0 rfl (lv_at hl 0 rfl) ?_
  refine lv_iload_n C.hx C.hb dX7_complain_1 rfl (lv_at hl 1 rfl) ?_
  by_cases c1 : s_X7_within pp 0 ((nI (y 20 0)) - 1) = 0
  · refine kVR (As := [.int pp]) (rest := []) (v := .null) C (cC_X7_postAt_no l G A ad x y z hI pp c1) lk_X7_96 (g_recv C (hW.1 0 0 rfl).1 rfl) hW rfl rfl hl (Nat.le_of_ble_eq_true rfl) dX7_complain_2 ⟨⟨by decide, by decide⟩, by decide, by decide⟩ ?_
    refine lv_astore_nN (lv' := [(3, .null), (0, .ref (ad 0 0)), (1, .int pp), (2, .int r)]) C.hx C.hb dX7_complain_5 rfl hl (by decide) rfl (fun ls hl => ?_)
    refine lv_aload_n C.hx C.hb dX7_complain_6 rfl (lv_at hl 1 rfl) ?_
    refine lv_iload_n C.hx C.hb dX7_complain_7 rfl (lv_at hl 3 rfl) ?_
    by_cases c2 : s_X7_within r 0 7 = 0
    · refine kVR (As := [.int r]) (rest := []) (v := .null) C (cC_X7_ruleAt_no l G A ad x y z r c2) lk_X7_64 (g_recv C (hW.1 0 0 rfl).1 rfl) hW rfl rfl hl (Nat.le_of_ble_eq_true rfl) dX7_complain_8 ⟨⟨by decide, by decide⟩, by decide, by decide⟩ ?_
      refine lv_astoreN (lv' := [(4, .null), (3, .null), (0, .ref (ad 0 0)), (1, .int pp), (2, .int r)]) C.hx C.hb dX7_complain_11 hl (by decide) rfl (fun ls hl => ?_)
      refine lv_aload_nN C.hx C.hb dX7_complain_13 rfl (lv_at hl 1 rfl) ?_
      refine lv_ifnullN (tgt := 22) C.hx C.hb dX7_complain_14 (by decide) ?_
      refine lv_iconst (v := (-1)) C.hx C.hb dX7_complain_22 (by decide) ?_
      refine W.widen (k := 3) (n := 619) (by decide) (by decide) ?_
      exact wI C hr dX7_complain_23 hS (by unfold s_X7_complain; rw [if_pos c1]) (by unfold okC; rw [if_pos c1]; exact hW)
    · obtain ⟨rN, hrN, rfl⟩ := withinK (n := 8) c2 (by decide)
      have trN : tn (nI rN) = rN := nI_clamp (by omega)
      refine kVR (As := [.int (nI rN)]) (rest := []) (v := .ref (ad 1 rN)) C (cC_X7_ruleAt_yes l G A ad x y z rN (by omega)) lk_X7_64 (g_recv C (hW.1 0 0 rfl).1 rfl) hW rfl rfl hl (Nat.le_of_ble_eq_true rfl) dX7_complain_8 ⟨⟨by decide, by decide⟩, by decide, by decide⟩ ?_
      refine lv_astore (lv' := [(4, .ref (ad 1 rN)), (3, .null), (0, .ref (ad 0 0)), (1, .int pp), (2, .int (nI rN))]) C.hx C.hb dX7_complain_11 hl (by decide) rfl (fun ls hl => ?_)
      refine lv_aload_nN C.hx C.hb dX7_complain_13 rfl (lv_at hl 1 rfl) ?_
      refine lv_ifnullN (tgt := 22) C.hx C.hb dX7_complain_14 (by decide) ?_
      refine lv_iconst (v := (-1)) C.hx C.hb dX7_complain_22 (by decide) ?_
      refine W.widen (k := 3) (n := 619) (by decide) (by decide) ?_
      exact wI C hr dX7_complain_23 hS (by unfold s_X7_complain; rw [if_pos c1]) (by unfold okC; rw [if_pos c1]; exact hW)
  · obtain ⟨ppN, hppN, rfl⟩ := withinN (n := y 20 0) c1 (by omega)
    have tppN : tn (nI ppN) = ppN := nI_clamp (by omega)
    refine kVR (As := [.int (nI ppN)]) (rest := []) (v := .ref (ad 3 ppN)) C (cC_X7_postAt_yes l G A ad x y z hI ppN (by omega)) lk_X7_96 (g_recv C (hW.1 0 0 rfl).1 rfl) hW rfl rfl hl (Nat.le_of_ble_eq_true rfl) dX7_complain_2 ⟨⟨by decide, by decide⟩, by decide, by decide⟩ ?_
    refine lv_astore_n (lv' := [(3, .ref (ad 3 ppN)), (0, .ref (ad 0 0)), (1, .int (nI ppN)), (2, .int r)]) C.hx C.hb dX7_complain_5 rfl hl (by decide) rfl (fun ls hl => ?_)
    refine lv_aload_n C.hx C.hb dX7_complain_6 rfl (lv_at hl 1 rfl) ?_
    refine lv_iload_n C.hx C.hb dX7_complain_7 rfl (lv_at hl 3 rfl) ?_
    by_cases c3 : s_X7_within r 0 7 = 0
    · refine kVR (As := [.int r]) (rest := []) (v := .null) C (cC_X7_ruleAt_no l G A ad x y z r c3) lk_X7_64 (g_recv C (hW.1 0 0 rfl).1 rfl) hW rfl rfl hl (Nat.le_of_ble_eq_true rfl) dX7_complain_8 ⟨⟨by decide, by decide⟩, by decide, by decide⟩ ?_
      refine lv_astoreN (lv' := [(4, .null), (3, .ref (ad 3 ppN)), (0, .ref (ad 0 0)), (1, .int (nI ppN)), (2, .int r)]) C.hx C.hb dX7_complain_11 hl (by decide) rfl (fun ls hl => ?_)
      refine lv_aload_n C.hx C.hb dX7_complain_13 rfl (lv_at hl 1 rfl) ?_
      refine lv_ifnull C.hx C.hb dX7_complain_14 ?_
      refine lv_aloadN C.hx C.hb dX7_complain_17 (lv_at hl 0 rfl) ?_
      refine lv_ifnonnullN C.hx C.hb dX7_complain_19 ?_
      refine lv_iconst (v := (-1)) C.hx C.hb dX7_complain_22 (by decide) ?_
      refine W.widen (k := 3) (n := 619) (by decide) (by decide) ?_
      exact wI C hr dX7_complain_23 hS (by unfold s_X7_complain; simp only [tppN]; rw [if_neg c1, if_pos c3]) (by unfold okC; simp only [tppN]; rw [if_neg c1, if_pos c3]; exact hW)
    · obtain ⟨rN, hrN, rfl⟩ := withinK (n := 8) c3 (by decide)
      have trN : tn (nI rN) = rN := nI_clamp (by omega)
      refine kVR (As := [.int (nI rN)]) (rest := []) (v := .ref (ad 1 rN)) C (cC_X7_ruleAt_yes l G A ad x y z rN (by omega)) lk_X7_64 (g_recv C (hW.1 0 0 rfl).1 rfl) hW rfl rfl hl (Nat.le_of_ble_eq_true rfl) dX7_complain_8 ⟨⟨by decide, by decide⟩, by decide, by decide⟩ ?_
      refine lv_astore (lv' := [(4, .ref (ad 1 rN)), (3, .ref (ad 3 ppN)), (0, .ref (ad 0 0)), (1, .int (nI ppN)), (2, .int (nI rN))]) C.hx C.hb dX7_complain_11 hl (by decide) rfl (fun ls hl => ?_)
      refine lv_aload_n C.hx C.hb dX7_complain_13 rfl (lv_at hl 1 rfl) ?_
      refine lv_ifnull C.hx C.hb dX7_complain_14 ?_
      refine lv_aload C.hx C.hb dX7_complain_17 (lv_at hl 0 rfl) ?_
      refine lv_ifnonnull (tgt := 24) C.hx C.hb dX7_complain_19 (by decide) ?_
      refine lv_aload_n C.hx C.hb dX7_complain_24 rfl (lv_at hl 1 rfl) ?_
      refine lv_iload_n C.hx C.hb dX7_complain_25 rfl (lv_at hl 4 rfl) ?_
      refine kVNR (As := [.int (nI rN)]) (rest := []) (v := opt (ad 4) (i_X5_caseUnder y ppN rN)) C (cC_X5_caseUnder l G A ad x y z hI hL ppN rN (by omega) (by omega)) lk_X7_100 (g_recv C (hW.1 3 ppN (show ppN < y 20 0 by omega)).1 rfl) hW rfl rfl hl (Nat.le_of_ble_eq_true rfl) dX7_complain_26 ⟨⟨by decide, by decide⟩, by decide, by decide⟩ ?_
      by_cases c4 : (i_X5_caseUnder y ppN rN) = 0
      · rw [opt_null c4]
        refine lv_astoreN (lv' := [(5, .null), (4, .ref (ad 1 rN)), (3, .ref (ad 3 ppN)), (0, .ref (ad 0 0)), (1, .int (nI ppN)), (2, .int (nI rN))]) C.hx C.hb dX7_complain_29 hl (by decide) rfl (fun ls hl => ?_)
        refine lv_aloadN C.hx C.hb dX7_complain_31 (lv_at hl 0 rfl) ?_
        refine lv_ifnullN (tgt := 53) C.hx C.hb dX7_complain_33 (by decide) ?_
        refine lv_aload_n C.hx C.hb dX7_complain_53 rfl (lv_at hl 3 rfl) ?_
        refine g_get (k := 3) (v := .ref (ad 7 1)) C (hW.1 0 0 rfl).1 rfl wu_X7 (by decide) wf_X7_28 rfl rfl dX7_complain_54 ?_
        refine kVR (As := []) (rest := []) (v := .int (nI (y 20 1))) C (cJ_size l G (ad 7 1) _ (y 20 1) _) lk_X7_83 (g_recv C (hW.1 7 1 (show 1 < 3 by decide)).1 rfl) (hW.1 7 1 (show 1 < 3 by decide)).1 rfl rfl hl (Nat.le_of_ble_eq_true rfl) dX7_complain_57 ⟨⟨by decide, by decide⟩, by decide, by decide⟩ ?_
        refine lv_istore (lv' := [(6, .int (nI (y 20 1))), (5, .null), (4, .ref (ad 1 rN)), (3, .ref (ad 3 ppN)), (0, .ref (ad 0 0)), (1, .int (nI ppN)), (2, .int (nI rN))]) C.hx C.hb dX7_complain_60 hl (by decide) rfl (fun ls hl => ?_)
        refine lv_iload C.hx C.hb dX7_complain_62 (lv_at hl 0 rfl) ?_
        refine lv_sipush (v := 400) C.hx C.hb dX7_complain_64 (by decide) ?_
        refine lv_icmp_lt (tgt := 73) C.hx C.hb dX7_complain_67 (by decide) (fun c5 => ?_) (fun c5 => ?_)
        · have gc5 := lt_i (b := 400) rfl rfl (by omega) (by decide) c5
          refine g_new (ci := 1) tyX0 (fs := [.int 0, .null, .null, .int 0, .null, .null, .int 0, .int 0, .int 0, .int 0, .int 0, .null]) C hS rfl wu_X0 tyX0_ok wl_X7_105 wi_X0 wz_X0 (fun j hj => by match j, hj with | 0, _ => rfl | 1, _ => rfl | 2, _ => rfl | 3, _ => rfl | 4, _ => rfl | 5, _ => rfl | 6, _ => rfl | 7, _ => rfl | 8, _ => rfl | 9, _ => rfl | 10, _ => rfl | 11, _ => rfl) (by decide) (by decide) dX7_complain_73 (fun H hN o1 z1 hS => ?_)
          have hW : CWd G A ad x y z H := hW.kp (fun k i hl => o1 _ (hlt k i hl)) (o1 _ hW0.l6) (o1 _ hW0.l8)
          have hR := (hW.1 1 rN hrN).1
          refine lv_dup C.hx C.hb dX7_complain_76 rfl ?_
          refine lv_iload C.hx C.hb dX7_complain_77 (lv_at hl 0 rfl) ?_
          refine lv_aload_n C.hx C.hb dX7_complain_79 rfl (lv_at hl 3 rfl) ?_
          refine lv_aload C.hx C.hb dX7_complain_80 (lv_at hl 2 rfl) ?_
          refine lv_aload_n C.hx C.hb dX7_complain_82 rfl (lv_at hl 4 rfl) ?_
          refine g_get (k := 7) (v := .int (x 0 0)) C (hW.1 0 0 rfl).1 rfl wu_X7 (by decide) wf_X7_45 rfl rfl dX7_complain_83 ?_
          have gr := hlt 1 rN hrN
          refine kINWn (As := [.int (nI (y 20 1)), .ref (ad 3 ppN), .ref (ad 1 rN), .int (x 0 0)]) (rest := [.ref s_.heap.size]) C (cC_X0_init l G s_.heap.size (s_.heap.size + 1) (nI (y 20 1)) (ad 3 ppN) (ad 1 rN) (x 0 0) (x 3 rN) _ _ _ (by omega)) lk_X7_112 ⟨hN, hR, z1⟩ rfl rfl hl (Nat.le_of_ble_eq_true rfl) dX7_complain_86 ⟨⟨by decide, by decide⟩, by decide, by decide⟩ hS (fun q h => hA _ (by omega)) (fun H locs hPq hz2 hk2 hS => ?_)
          obtain ⟨hN, hNh, hz⟩ := id hPq
          rw [z1] at hk2
          have hW : CWd G A ad x y z H := hW.kp (fun k i hl => hk2 _ (by have := hlt k i hl; omega) (by have := hlt k i hl; omega)) (hk2 _ (by omega) (by omega)) (hk2 _ (by omega) (by omega))
          refine lv_astore (lv' := [(7, .ref (s_.heap.size)), (6, .int (nI (y 20 1))), (5, .null), (4, .ref (ad 1 rN)), (3, .ref (ad 3 ppN)), (0, .ref (ad 0 0)), (1, .int (nI ppN)), (2, .int (nI rN))]) C.hx C.hb dX7_complain_89 hl (by decide) rfl (fun ls hl => ?_)
          refine lv_aload_n C.hx C.hb dX7_complain_91 rfl (lv_at hl 5 rfl) ?_
          refine g_get (k := 3) (v := .ref (ad 7 1)) C (hW.1 0 0 rfl).1 rfl wu_X7 (by decide) wf_X7_28 rfl rfl dX7_complain_92 ?_
          refine lv_aload C.hx C.hb dX7_complain_95 (lv_at hl 0 rfl) ?_
          have hb := bL 1 (by decide)
          have l7 : lv y 7 1 := (by decide : 1 < 3)
          have l8 : y 21 1 ≠ 0 → lv y 8 1 := fun h9 => ⟨by decide, h9⟩
          have hc7 : va_at G.1 vwCl (ad 7 1, lob (x 36 1) (if y 21 1 = 0 then G.2 8 else ad 8 1) (y 20 1)) H := (hW.1 7 1 l7).1
          have hB : 0 < y 21 1 → va_at G.1 vwCl ((if y 21 1 = 0 then G.2 8 else ad 8 1), .inl (G.2 5, qs (y 21 1) (fun j => if j < y 20 1 then some (ad 4 j) else none))) H := fun h9 => by rw [if_neg (by omega)]; exact (hW.1 8 1 (l8 (by omega))).1
          have hE : els G 1 (y 20 1) (fun j => if j < y 20 1 then some (ad 4 j) else none) H := fun j hj => ⟨ad 4 j, _, if_pos hj, (hW.1 4 j hj).1⟩
          have g7 := hlt 7 1 l7
          have hea : (if y 21 1 = 0 then G.2 8 else ad 8 1) ≠ ad 7 1 := by split; exact fun q => hW.2.2.2.2 (by rw [q]; exact (hW.1 7 1 l7).2); exact fun q => absurd (hW.2.1 8 1 7 1 (l8 (by assumption)) l7 q).1 (by decide)
          have hqe0 : s_.heap.size ≠ (if y 21 1 = 0 then G.2 8 else ad 8 1) := by split; exact fun q => absurd hl8 (by omega); exact fun q => absurd (hlt 8 1 (l8 (by assumption))) (by omega)
          refine kVW (As := [.ref s_.heap.size]) (rest := []) (v := .int 1) C (cJ_add l G (ad 7 1) s_.heap.size (if y 21 1 = 0 then G.2 8 else ad 8 1) (y 20 1) (y 21 1) (s_.heap.size + 1 + 1) 1 (x 36 1) (fun j => if j < y 20 1 then some (ad 4 j) else none) okc1 (if h9 : y 21 1 = 0 then Or.inl ⟨h9, if_pos h9, by omega⟩ else Or.inr ⟨by omega, hb.1⟩) hea (by omega) hqe0 (fun j hj => if_neg (by omega)) ⟨by omega, fun _ => by omega⟩ (fun q => hW.2.2.2.1 (by rw [q]; exact (hW.1 7 1 l7).2)) (fun q => hW.2.2.2.2 (by rw [q]; exact (hW.1 7 1 l7).2)) (fun j r hj hr => by rw [if_pos hj] at hr; cases hr; exact fun q => absurd (hW.2.1 4 j 7 1 hj l7 q).1 (by decide))) lk_X7_92 (g_recv C (hW.1 7 1 l7).1 rfl) ⟨hc7, hB, hE, ⟨_, hN⟩, hW.2.2.1, hz⟩ rfl rfl hl (Nat.le_of_ble_eq_true rfl) dX7_complain_97 ⟨⟨by decide, by decide⟩, by decide, by decide⟩ hS (fun r h => h.elim (fun e => by rw [e]; exact (hW.1 7 1 l7).2) (fun h => h.elim (fun e => by rw [e.2, if_neg (by omega)]; exact (hW.1 8 1 (l8 (by omega))).2) (fun e => hA _ (by omega)))) (fun H locs hP hz3 hk3 hS => ?_)
          obtain ⟨ed, cp, e7, e8, hcp, hcp2, hec⟩ := id hP
          have hed : (y 21 1 ≠ 0 ∧ ed = ad 8 1) ∨ s_.heap.size ≤ ed := by rcases hec with ⟨g1, g2, -, -⟩ | ⟨g1, -⟩; exact Or.inl ⟨by omega, by rw [g2, if_neg (by omega)]⟩; exact Or.inr (by omega)
          have hqe : s_.heap.size ≠ ed := by rcases hec with ⟨g1, g2, -, -⟩ | ⟨g1, -⟩; rw [g2]; exact hqe0; omega
          have hk3 : ∀ r : Nat, r < s_.heap.size + 1 + 1 → r ≠ ad 7 1 → (y 21 1 ≠ 0 → r ≠ ad 8 1) → H[r]? = _ := fun r g1 g2 g3 => hk3 r (by rw [hz]; exact g1) (fun h => h.elim g2 (fun h => h.elim (fun e => g3 (by omega) (by rw [e.2, if_neg (by omega)])) (fun e => absurd e (by omega))))
          have n8 : y 21 1 ≠ 0 → s_.heap.size ≠ ad 8 1 := fun h9 => by have := hlt 8 1 (l8 h9); omega
          have hN := hN.kept (hk3 _ (by omega) (by show s_.heap.size ≠ _; omega) n8)
          have hNh := hNh.kept (hk3 _ (by show s_.heap.size + 1 < _; omega) (by show s_.heap.size + 1 ≠ _; omega) (fun h9 => by have := hlt 8 1 (l8 h9); show s_.heap.size + 1 ≠ _; omega))
          have heh : ed ≠ s_.heap.size + 1 := by rcases hec with ⟨g1, g2, -, -⟩ | ⟨g1, -⟩; rw [g2, if_neg (by omega)]; have := hlt 8 1 (l8 (by omega)); omega; omega
          have hW : CWd G A (caA ad (y 20 1) s_.heap.size (s_.heap.size + 1) ed) (caX x (y 20 1) (x 3 rN) (x 0 0)) (caY y cp ppN rN) z H := CWd.addC hW0 hI hA (Nat.le_refl _) hqe hed hN e7 e8 hcp (by omega) (by omega) heh hNh (fun r g1 g2 g3 => (hk3 r (by omega) g2 g3).trans ((hk2 r (by omega) (by omega)).trans (o1 r g1)))
          have ey0 : caY y cp ppN rN 20 0 = y 20 0 := rfl
          have ey1 : caY y cp ppN rN 20 1 = y 20 1 + 1 := rfl
          refine lv_pop C.hx C.hb dX7_complain_100 rfl ?_
          refine lv_aload_n C.hx C.hb dX7_complain_101 rfl (lv_at hl 4 rfl) ?_
          refine lv_aload C.hx C.hb dX7_complain_102 (lv_at hl 0 rfl) ?_
          have eqa : s_.heap.size = caA ad (y 20 1) s_.heap.size (s_.heap.size + 1) ed 4 (y 20 1) := by simp [caA, upY]
          refine W.eq (g2 := F0 m_ 104 ls [.ref ((caA ad (y 20 1) s_.heap.size (s_.heap.size + 1) ed) 4 (y 20 1)), .ref ((caA ad (y 20 1) s_.heap.size (s_.heap.size + 1) ed) 3 ppN)]) (by rw [← eqa]; rfl) ?_
          refine kVNWn (As := [.ref ((caA ad (y 20 1) s_.heap.size (s_.heap.size + 1) ed) 4 (y 20 1))]) (rest := []) C (cC_X5_addCase l G A (caA ad (y 20 1) s_.heap.size (s_.heap.size + 1) ed) (caX x (y 20 1) (x 3 rN) (x 0 0)) (caY y cp ppN rN) z (CI.ca hI (by omega) (by omega) hrN hcp hcp2) ppN (y 20 1) (by omega) (by omega)) lk_X7_115 (g_recv C (hW.1 3 ppN (show ppN < caY y cp ppN rN 20 0 by omega)).1 rfl) hW rfl rfl hl (Nat.le_of_ble_eq_true rfl) dX7_complain_104 ⟨⟨by decide, by decide⟩, by decide, by decide⟩ hS (fun q h => h) (fun H locs hP hz4 hk4 hS => ?_)
          refine lv_iload C.hx C.hb dX7_complain_107 (lv_at hl 1 rfl) ?_
          exact wI C hr dX7_complain_109 hS (by unfold s_X7_complain; simp only [tppN, trN]; rw [if_neg c1, if_neg c3, if_pos c4, if_pos c5]) (by unfold okC; simp only [tppN, trN]; rw [if_neg c1, if_neg c3, if_pos c4, if_pos c5]; exact ⟨caA ad (y 20 1) s_.heap.size (s_.heap.size + 1) ed, cp, rfl, hcp, hcp2, hP⟩)
        · refine lv_bipush (v := (-2)) C.hx C.hb dX7_complain_70 (by decide) ?_
          refine W.widen (k := 3) (n := 619) (by decide) (by decide) ?_
          exact wI C hr dX7_complain_72 hS (by unfold s_X7_complain; simp only [tppN, trN]; rw [if_neg c1, if_neg c3, if_pos c4, if_neg c5]) (by unfold okC; simp only [tppN, trN]; rw [if_neg c1, if_neg c3, if_pos c4, if_neg c5]; exact hW)
      · rw [opt_some c4]
        have nc4 := caseUnder_le y ppN rN
        refine lv_astore (lv' := [(5, .ref (ad 4 ((i_X5_caseUnder y ppN rN) - 1))), (4, .ref (ad 1 rN)), (3, .ref (ad 3 ppN)), (0, .ref (ad 0 0)), (1, .int (nI ppN)), (2, .int (nI rN))]) C.hx C.hb dX7_complain_29 hl (by decide) rfl (fun ls hl => ?_)
        refine lv_aload C.hx C.hb dX7_complain_31 (lv_at hl 0 rfl) ?_
        refine lv_ifnull C.hx C.hb dX7_complain_33 ?_
        refine lv_aload C.hx C.hb dX7_complain_36 (lv_at hl 0 rfl) ?_
        refine lv_dup C.hx C.hb dX7_complain_38 rfl ?_
        refine g_getN (k := 7) (v := .int (x 18 ((i_X5_caseUnder y ppN rN) - 1))) C (hW.1 4 ((i_X5_caseUnder y ppN rN) - 1) (show ((i_X5_caseUnder y ppN rN) - 1) < y 20 1 by omega)).1 rfl wu_X0 (by decide) wn_X7_104 rfl rfl dX7_complain_39 ?_
        refine lv_iconst (v := 1) C.hx C.hb dX7_complain_42 (by decide) ?_
        refine lv_iadd C.hx C.hb dX7_complain_43 ?_
        refine g_putN (k := 7) tyX0 C hS (hW.1 4 ((i_X5_caseUnder y ppN rN) - 1) (show ((i_X5_caseUnder y ppN rN) - 1) < y 20 1 by omega)).1 (hW.1 4 ((i_X5_caseUnder y ppN rN) - 1) (show ((i_X5_caseUnder y ppN rN) - 1) < y 20 1 by omega)).2 rfl wu_X0 tyX0_ok nmX0 (by decide) wn_X7_104 rfl rfl rfl rfl rfl (Nat.le_of_ble_eq_true rfl) dX7_complain_44 (fun H locs e1 o1 z1 hS => ?_)
        have hW : CWd G A ad (up2 x 18 ((i_X5_caseUnder y ppN rN) - 1) ((x 18 ((i_X5_caseUnder y ppN rN) - 1)) + 1)) y z H := hW.put 4 ((i_X5_caseUnder y ppN rN) - 1) (show ((i_X5_caseUnder y ppN rN) - 1) < y 20 1 by omega) (by rw [← ce_18]; exact e1) o1 (fun _ _ q => q) cu_18
        refine lv_aload C.hx C.hb dX7_complain_47 (lv_at hl 0 rfl) ?_
        refine g_getN (k := 0) (v := .int (nI ((i_X5_caseUnder y ppN rN) - 1))) C (hW.1 4 ((i_X5_caseUnder y ppN rN) - 1) (show ((i_X5_caseUnder y ppN rN) - 1) < y 20 1 by omega)).1 rfl wu_X0 (by decide) wn_X7_109 rfl rfl dX7_complain_49 ?_
        refine W.widen (k := 3) (n := 619) (by decide) (by decide) ?_
        exact wI C hr dX7_complain_52 hS (by unfold s_X7_complain; simp only [tppN, trN]; rw [if_neg c1, if_neg c3, if_neg c4]) (by unfold okC; simp only [tppN, trN]; rw [if_neg c1, if_neg c3, if_neg c4]; exact hW)
