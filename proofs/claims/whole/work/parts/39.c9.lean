section CN
variable {G : GG} {A : Nat → Prop} {ad ad' : YY} {x x' : XX} {y y' : YY} {z z' : Nat → Int64} {H H1 : Heap}
/-- a world out of another: each thing was there, at its place, or is new or written -/
theorem CWd.gen (h : CWd G A ad x y z H) (hk : ∀ k i, lv y' k i → (∃ i0, lv y k i0 ∧ ad' k i = ad k i0 ∧ cob G ad' x' y' z' k i = cob G ad x y z k i0 ∧ H1[ad k i0]? = H[ad k i0]?) ∨ (va_at G.1 vwCl (ad' k i, cob G ad' x' y' z' k i) H1 ∧ A (ad' k i))) (hi : ∀ k i k' i', lv y' k i → lv y' k' i' → ad' k i = ad' k' i' → k = k' ∧ i = i') (h6 : H1[G.2 6]? = H[G.2 6]?) (h8 : H1[G.2 8]? = H[G.2 8]?) : CWd G A ad' x' y' z' H1 := by
  refine ⟨fun k i hl => ?_, hi, h.2.2.1.kept h6 h8, h.2.2.2⟩
  rcases hk k i hl with ⟨i0, l0, e1, e2, e3⟩ | h0
  · rw [e1, e2]
    exact ⟨(h.1 k i0 l0).1.kept e3, (h.1 k i0 l0).2⟩
  · exact h0
theorem CWd.l6 (h : CWd G A ad x y z H) : G.2 6 < H.size := by obtain ⟨c, hc, -⟩ := h.2.2.1.1; exact (Array.getElem?_eq_some_iff.mp hc).1
theorem CWd.l8 (h : CWd G A ad x y z H) : G.2 8 < H.size := by obtain ⟨c, hc, -⟩ := h.2.2.1.2; exact (Array.getElem?_eq_some_iff.mp hc).1
/-- gift i is taken out: the ones behind it move up -/
def shf (i k j : Nat) : Nat := if k = 6 then (if j < i then j else j + 1) else j
def tbA (ad : YY) (i : Nat) : YY := fun k j => ad k (shf i k j)
def tbY (y : YY) (i : Nat) : YY := fun k j => if k = 6 then y 6 (shf i 6 j) else if k = 7 then y 7 (shf i 6 j) else if k = 20 then (if j = 2 then y 20 2 - 1 else y 20 j) else y k j
def tbX (x : XX) (y : YY) (i : Nat) : XX := (up2 (up2 (up2 x 36 2 ((x 36 2) + 1)) 10 (y 6 i) ((x 10 (y 6 i)) - 1)) 21 (y 7 i) ((x 21 (y 7 i)) &&& (((1 : Int32) <<< (nI (y 6 i) &&& 31)) ^^^ (-1))))
theorem shf_inj {i k a b : Nat} (h : shf i k a = shf i k b) : a = b := by
  unfold shf at h
  split at h
  · split at h <;> split at h <;> omega
  · exact h
theorem tb_lv {i : Nat} (hi : i < y 20 2) : ∀ k j, lv (tbY y i) k j → lv y k (shf i k j) := fun k j hl => match k, hl with
  | 0, hl => hl
  | 1, hl => hl
  | 2, hl => hl
  | 3, hl => hl
  | 4, hl => hl
  | 5, hl => hl
  | 6, hl => (by have hl : j < y 20 2 - 1 := hl; show shf i 6 j < y 20 2; unfold shf; rw [if_pos rfl]; split <;> omega)
  | 7, hl => hl
  | 8, hl => hl
  | 9, hl => hl
  | 10, hl => hl
  | 11, hl => hl
  | 12, hl => hl
  | _ + 13, hl => hl.elim
theorem CWd.rm (h : CWd G A ad x y z H) (hI : CI y) {i : Nat} (hi : i < y 20 2) (e7 : va_at G.1 vwCl (ad 7 2, lob (x 36 2 + 1) (ad 8 2) (y 20 2 - 1)) H1) (e8 : va_at G.1 vwCl (ad 8 2, .inl (G.2 5, qs (y 21 2) (rmf (fun j => if j < y 20 2 then some (ad 6 j) else none) i (y 20 2)))) H1) (o : ∀ q : Nat, q < H.size → ¬ (q = ad 7 2 ∨ q = ad 8 2) → H1[q]? = H[q]?) : CWd G A (tbA ad i) (up2 x 36 2 ((x 36 2) + 1)) (tbY y i) z H1 := by
  have hb := hI.2.2.2.2.2.2 2 (by decide)
  have l72 : lv y 7 2 := (by decide : 2 < 3)
  have l82 : lv y 8 2 := ⟨by decide, by omega⟩
  have a7 := (h.1 7 2 l72).2
  have a8 := (h.1 8 2 l82).2
  have kp : ∀ k j, lv y k j → ¬ (k = 7 ∧ j = 2) → ¬ (k = 8 ∧ j = 2) → H1[ad k j]? = H[ad k j]? := fun k j hl n1 n2 => o _ (h.1 k j hl).1.lt (fun q => q.elim (fun q => n1 (h.2.1 k j 7 2 hl l72 q)) (fun q => n2 (h.2.1 k j 8 2 hl l82 q)))
  refine CWd.gen h (fun k j hl => ?_) (fun k j k' j' h1 h2 q => ?_) (o _ h.l6 (fun q => q.elim (fun q => h.2.2.2.1 (by rw [q]; exact a7)) (fun q => h.2.2.2.1 (by rw [q]; exact a8)))) (o _ h.l8 (fun q => q.elim (fun q => h.2.2.2.2 (by rw [q]; exact a7)) (fun q => h.2.2.2.2 (by rw [q]; exact a8))))
  · exact match k, j, hl with
    | 0, j, hl => Or.inl ⟨j, hl, rfl, rfl, kp 0 j hl (by omega) (by omega)⟩
    | 1, j, hl => Or.inl ⟨j, hl, rfl, rfl, kp 1 j hl (by omega) (by omega)⟩
    | 2, j, hl => Or.inl ⟨j, hl, rfl, rfl, kp 2 j hl (by omega) (by omega)⟩
    | 3, j, hl => Or.inl ⟨j, hl, rfl, rfl, kp 3 j hl (by omega) (by omega)⟩
    | 4, j, hl => Or.inl ⟨j, hl, rfl, rfl, kp 4 j hl (by omega) (by omega)⟩
    | 5, j, hl => Or.inl ⟨j, hl, rfl, rfl, kp 5 j hl (by omega) (by omega)⟩
    | 6, j, hl => Or.inl ⟨shf i 6 j, tb_lv hi 6 j hl, rfl, rfl, kp 6 _ (tb_lv hi 6 j hl) (by omega) (by omega)⟩
    | 7, 0, hl => Or.inl ⟨0, hl, rfl, rfl, kp 7 0 hl (by omega) (by omega)⟩
    | 7, 1, hl => Or.inl ⟨1, hl, rfl, rfl, kp 7 1 hl (by omega) (by omega)⟩
    | 7, 2, hl => Or.inr ⟨by show va_at _ _ (ad 7 2, lob (x 36 2 + 1) (if y 21 2 = 0 then G.2 8 else ad 8 2) (y 20 2 - 1)) H1; rw [if_neg (by omega)]; exact e7, a7⟩
    | 7, j + 3, hl => absurd (show j + 3 < 3 from hl) (by omega)
    | 8, 0, hl => Or.inl ⟨0, hl, rfl, rfl, kp 8 0 hl (by omega) (by omega)⟩
    | 8, 1, hl => Or.inl ⟨1, hl, rfl, rfl, kp 8 1 hl (by omega) (by omega)⟩
    | 8, 2, hl => Or.inr ⟨by
        have ef : rmf (fun j => if j < y 20 2 then some (ad 6 j) else none) i (y 20 2) = (fun j => if j < y 20 2 - 1 then some (tbA ad i 6 j) else none) := by
          funext j
          unfold rmf tbA shf
          simp only [if_true]
          by_cases q1 : j < i
          · rw [if_pos q1, if_pos (by omega), if_pos (by omega), if_pos q1]
          · rw [if_neg q1, if_neg q1]
            by_cases q2 : j + 1 < y 20 2
            · rw [if_pos q2, if_pos q2, if_pos (by omega)]
            · rw [if_neg q2, if_neg (show ¬ j < y 20 2 - 1 by omega)]
              by_cases q3 : j + 1 = y 20 2
              · rw [if_pos q3]
              · rw [if_neg q3, if_neg (by omega)]
        rw [ef] at e8
        exact e8, a8⟩
    | 8, j + 3, hl => absurd (show j + 3 < 3 from hl.1) (by omega)
    | 9, j, hl => Or.inl ⟨j, hl, rfl, rfl, kp 9 j hl (by omega) (by omega)⟩
    | 10, j, hl => Or.inl ⟨j, hl, rfl, by simp only [cob]; rw [up2_ne (by omega)], kp 10 j hl (by omega) (by omega)⟩
    | 11, j, hl => Or.inl ⟨j, hl, rfl, rfl, kp 11 j hl (by omega) (by omega)⟩
    | 12, j, hl => Or.inl ⟨j, hl, rfl, rfl, kp 12 j hl (by omega) (by omega)⟩
    | _ + 13, j, hl => hl.elim
  · have h3 := h.2.1 k (shf i k j) k' (shf i k' j') (tb_lv hi k j h1) (tb_lv hi k' j' h2) q
    obtain ⟨rfl, h4⟩ := h3
    exact ⟨rfl, shf_inj h4⟩
theorem CWd.els2 (h : CWd G A ad x y z H) (n : Nat) (hn : n = y 20 2) : els G 2 n (fun j => if j < y 20 2 then some (ad 6 j) else none) H := fun j hj => by
  subst hn
  exact ⟨ad 6 j, _, if_pos hj, (h.1 6 j hj).1⟩
end CN
/-- all but the gifts is as it was -/
def YK (y y' : YY) : Prop := (∀ k, k ≠ 6 → k ≠ 7 → k ≠ 20 → y' k = y k) ∧ y' 20 0 = y 20 0 ∧ y' 20 1 = y 20 1
theorem YK.rf (y : YY) : YK y y := ⟨fun _ _ _ _ => rfl, rfl, rfl⟩
theorem YK.tr {a b c : YY} (h : YK a b) (k : YK b c) : YK a c := ⟨fun q h1 h2 h3 => (k.1 q h1 h2 h3).trans (h.1 q h1 h2 h3), k.2.1.trans h.2.1, k.2.2.trans h.2.2⟩
theorem YK.tb (y : YY) (i : Nat) : YK y (tbY y i) := ⟨fun k h1 h2 h3 => by funext j; unfold tbY; rw [if_neg h1, if_neg h2, if_neg h3], rfl, rfl⟩
theorem nxtF_cg {y y' : YY} (h : y' 2 = y 2) (p : Nat) : ∀ f i, nxtF y' p f i = nxtF y p f i
  | 0, _ => rfl
  | f + 1, i => by unfold nxtF; rw [h, nxtF_cg h p f (i + 1)]
theorem CL.yk {y y' : YY} (k : YK y y') (h : CL y) : CL y' := by
  have e : ∀ p i, nxt y' p i = nxt y p i := fun p i => by unfold nxt; rw [k.2.2]; exact nxtF_cg (k.1 2 (by decide) (by decide) (by decide)) p _ i
  refine ⟨fun p hp => ?_, fun c hc => ?_⟩
  · rw [k.2.1] at hp; rw [k.1 0 (by decide) (by decide) (by decide), e]; exact h.1 p hp
  · rw [k.2.2] at hc; rw [k.1 5 (by decide) (by decide) (by decide), k.1 2 (by decide) (by decide) (by decide), e]; exact h.2 c hc
theorem CI.tb {y : YY} (h : CI y) {i : Nat} (hi : i < y 20 2) : CI (tbY y i) := by
  obtain ⟨h1, h2, h3, h4, h5, h6, h7⟩ := h
  refine ⟨h1, h2, fun g hg => ?_, h4, h5, (show y 20 2 - 1 ≤ 400 by omega), fun l hl => ?_⟩
  · have hg : g < y 20 2 - 1 := hg
    refine h3 (shf i 6 g) ?_
    unfold shf
    rw [if_pos rfl]
    split <;> omega
  · have h8 := h7 l hl
    have e : tbY y i 21 l = y 21 l := rfl
    rw [e]
    show (if l = 2 then y 20 2 - 1 else y 20 l) ≤ y 21 l ∧ _
    split
    · rename_i q; subst q; omega
    · exact h8
set_option maxRecDepth 100000 in
set_option maxHeartbeats 1000000 in
theorem cC_X7_takeBack (l : Launch) (G : GG) (A : Nat → Prop) (ad : YY) (x : XX) (y : YY) (z : Nat → Int64) (hI : CI y) (i : Nat) (hi : i < y 20 2) : MW l G yX7_takeBack cX7_takeBack 3 none 4 [.ref (ad 0 0), .int (nI i)] (CWd G A ad x y z) none (CWd G A (tbA ad i) (tbX x y i) (tbY y i) z) A 0 0 := by
  refine MW.of RX7 rfl (by decide) (Nat.le_of_ble_eq_true rfl) ?_
  intro p_ e_ s_ m_ args_ below_ meth_ c_ ls hargs C hr hnm hW hS hl
  have hl : lv_has ls 3 [(0, .ref (ad 0 0)), (1, .int (nI i))] := hl
  obtain ⟨-, -, -, bP, bC, bG, bL⟩ := id hI
  refine lv_iload_n C.hx C.hb dX7_takeBack_0 rfl (lv_at hl 1 rfl) ?_
  refine lv_iconst (v := 0) C.hx C.hb dX7_takeBack_1 (by decide) ?_
  refine lv_aload_n C.hx C.hb dX7_takeBack_2 rfl (lv_at hl 0 rfl) ?_
  refine g_get (k := 4) (v := .ref (ad 7 2)) C (hW.1 0 0 rfl).1 rfl wu_X7 (by decide) wf_X7_31 rfl rfl dX7_takeBack_3 ?_
  refine kVR (As := []) (rest := [.int 0, .int (nI i)]) (v := .int (nI (y 20 2))) C (cJ_size l G (ad 7 2) _ (y 20 2) _) lk_X7_83 (g_recv C (hW.1 7 2 (show 2 < 3 by decide)).1 rfl) (hW.1 7 2 (show 2 < 3 by decide)).1 rfl rfl hl (Nat.le_of_ble_eq_true rfl) dX7_takeBack_6 ⟨⟨by decide, by decide⟩, by decide, by decide⟩ ?_
  refine lv_iconst (v := 1) C.hx C.hb dX7_takeBack_9 (by decide) ?_
  refine lv_isub C.hx C.hb dX7_takeBack_10 ?_
  refine kSR (As := [.int (nI i), .int 0, .int ((nI (y 20 2)) - 1)]) (rest := []) (v := .int (s_X7_within (nI i) 0 ((nI (y 20 2)) - 1))) C (cJ_X7_within l G (nI i) 0 ((nI (y 20 2)) - 1)) lk_X7_59 trivial rfl rfl hl (Nat.le_of_ble_eq_true rfl) dX7_takeBack_11 ⟨⟨by decide, by decide⟩, by decide, by decide⟩ ?_
  refine lv_if_ne (tgt := 18) C.hx C.hb dX7_takeBack_14 (by decide) (fun c1 => ?_) (fun c1 => ?_)
  · refine lv_aload_n C.hx C.hb dX7_takeBack_18 rfl (lv_at hl 0 rfl) ?_
    refine g_get (k := 4) (v := .ref (ad 7 2)) C (hW.1 0 0 rfl).1 rfl wu_X7 (by decide) wf_X7_31 rfl rfl dX7_takeBack_19 ?_
    refine lv_iload_n C.hx C.hb dX7_takeBack_22 rfl (lv_at hl 1 rfl) ?_
    have hls := CWd.ls hW hI 2 (by decide) (by omega)
    have hb := bL 2 (by decide)
    have hge := (hW.1 6 i hi).1
    have hgi := hI.2.2.1 i hi
    have l72 : lv y 7 2 := (by decide : 2 < 3)
    have l82 : lv y 8 2 := ⟨by decide, by omega⟩
    have hn2 : ad 6 i ≠ ad 2 (y 6 i) := fun q => absurd (hW.2.1 6 i 2 (y 6 i) hi hgi.1 q).1 (by decide)
    have hn7 : ad 6 i ≠ ad 7 2 := fun q => absurd (hW.2.1 6 i 7 2 hi l72 q).1 (by decide)
    have hn8 : ad 6 i ≠ ad 8 2 := fun q => absurd (hW.2.1 6 i 8 2 hi l82 q).1 (by decide)
    have hn87 : ad 8 2 ≠ ad 7 2 := fun q => absurd (hW.2.1 8 2 7 2 l82 l72 q).1 (by decide)
    refine kVW (As := [.int (nI i)]) (rest := []) (v := .ref (ad 6 i)) C (cJ_remove l G (ad 7 2) (ad 8 2) (y 20 2) (y 21 2) (x 36 2) (fun j => if j < y 20 2 then some (ad 6 j) else none) i (ad 6 i) (if_pos hi) hi hb.1 (by omega) hn87 (fun j q hj hq => by rw [if_pos hj] at hq; cases hq; exact fun q => absurd (hW.2.1 6 j 7 2 hj l72 q).1 (by decide))) lk_X7_339 (g_recv C hls.1 rfl) ⟨hls.1, hls.2, CWd.els2 hW _ rfl⟩ rfl rfl hl (Nat.le_of_ble_eq_true rfl) dX7_takeBack_23 ⟨⟨by decide, by decide⟩, by decide, by decide⟩ hS (fun q h => h.elim (fun e => by rw [e]; exact (hW.1 7 2 l72).2) (fun e => by rw [e]; exact (hW.1 8 2 l82).2)) (fun H locs hP hz1 hk1 hS => ?_)
    have hg := hge.kept (hk1 _ hge.lt (fun q => q.elim hn7 hn8))
    have hW : CWd G A (tbA ad i) (up2 x 36 2 ((x 36 2) + 1)) (tbY y i) z H := CWd.rm hW hI hi hP.1 hP.2 hk1
    refine va_castS C.hx C.hb C.hown (C.hT _ wl_X7_156) (C.hK.1.1 2 _ rfl).2 (g_recv C hg rfl) dX7_takeBack_26 ?_
    refine lv_astore_n (lv' := [(2, .ref (ad 6 i)), (0, .ref (ad 0 0)), (1, .int (nI i))]) C.hx C.hb dX7_takeBack_29 rfl hl (by decide) rfl (fun ls hl => ?_)
    refine lv_aload_n C.hx C.hb dX7_takeBack_30 rfl (lv_at hl 0 rfl) ?_
    refine g_getN (k := 0) (v := .ref (ad 2 (y 6 i))) C hg rfl wu_X1 (by decide) wn_X7_335 rfl rfl dX7_takeBack_31 ?_
    refine lv_dup C.hx C.hb dX7_takeBack_34 rfl ?_
    refine g_getN (k := 6) (v := .int (x 10 (y 6 i))) C (hW.1 2 (y 6 i) hgi.1).1 rfl wu_X3 (by decide) wn_X7_161 rfl rfl dX7_takeBack_35 ?_
    refine lv_iconst (v := 1) C.hx C.hb dX7_takeBack_38 (by decide) ?_
    refine lv_isub C.hx C.hb dX7_takeBack_39 ?_
    refine g_putN (k := 6) tyX3 C hS (hW.1 2 (y 6 i) hgi.1).1 (hW.1 2 (y 6 i) hgi.1).2 rfl wu_X3 tyX3_ok nmX3 (by decide) wn_X7_161 rfl rfl rfl rfl rfl (Nat.le_of_ble_eq_true rfl) dX7_takeBack_40 (fun H locs e1 o1 z1 hS => ?_)
    have hW : CWd G A (tbA ad i) (up2 (up2 x 36 2 ((x 36 2) + 1)) 10 (y 6 i) ((x 10 (y 6 i)) - 1)) (tbY y i) z H := hW.put 2 (y 6 i) hgi.1 (by rw [← ce_10]; exact e1) o1 (fun _ _ q => q) cu_10
    have hg := hg.kept (o1 _ hn2)
    refine lv_aload_n C.hx C.hb dX7_takeBack_43 rfl (lv_at hl 0 rfl) ?_
    refine g_getN (k := 1) (v := .ref (ad 4 (y 7 i))) C hg rfl wu_X1 (by decide) wn_X7_173 rfl rfl dX7_takeBack_44 ?_
    refine lv_dup C.hx C.hb dX7_takeBack_47 rfl ?_
    refine g_getN (k := 10) (v := .int (x 21 (y 7 i))) C (hW.1 4 (y 7 i) hgi.2).1 rfl wu_X0 (by decide) wn_X7_163 rfl rfl dX7_takeBack_48 ?_
    refine lv_aload_n C.hx C.hb dX7_takeBack_51 rfl (lv_at hl 0 rfl) ?_
    refine g_getN (k := 0) (v := .ref (ad 2 (y 6 i))) C hg rfl wu_X1 (by decide) wn_X7_335 rfl rfl dX7_takeBack_52 ?_
    refine g_getN (k := 0) (v := .int ((1 : Int32) <<< (nI (y 6 i) &&& 31))) C (hW.1 2 (y 6 i) hgi.1).1 rfl wu_X3 (by decide) wn_X7_166 rfl rfl dX7_takeBack_55 ?_
    refine lv_iconst (v := (-1)) C.hx C.hb dX7_takeBack_58 (by decide) ?_
    refine lv_ixor C.hx C.hb dX7_takeBack_59 ?_
    refine lv_iand C.hx C.hb dX7_takeBack_60 ?_
    refine g_putN (k := 10) tyX0 C hS (hW.1 4 (y 7 i) hgi.2).1 (hW.1 4 (y 7 i) hgi.2).2 rfl wu_X0 tyX0_ok nmX0 (by decide) wn_X7_163 rfl rfl rfl rfl rfl (Nat.le_of_ble_eq_true rfl) dX7_takeBack_61 (fun H locs e1 o1 z1 hS => ?_)
    have hW : CWd G A (tbA ad i) (up2 (up2 (up2 x 36 2 ((x 36 2) + 1)) 10 (y 6 i) ((x 10 (y 6 i)) - 1)) 21 (y 7 i) ((x 21 (y 7 i)) &&& (((1 : Int32) <<< (nI (y 6 i) &&& 31)) ^^^ (-1)))) (tbY y i) z H := hW.put 4 (y 7 i) hgi.2 (by rw [← ce_21]; exact e1) o1 (fun _ _ q => q) cu_21
    exact wV C hr dX7_takeBack_64 hS hW
  · exact absurd c1 (within_in (n := y 20 2) (nIm1 (by omega)) hi (by omega))
