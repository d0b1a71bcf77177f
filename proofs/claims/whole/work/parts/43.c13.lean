def s_X7_post (y : YY) (wr re ma : Int32) : Int32 := if (s_X7_within wr 0 39) = 0 then (-1) else if (s_X7_within re 1 1000) = 0 then (-1) else if (s_X7_within ma 0 255) = 0 then (-1) else if (nI (y 20 0)) < 300 then nI (y 20 0) else (-2)
/-- the world behind post -/
def okP (G : GG) (A : Nat → Prop) (ad : YY) (x : XX) (y : YY) (z : Nat → Int64) (wr re ma : Int32) (H : Heap) : Prop := if (s_X7_within wr 0 39) = 0 then CWd G A ad x y z H else if (s_X7_within re 1 1000) = 0 then CWd G A ad x y z H else if (s_X7_within ma 0 255) = 0 then CWd G A ad x y z H else if (nI (y 20 0)) < 300 then ∃ (ad' : YY) (cp : Nat), ad' 0 0 = ad 0 0 ∧ y 20 0 < cp ∧ cp ≤ 600 ∧ CWd G A ad' (poX x (y 20 0) wr re ma (x 0 0)) (poY y cp) z H else CWd G A ad x y z H
theorem lt_i {a b : Nat} {u v : Int32} (hu : u = nI a) (hv : v = nI b) (ha : a < 2 ^ 31) (hb : b < 2 ^ 31) (h : u < v) : a < b := by
  subst hu; subst hv
  have h2 := Int32.lt_iff_toInt_lt.mp h
  rw [nI_toInt ha, nI_toInt hb] at h2
  omega
set_option maxRecDepth 100000 in
set_option maxHeartbeats 1000000 in
theorem cC_X7_post (l : Launch) (G : GG) (A : Nat → Prop) (ad : YY) (x : XX) (y : YY) (z : Nat → Int64) (hI : CI y) (wr re ma : Int32) (sz : Nat) (hA : ∀ r : Nat, sz ≤ r → A r) : MW l G yX7_post cX7_post 5 (some .int) 7 [.ref (ad 0 0), .int wr, .int re, .int ma] (fun H => CWd G A ad x y z H ∧ H.size = sz) (some (.int (s_X7_post y wr re ma))) (okP G A ad x y z wr re ma) A 2 607 := by
  refine MW.of RX7 rfl (by decide) (Nat.le_of_ble_eq_true rfl) ?_
  intro p_ e_ s_ m_ args_ below_ meth_ c_ ls hargs C hr hnm hP hS hl
  have hl : lv_has ls 5 [(0, .ref (ad 0 0)), (1, .int wr), (2, .int re), (3, .int ma)] := hl
  obtain ⟨hW, hsz⟩ := hP
  subst hsz
  have hW0 := hW
  have hlt : ∀ k i, lv y k i → ad k i < s_.heap.size := fun k i hl => (hW0.1 k i hl).1.lt
  obtain ⟨-, -, -, bP, bC, bG, bL⟩ := id hI
  have hl6 : @LT.lt Nat _ (G.2 6) s_.heap.size := hW0.l6
  have hl8 : @LT.lt Nat _ (G.2 8) s_.heap.size := hW0.l8
  refine lv_iload_n C.hx C.hb dX7_post_0 rfl (lv_at hl 1 rfl) ?_
  refine lv_iconst (v := 0) C.hx C.hb dX7_post_1 (by decide) ?_
  refine lv_bipush (v := 39) C.hx C.hb dX7_post_2 (by decide) ?_
  refine kSR (As := [.int wr, .int 0, .int 39]) (rest := []) (v := .int (s_X7_within wr 0 39)) C (cJ_X7_within l G wr 0 39) lk_X7_59 trivial rfl rfl hl (Nat.le_of_ble_eq_true rfl) dX7_post_4 ⟨⟨by decide, by decide⟩, by decide, by decide⟩ ?_
  refine lv_if_eq (tgt := 32) C.hx C.hb dX7_post_7 (by decide) (fun c1 => ?_) (fun c1 => ?_)
  · refine lv_iconst (v := (-1)) C.hx C.hb dX7_post_32 (by decide) ?_
    refine W.widen (k := 2) (n := 607) (by decide) (by decide) ?_
    exact wI C hr dX7_post_33 hS (by unfold s_X7_post; rw [if_pos c1]) (by unfold okP; rw [if_pos c1]; exact hW)
  · refine lv_iload_n C.hx C.hb dX7_post_10 rfl (lv_at hl 2 rfl) ?_
    refine lv_iconst (v := 1) C.hx C.hb dX7_post_11 (by decide) ?_
    refine lv_sipush (v := 1000) C.hx C.hb dX7_post_12 (by decide) ?_
    refine kSR (As := [.int re, .int 1, .int 1000]) (rest := []) (v := .int (s_X7_within re 1 1000)) C (cJ_X7_within l G re 1 1000) lk_X7_59 trivial rfl rfl hl (Nat.le_of_ble_eq_true rfl) dX7_post_15 ⟨⟨by decide, by decide⟩, by decide, by decide⟩ ?_
    refine lv_if_eq (tgt := 32) C.hx C.hb dX7_post_18 (by decide) (fun c2 => ?_) (fun c2 => ?_)
    · refine lv_iconst (v := (-1)) C.hx C.hb dX7_post_32 (by decide) ?_
      refine W.widen (k := 2) (n := 607) (by decide) (by decide) ?_
      exact wI C hr dX7_post_33 hS (by unfold s_X7_post; rw [if_neg c1, if_pos c2]) (by unfold okP; rw [if_neg c1, if_pos c2]; exact hW)
    · refine lv_iload_n C.hx C.hb dX7_post_21 rfl (lv_at hl 3 rfl) ?_
      refine lv_iconst (v := 0) C.hx C.hb dX7_post_22 (by decide) ?_
      refine lv_sipush (v := 255) C.hx C.hb dX7_post_23 (by decide) ?_
      refine kSR (As := [.int ma, .int 0, .int 255]) (rest := []) (v := .int (s_X7_within ma 0 255)) C (cJ_X7_within l G ma 0 255) lk_X7_59 trivial rfl rfl hl (Nat.le_of_ble_eq_true rfl) dX7_post_26 ⟨⟨by decide, by decide⟩, by decide, by decide⟩ ?_
      refine lv_if_ne (tgt := 34) C.hx C.hb dX7_post_29 (by decide) (fun c3 => ?_) (fun c3 => ?_)
      · refine lv_aload_n C.hx C.hb dX7_post_34 rfl (lv_at hl 0 rfl) ?_
        refine g_get (k := 2) (v := .ref (ad 7 0)) C (hW.1 0 0 rfl).1 rfl wu_X7 (by decide) wf_X7_24 rfl rfl dX7_post_35 ?_
        refine kVR (As := []) (rest := []) (v := .int (nI (y 20 0))) C (cJ_size l G (ad 7 0) _ (y 20 0) _) lk_X7_83 (g_recv C (hW.1 7 0 (show 0 < 3 by decide)).1 rfl) (hW.1 7 0 (show 0 < 3 by decide)).1 rfl rfl hl (Nat.le_of_ble_eq_true rfl) dX7_post_38 ⟨⟨by decide, by decide⟩, by decide, by decide⟩ ?_
        refine lv_istore (lv' := [(4, .int (nI (y 20 0))), (0, .ref (ad 0 0)), (1, .int wr), (2, .int re), (3, .int ma)]) C.hx C.hb dX7_post_41 hl (by decide) rfl (fun ls hl => ?_)
        refine lv_iload C.hx C.hb dX7_post_43 (lv_at hl 0 rfl) ?_
        refine lv_sipush (v := 300) C.hx C.hb dX7_post_45 (by decide) ?_
        refine lv_icmp_lt (tgt := 54) C.hx C.hb dX7_post_48 (by decide) (fun c4 => ?_) (fun c4 => ?_)
        · have gc4 := lt_i (b := 300) rfl rfl (by omega) (by decide) c4
          refine lv_aload_n C.hx C.hb dX7_post_54 rfl (lv_at hl 1 rfl) ?_
          refine g_get (k := 2) (v := .ref (ad 7 0)) C (hW.1 0 0 rfl).1 rfl wu_X7 (by decide) wf_X7_24 rfl rfl dX7_post_55 ?_
          refine g_new (ci := 6) tyX5 (fs := [.int 0, .int 0, .int 0, .int 0, .int 0, .null, .null]) C hS rfl wu_X5 tyX5_ok wl_X7_87 wi_X5 wz_X5 (fun j hj => by match j, hj with | 0, _ => rfl | 1, _ => rfl | 2, _ => rfl | 3, _ => rfl | 4, _ => rfl | 5, _ => rfl | 6, _ => rfl) (by decide) (by decide) dX7_post_58 (fun H hN o1 z1 hS => ?_)
          have hW : CWd G A ad x y z H := hW.kp (fun k i hl => o1 _ (hlt k i hl)) (o1 _ hW0.l6) (o1 _ hW0.l8)
          refine lv_dup C.hx C.hb dX7_post_61 rfl ?_
          refine lv_iload C.hx C.hb dX7_post_62 (lv_at hl 0 rfl) ?_
          refine lv_iload_n C.hx C.hb dX7_post_64 rfl (lv_at hl 2 rfl) ?_
          refine lv_iload_n C.hx C.hb dX7_post_65 rfl (lv_at hl 3 rfl) ?_
          refine lv_iload_n C.hx C.hb dX7_post_66 rfl (lv_at hl 4 rfl) ?_
          refine lv_aload_n C.hx C.hb dX7_post_67 rfl (lv_at hl 1 rfl) ?_
          refine g_get (k := 7) (v := .int (x 0 0)) C (hW.1 0 0 rfl).1 rfl wu_X7 (by decide) wf_X7_45 rfl rfl dX7_post_68 ?_
          refine kINWn (As := [.int (nI (y 20 0)), .int wr, .int re, .int ma, .int (x 0 0)]) (rest := [.ref s_.heap.size, .ref (ad 7 0)]) C (cC_X5_init l G s_.heap.size (s_.heap.size + 1) (nI (y 20 0)) wr re ma (x 0 0)) lk_X7_89 ⟨hN, z1⟩ rfl rfl hl (Nat.le_of_ble_eq_true rfl) dX7_post_71 ⟨⟨by decide, by decide⟩, by decide, by decide⟩ hS (fun q h => by rw [h]; exact hA _ (Nat.le_refl _)) (fun H locs hPq hz2 hk2 hS => ?_)
          obtain ⟨hN, hz⟩ := id hPq
          rw [z1] at hk2
          have hW : CWd G A ad x y z H := hW.kp (fun k i hl => hk2 _ (by have := hlt k i hl; omega) (by have := hlt k i hl; omega)) (hk2 _ (by omega) (by omega)) (hk2 _ (by omega) (by omega))
          have hb := bL 0 (by decide)
          have l7 : lv y 7 0 := (by decide : 0 < 3)
          have l8 : y 21 0 ≠ 0 → lv y 8 0 := fun h9 => ⟨by decide, h9⟩
          have hc7 : va_at G.1 vwCl (ad 7 0, lob (x 36 0) (if y 21 0 = 0 then G.2 8 else ad 8 0) (y 20 0)) H := (hW.1 7 0 l7).1
          have hB : 0 < y 21 0 → va_at G.1 vwCl ((if y 21 0 = 0 then G.2 8 else ad 8 0), .inl (G.2 5, qs (y 21 0) (fun j => if j < y 20 0 then some (ad 3 j) else none))) H := fun h9 => by rw [if_neg (by omega)]; exact (hW.1 8 0 (l8 (by omega))).1
          have hE : els G 6 (y 20 0) (fun j => if j < y 20 0 then some (ad 3 j) else none) H := fun j hj => ⟨ad 3 j, _, if_pos hj, (hW.1 3 j hj).1⟩
          have g7 := hlt 7 0 l7
          have hea : (if y 21 0 = 0 then G.2 8 else ad 8 0) ≠ ad 7 0 := by split; exact fun q => hW.2.2.2.2 (by rw [q]; exact (hW.1 7 0 l7).2); exact fun q => absurd (hW.2.1 8 0 7 0 (l8 (by assumption)) l7 q).1 (by decide)
          have hqe0 : s_.heap.size ≠ (if y 21 0 = 0 then G.2 8 else ad 8 0) := by split; exact fun q => absurd hl8 (by omega); exact fun q => absurd (hlt 8 0 (l8 (by assumption))) (by omega)
          refine kVW (As := [.ref s_.heap.size]) (rest := []) (v := .int 1) C (cJ_add l G (ad 7 0) s_.heap.size (if y 21 0 = 0 then G.2 8 else ad 8 0) (y 20 0) (y 21 0) (s_.heap.size + 1) 6 (x 36 0) (fun j => if j < y 20 0 then some (ad 3 j) else none) okc6 (if h9 : y 21 0 = 0 then Or.inl ⟨h9, if_pos h9, by omega⟩ else Or.inr ⟨by omega, hb.1⟩) hea (by omega) hqe0 (fun j hj => if_neg (by omega)) ⟨by omega, fun _ => by omega⟩ (fun q => hW.2.2.2.1 (by rw [q]; exact (hW.1 7 0 l7).2)) (fun q => hW.2.2.2.2 (by rw [q]; exact (hW.1 7 0 l7).2)) (fun j r hj hr => by rw [if_pos hj] at hr; cases hr; exact fun q => absurd (hW.2.1 3 j 7 0 hj l7 q).1 (by decide))) lk_X7_92 (g_recv C (hW.1 7 0 l7).1 rfl) ⟨hc7, hB, hE, ⟨_, hN⟩, hW.2.2.1, hz⟩ rfl rfl hl (Nat.le_of_ble_eq_true rfl) dX7_post_74 ⟨⟨by decide, by decide⟩, by decide, by decide⟩ hS (fun r h => h.elim (fun e => by rw [e]; exact (hW.1 7 0 l7).2) (fun h => h.elim (fun e => by rw [e.2, if_neg (by omega)]; exact (hW.1 8 0 (l8 (by omega))).2) (fun e => hA _ (by omega)))) (fun H locs hP hz3 hk3 hS => ?_)
          obtain ⟨ed, cp, e7, e8, hcp, hcp2, hec⟩ := id hP
          have hed : (y 21 0 ≠ 0 ∧ ed = ad 8 0) ∨ s_.heap.size ≤ ed := by rcases hec with ⟨g1, g2, -, -⟩ | ⟨g1, -⟩; exact Or.inl ⟨by omega, by rw [g2, if_neg (by omega)]⟩; exact Or.inr (by omega)
          have hqe : s_.heap.size ≠ ed := by rcases hec with ⟨g1, g2, -, -⟩ | ⟨g1, -⟩; rw [g2]; exact hqe0; omega
          have hk3 : ∀ r : Nat, r < s_.heap.size + 1 → r ≠ ad 7 0 → (y 21 0 ≠ 0 → r ≠ ad 8 0) → H[r]? = _ := fun r g1 g2 g3 => hk3 r (by rw [hz]; exact g1) (fun h => h.elim g2 (fun h => h.elim (fun e => g3 (by omega) (by rw [e.2, if_neg (by omega)])) (fun e => absurd e (by omega))))
          have n8 : y 21 0 ≠ 0 → s_.heap.size ≠ ad 8 0 := fun h9 => by have := hlt 8 0 (l8 h9); omega
          have hN := hN.kept (hk3 _ (by omega) (by show s_.heap.size ≠ _; omega) n8)
          have hW : CWd G A (poA ad (y 20 0) s_.heap.size ed) (poX x (y 20 0) wr re ma (x 0 0)) (poY y cp) z H := CWd.addP hW0 hI hA (Nat.le_refl _) hqe hed hN e7 e8 hcp (fun r g1 g2 g3 => (hk3 r (by omega) g2 g3).trans ((hk2 r (by omega) (by omega)).trans (o1 r g1)))
          refine lv_pop C.hx C.hb dX7_post_77 rfl ?_
          refine lv_iload C.hx C.hb dX7_post_78 (lv_at hl 0 rfl) ?_
          exact wI C hr dX7_post_80 hS (by unfold s_X7_post; rw [if_neg c1, if_neg c2, if_neg c3, if_pos c4]) (by unfold okP; rw [if_neg c1, if_neg c2, if_neg c3, if_pos c4]; exact ⟨poA ad (y 20 0) s_.heap.size ed, cp, rfl, hcp, hcp2, hW⟩)
        · refine lv_bipush (v := (-2)) C.hx C.hb dX7_post_51 (by decide) ?_
          refine W.widen (k := 2) (n := 607) (by decide) (by decide) ?_
          exact wI C hr dX7_post_53 hS (by unfold s_X7_post; rw [if_neg c1, if_neg c2, if_neg c3, if_neg c4]) (by unfold okP; rw [if_neg c1, if_neg c2, if_neg c3, if_neg c4]; exact hW)
      · refine lv_iconst (v := (-1)) C.hx C.hb dX7_post_32 (by decide) ?_
        refine W.widen (k := 2) (n := 607) (by decide) (by decide) ?_
        exact wI C hr dX7_post_33 hS (by unfold s_X7_post; rw [if_neg c1, if_neg c2, if_pos c3]) (by unfold okP; rw [if_neg c1, if_neg c2, if_pos c3]; exact hW)
def s_X7_give (x : XX) (y : YY) (z : Nat → Int64) (j : Int32) : Int32 := if s_X7_within j 0 19 = 0 then (-1) else if (i_X7_nextFor x y z (tn j)) = 0 then (-4) else nI ((i_X7_nextFor x y z (tn j)) - 1)
def gvX (x : XX) (j c : Nat) : XX := (up2 (up2 (up2 x 36 2 ((x 36 2) + 1)) 10 j ((x 10 j) + 1)) 21 c ((x 21 c) ||| ((1 : Int32) <<< (nI j &&& 31))))
def okG (G : GG) (A : Nat → Prop) (ad : YY) (x : XX) (y : YY) (z : Nat → Int64) (j : Int32) (H : Heap) : Prop := if s_X7_within j 0 19 = 0 then CWd G A ad x y z H else if (i_X7_nextFor x y z (tn j)) = 0 then CWd G A ad x y z H else ∃ (ad' : YY) (cp : Nat), ad' 0 0 = ad 0 0 ∧ y 20 2 < cp ∧ cp ≤ 600 ∧ CWd G A ad' (gvX x (tn j) ((i_X7_nextFor x y z (tn j)) - 1)) (giY y cp (tn j) ((i_X7_nextFor x y z (tn j)) - 1)) z H
set_option maxRecDepth 100000 in
set_option maxHeartbeats 1000000 in
theorem cC_X7_give (l : Launch) (G : GG) (A : Nat → Prop) (ad : YY) (x : XX) (y : YY) (z : Nat → Int64) (hI : CI y) (j : Int32) (sz : Nat) (hA : ∀ r : Nat, sz ≤ r → A r) (hg : ∀ jN, jN < 20 → ¬ (i_X7_nextFor x y z jN) = 0 → y 20 2 < 400) : MW l G yX7_give cX7_give 4 (some .int) 7 [.ref (ad 0 0), .int j] (fun H => CWd G A ad x y z H ∧ H.size = sz) (some (.int (s_X7_give x y z j))) (okG G A ad x y z j) A 2 602 := by
  refine MW.of RX7 rfl (by decide) (Nat.le_of_ble_eq_true rfl) ?_
  intro p_ e_ s_ m_ args_ below_ meth_ c_ ls hargs C hr hnm hP hS hl
  have hl : lv_has ls 4 [(0, .ref (ad 0 0)), (1, .int j)] := hl
  obtain ⟨hW, hsz⟩ := hP
  subst hsz
  have hW0 := hW
  have hlt : ∀ k i, lv y k i → ad k i < s_.heap.size := fun k i hl => (hW0.1 k i hl).1.lt
  obtain ⟨-, -, -, bP, bC, bG, bL⟩ := id hI
  have hl6 : @LT.lt Nat _ (G.2 6) s_.heap.size := hW0.l6
  have hl8 : @LT.lt Nat _ (G.2 8) s_.heap.size := hW0.l8
  refine lv_aload_n C.hx C.hb dX7_give_0 rfl (lv_at hl 0 rfl) ?_
  refine lv_iload_n C.hx C.hb dX7_give_1 rfl (lv_at hl 1 rfl) ?_
  by_cases c1 : s_X7_within j 0 19 = 0
  · refine kVR (As := [.int j]) (rest := []) (v := .null) C (cC_X7_judgeAt_no l G A ad x y z j c1) lk_X7_119 (g_recv C (hW.1 0 0 rfl).1 rfl) hW rfl rfl hl (Nat.le_of_ble_eq_true rfl) dX7_give_2 ⟨⟨by decide, by decide⟩, by decide, by decide⟩ ?_
    refine lv_astore_nN (lv' := [(2, .null), (0, .ref (ad 0 0)), (1, .int j)]) C.hx C.hb dX7_give_5 rfl hl (by decide) rfl (fun ls hl => ?_)
    refine lv_aload_nN C.hx C.hb dX7_give_6 rfl (lv_at hl 0 rfl) ?_
    refine lv_ifnonnullN C.hx C.hb dX7_give_7 ?_
    refine lv_iconst (v := (-1)) C.hx C.hb dX7_give_10 (by decide) ?_
    refine W.widen (k := 2) (n := 602) (by decide) (by decide) ?_
    exact wI C hr dX7_give_11 hS (by unfold s_X7_give; rw [if_pos c1]) (by unfold okG; rw [if_pos c1]; exact hW)
  · obtain ⟨jN, hjN, rfl⟩ := withinK (n := 20) c1 (by decide)
    have tjN : tn (nI jN) = jN := nI_clamp (by omega)
    refine kVR (As := [.int (nI jN)]) (rest := []) (v := .ref (ad 2 jN)) C (cC_X7_judgeAt_yes l G A ad x y z jN (by omega)) lk_X7_119 (g_recv C (hW.1 0 0 rfl).1 rfl) hW rfl rfl hl (Nat.le_of_ble_eq_true rfl) dX7_give_2 ⟨⟨by decide, by decide⟩, by decide, by decide⟩ ?_
    refine lv_astore_n (lv' := [(2, .ref (ad 2 jN)), (0, .ref (ad 0 0)), (1, .int (nI jN))]) C.hx C.hb dX7_give_5 rfl hl (by decide) rfl (fun ls hl => ?_)
    refine lv_aload_n C.hx C.hb dX7_give_6 rfl (lv_at hl 0 rfl) ?_
    refine lv_ifnonnull (tgt := 12) C.hx C.hb dX7_give_7 (by decide) ?_
    refine lv_aload_n C.hx C.hb dX7_give_12 rfl (lv_at hl 1 rfl) ?_
    refine lv_aload_n C.hx C.hb dX7_give_13 rfl (lv_at hl 0 rfl) ?_
    refine kVR (As := [.ref (ad 2 jN)]) (rest := []) (v := opt (ad 4) (i_X7_nextFor x y z jN)) C (cC_X7_nextFor l G A ad x y z hI jN (by omega)) lk_X7_152 (g_recv C (hW.1 0 0 rfl).1 rfl) hW rfl rfl hl (Nat.le_of_ble_eq_true rfl) dX7_give_14 ⟨⟨by decide, by decide⟩, by decide, by decide⟩ ?_
    by_cases c2 : (i_X7_nextFor x y z jN) = 0
    · rw [opt_null c2]
      refine lv_astore_nN (lv' := [(3, .null), (2, .ref (ad 2 jN)), (0, .ref (ad 0 0)), (1, .int (nI jN))]) C.hx C.hb dX7_give_17 rfl hl (by decide) rfl (fun ls hl => ?_)
      refine lv_aload_nN C.hx C.hb dX7_give_18 rfl (lv_at hl 0 rfl) ?_
      refine lv_ifnonnullN C.hx C.hb dX7_give_19 ?_
      refine lv_bipush (v := (-4)) C.hx C.hb dX7_give_22 (by decide) ?_
      refine W.widen (k := 2) (n := 602) (by decide) (by decide) ?_
      exact wI C hr dX7_give_24 hS (by unfold s_X7_give; simp only [tjN]; rw [if_neg c1, if_pos c2]) (by unfold okG; simp only [tjN]; rw [if_neg c1, if_pos c2]; exact hW)
    · rw [opt_some c2]
      have nc2 := nextFor_le x y z jN
      refine lv_astore_n (lv' := [(3, .ref (ad 4 ((i_X7_nextFor x y z jN) - 1))), (2, .ref (ad 2 jN)), (0, .ref (ad 0 0)), (1, .int (nI jN))]) C.hx C.hb dX7_give_17 rfl hl (by decide) rfl (fun ls hl => ?_)
      refine lv_aload_n C.hx C.hb dX7_give_18 rfl (lv_at hl 0 rfl) ?_
      refine lv_ifnonnull (tgt := 25) C.hx C.hb dX7_give_19 (by decide) ?_
      refine lv_aload_n C.hx C.hb dX7_give_25 rfl (lv_at hl 2 rfl) ?_
      refine g_get (k := 4) (v := .ref (ad 7 2)) C (hW.1 0 0 rfl).1 rfl wu_X7 (by decide) wf_X7_31 rfl rfl dX7_give_26 ?_
      have hg4 := hg _ hjN c2
      refine g_new (ci := 2) tyX1 (fs := [.null, .null]) C hS rfl wu_X1 tyX1_ok wl_X7_156 wi_X1 wz_X1 (fun j hj => by match j, hj with | 0, _ => rfl | 1, _ => rfl) (by decide) (by decide) dX7_give_29 (fun H hN o1 z1 hS => ?_)
      have hW : CWd G A ad x y z H := hW.kp (fun k i hl => o1 _ (hlt k i hl)) (o1 _ hW0.l6) (o1 _ hW0.l8)
      refine lv_dup C.hx C.hb dX7_give_32 rfl ?_
      refine lv_aload_n C.hx C.hb dX7_give_33 rfl (lv_at hl 1 rfl) ?_
      refine lv_aload_n C.hx C.hb dX7_give_34 rfl (lv_at hl 0 rfl) ?_
      refine kINWn (As := [.ref (ad 2 jN), .ref (ad 4 ((i_X7_nextFor x y z jN) - 1))]) (rest := [.ref s_.heap.size, .ref (ad 7 2)]) C (cC_X1_init l G s_.heap.size (s_.heap.size + 1) (ad 2 jN) (ad 4 ((i_X7_nextFor x y z jN) - 1))) lk_X7_158 ⟨hN, z1⟩ rfl rfl hl (Nat.le_of_ble_eq_true rfl) dX7_give_35 ⟨⟨by decide, by decide⟩, by decide, by decide⟩ hS (fun q h => by rw [h]; exact hA _ (Nat.le_refl _)) (fun H locs hPq hz2 hk2 hS => ?_)
      obtain ⟨hN, hz⟩ := id hPq
      rw [z1] at hk2
      have hW : CWd G A ad x y z H := hW.kp (fun k i hl => hk2 _ (by have := hlt k i hl; omega) (by have := hlt k i hl; omega)) (hk2 _ (by omega) (by omega)) (hk2 _ (by omega) (by omega))
      have hb := bL 2 (by decide)
      have l7 : lv y 7 2 := (by decide : 2 < 3)
      have l8 : y 21 2 ≠ 0 → lv y 8 2 := fun h9 => ⟨by decide, h9⟩
      have hc7 : va_at G.1 vwCl (ad 7 2, lob (x 36 2) (if y 21 2 = 0 then G.2 8 else ad 8 2) (y 20 2)) H := (hW.1 7 2 l7).1
      have hB : 0 < y 21 2 → va_at G.1 vwCl ((if y 21 2 = 0 then G.2 8 else ad 8 2), .inl (G.2 5, qs (y 21 2) (fun j => if j < y 20 2 then some (ad 6 j) else none))) H := fun h9 => by rw [if_neg (by omega)]; exact (hW.1 8 2 (l8 (by omega))).1
      have hE : els G 2 (y 20 2) (fun j => if j < y 20 2 then some (ad 6 j) else none) H := fun j hj => ⟨ad 6 j, _, if_pos hj, (hW.1 6 j hj).1⟩
      have g7 := hlt 7 2 l7
      have hea : (if y 21 2 = 0 then G.2 8 else ad 8 2) ≠ ad 7 2 := by split; exact fun q => hW.2.2.2.2 (by rw [q]; exact (hW.1 7 2 l7).2); exact fun q => absurd (hW.2.1 8 2 7 2 (l8 (by assumption)) l7 q).1 (by decide)
      have hqe0 : s_.heap.size ≠ (if y 21 2 = 0 then G.2 8 else ad 8 2) := by split; exact fun q => absurd hl8 (by omega); exact fun q => absurd (hlt 8 2 (l8 (by assumption))) (by omega)
      refine kVW (As := [.ref s_.heap.size]) (rest := []) (v := .int 1) C (cJ_add l G (ad 7 2) s_.heap.size (if y 21 2 = 0 then G.2 8 else ad 8 2) (y 20 2) (y 21 2) (s_.heap.size + 1) 2 (x 36 2) (fun j => if j < y 20 2 then some (ad 6 j) else none) okc2 (if h9 : y 21 2 = 0 then Or.inl ⟨h9, if_pos h9, by omega⟩ else Or.inr ⟨by omega, hb.1⟩) hea (by omega) hqe0 (fun j hj => if_neg (by omega)) ⟨by omega, fun _ => by omega⟩ (fun q => hW.2.2.2.1 (by rw [q]; exact (hW.1 7 2 l7).2)) (fun q => hW.2.2.2.2 (by rw [q]; exact (hW.1 7 2 l7).2)) (fun j r hj hr => by rw [if_pos hj] at hr; cases hr; exact fun q => absurd (hW.2.1 6 j 7 2 hj l7 q).1 (by decide))) lk_X7_92 (g_recv C (hW.1 7 2 l7).1 rfl) ⟨hc7, hB, hE, ⟨_, hN⟩, hW.2.2.1, hz⟩ rfl rfl hl (Nat.le_of_ble_eq_true rfl) dX7_give_38 ⟨⟨by decide, by decide⟩, by decide, by decide⟩ hS (fun r h => h.elim (fun e => by rw [e]; exact (hW.1 7 2 l7).2) (fun h => h.elim (fun e => by rw [e.2, if_neg (by omega)]; exact (hW.1 8 2 (l8 (by omega))).2) (fun e => hA _ (by omega)))) (fun H locs hP hz3 hk3 hS => ?_)
      obtain ⟨ed, cp, e7, e8, hcp, hcp2, hec⟩ := id hP
      have hed : (y 21 2 ≠ 0 ∧ ed = ad 8 2) ∨ s_.heap.size ≤ ed := by rcases hec with ⟨g1, g2, -, -⟩ | ⟨g1, -⟩; exact Or.inl ⟨by omega, by rw [g2, if_neg (by omega)]⟩; exact Or.inr (by omega)
      have hqe : s_.heap.size ≠ ed := by rcases hec with ⟨g1, g2, -, -⟩ | ⟨g1, -⟩; rw [g2]; exact hqe0; omega
      have hk3 : ∀ r : Nat, r < s_.heap.size + 1 → r ≠ ad 7 2 → (y 21 2 ≠ 0 → r ≠ ad 8 2) → H[r]? = _ := fun r g1 g2 g3 => hk3 r (by rw [hz]; exact g1) (fun h => h.elim g2 (fun h => h.elim (fun e => g3 (by omega) (by rw [e.2, if_neg (by omega)])) (fun e => absurd e (by omega))))
      have n8 : y 21 2 ≠ 0 → s_.heap.size ≠ ad 8 2 := fun h9 => by have := hlt 8 2 (l8 h9); omega
      have hN := hN.kept (hk3 _ (by omega) (by show s_.heap.size ≠ _; omega) n8)
      have hW : CWd G A (giA ad (y 20 2) s_.heap.size ed) (up2 x 36 2 ((x 36 2) + 1)) (giY y cp jN ((i_X7_nextFor x y z jN) - 1)) z H := CWd.addG hW0 hI hA (Nat.le_refl _) hqe hed hN e7 e8 hcp (fun r g1 g2 g3 => (hk3 r (by omega) g2 g3).trans ((hk2 r (by omega) (by omega)).trans (o1 r g1)))
      have yb9 : (giY y cp jN ((i_X7_nextFor x y z jN) - 1)) 20 1 = y 20 1 := rfl
      refine lv_pop C.hx C.hb dX7_give_41 rfl ?_
      refine lv_aload_n C.hx C.hb dX7_give_42 rfl (lv_at hl 1 rfl) ?_
      refine lv_dup C.hx C.hb dX7_give_43 rfl ?_
      refine g_getN (k := 6) (v := .int (x 10 jN)) C (hW.1 2 jN (show jN < 20 by omega)).1 rfl wu_X3 (by decide) wn_X7_161 rfl rfl dX7_give_44 ?_
      refine lv_iconst (v := 1) C.hx C.hb dX7_give_47 (by decide) ?_
      refine lv_iadd C.hx C.hb dX7_give_48 ?_
      refine g_putN (k := 6) tyX3 C hS (hW.1 2 jN (show jN < 20 by omega)).1 (hW.1 2 jN (show jN < 20 by omega)).2 rfl wu_X3 tyX3_ok nmX3 (by decide) wn_X7_161 rfl rfl rfl rfl rfl (Nat.le_of_ble_eq_true rfl) dX7_give_49 (fun H locs e1 o1 z1 hS => ?_)
      have hW : CWd G A (giA ad (y 20 2) s_.heap.size ed) (up2 (up2 x 36 2 ((x 36 2) + 1)) 10 jN ((x 10 jN) + 1)) (giY y cp jN ((i_X7_nextFor x y z jN) - 1)) z H := hW.put 2 jN (show jN < 20 by omega) (by rw [← ce_10]; exact e1) o1 (fun _ _ q => q) cu_10
      refine lv_aload_n C.hx C.hb dX7_give_52 rfl (lv_at hl 0 rfl) ?_
      refine lv_dup C.hx C.hb dX7_give_53 rfl ?_
      refine g_getN (k := 10) (v := .int (x 21 ((i_X7_nextFor x y z jN) - 1))) C (hW.1 4 ((i_X7_nextFor x y z jN) - 1) (show ((i_X7_nextFor x y z jN) - 1) < (giY y cp jN ((i_X7_nextFor x y z jN) - 1)) 20 1 by omega)).1 rfl wu_X0 (by decide) wn_X7_163 rfl rfl dX7_give_54 ?_
      refine lv_aload_n C.hx C.hb dX7_give_57 rfl (lv_at hl 1 rfl) ?_
      refine g_getN (k := 0) (v := .int ((1 : Int32) <<< (nI jN &&& 31))) C (hW.1 2 jN (show jN < 20 by omega)).1 rfl wu_X3 (by decide) wn_X7_166 rfl rfl dX7_give_58 ?_
      refine lv_ior C.hx C.hb dX7_give_61 ?_
      refine g_putN (k := 10) tyX0 C hS (hW.1 4 ((i_X7_nextFor x y z jN) - 1) (show ((i_X7_nextFor x y z jN) - 1) < (giY y cp jN ((i_X7_nextFor x y z jN) - 1)) 20 1 by omega)).1 (hW.1 4 ((i_X7_nextFor x y z jN) - 1) (show ((i_X7_nextFor x y z jN) - 1) < (giY y cp jN ((i_X7_nextFor x y z jN) - 1)) 20 1 by omega)).2 rfl wu_X0 tyX0_ok nmX0 (by decide) wn_X7_163 rfl rfl rfl rfl rfl (Nat.le_of_ble_eq_true rfl) dX7_give_62 (fun H locs e1 o1 z1 hS => ?_)
      have hW : CWd G A (giA ad (y 20 2) s_.heap.size ed) (up2 (up2 (up2 x 36 2 ((x 36 2) + 1)) 10 jN ((x 10 jN) + 1)) 21 ((i_X7_nextFor x y z jN) - 1) ((x 21 ((i_X7_nextFor x y z jN) - 1)) ||| ((1 : Int32) <<< (nI jN &&& 31)))) (giY y cp jN ((i_X7_nextFor x y z jN) - 1)) z H := hW.put 4 ((i_X7_nextFor x y z jN) - 1) (show ((i_X7_nextFor x y z jN) - 1) < (giY y cp jN ((i_X7_nextFor x y z jN) - 1)) 20 1 by omega) (by rw [← ce_21]; exact e1) o1 (fun _ _ q => q) cu_21
      refine lv_aload_n C.hx C.hb dX7_give_65 rfl (lv_at hl 0 rfl) ?_
      refine g_getN (k := 0) (v := .int (nI ((i_X7_nextFor x y z jN) - 1))) C (hW.1 4 ((i_X7_nextFor x y z jN) - 1) (show ((i_X7_nextFor x y z jN) - 1) < (giY y cp jN ((i_X7_nextFor x y z jN) - 1)) 20 1 by omega)).1 rfl wu_X0 (by decide) wn_X7_109 rfl rfl dX7_give_66 ?_
      exact wI C hr dX7_give_69 hS (by unfold s_X7_give; simp only [tjN]; rw [if_neg c1, if_neg c2]) (by unfold okG; simp only [tjN]; rw [if_neg c1, if_neg c2]; exact ⟨giA ad (y 20 2) s_.heap.size ed, cp, rfl, hcp, hcp2, hW⟩)
