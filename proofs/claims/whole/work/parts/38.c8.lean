/-- a post's cases, up to the one that is asked for (number + 1; 0: all of them): the ladder climbs -/
def clI (y : YY) (p lst : Nat) : Nat → XX × Bool → XX × Bool := fun c s => if s.2 = true then s else if y 2 c = p then (if s_X0_bringsStrike s.1 y c = 0 then s.1 else sx_X4_climb s.1 (s.1 15 p) (s.1 0 0), decide (c + 1 = lst)) else s
def clP (y : YY) (au : Int32) (lst : Nat) : Nat → XX × Bool → XX × Bool := fun p s => if s.2 = true then s else if s.1 12 p = au then itrG (clI y p lst) s (y 20 1) else s
def clS (x : XX) (y : YY) (au : Int32) (lst : Nat) : Nat → XX × Bool := itrG (clP y au lst) (sx_X4_restart x, false)
def sx_clL (x : XX) (y : YY) (au : Int32) (lst : Nat) : XX := (clS x y au lst (y 20 0)).1
theorem itrG_stay {α : Type} {f : Nat → α → α} {a : α} {i : Nat} : ∀ {n : Nat}, i ≤ n → (∀ b, i ≤ b → b < n → f b (itrG f a i) = itrG f a i) → itrG f a n = itrG f a i
  | 0, h, _ => by rw [show i = 0 by omega]
  | n + 1, h, k => by
    rcases Nat.eq_or_lt_of_le h with q | q
    · rw [q]
    · show f n (itrG f a n) = _
      rw [itrG_stay (n := n) (by omega) (fun b g1 g2 => k b g1 (by omega))]
      exact k n (by omega) (by omega)
theorem clI_skip {y : YY} {p lst i : Nat} {a : XX × Bool} {n : Nat} (h : i ≤ n) (k : ∀ b, i ≤ b → b < n → y 2 b ≠ p) : itrG (clI y p lst) a n = itrG (clI y p lst) a i :=
  itrG_stay h (fun b g1 g2 => by unfold clI; split; rfl; rw [if_neg (k b g1 g2)])
theorem clI_stop {y : YY} {p lst i : Nat} {a : XX × Bool} {n : Nat} (h : i ≤ n) (k : (itrG (clI y p lst) a i).2 = true) : itrG (clI y p lst) a n = itrG (clI y p lst) a i :=
  itrG_stay h (fun b g1 g2 => by generalize itrG (clI y p lst) a i = q at k ⊢; unfold clI; rw [if_pos k])
theorem clP_stop {y : YY} {au : Int32} {lst i : Nat} {a : XX × Bool} {n : Nat} (h : i ≤ n) (k : (itrG (clP y au lst) a i).2 = true) : itrG (clP y au lst) a n = itrG (clP y au lst) a i :=
  itrG_stay h (fun b g1 g2 => by generalize itrG (clP y au lst) a i = q at k ⊢; unfold clP; rw [if_pos k])
theorem clP_in {x : XX} {y : YY} {au : Int32} {lst p : Nat} {x1 : XX} (e : clS x y au lst p = (x1, false)) (h : x1 12 p = au) : clS x y au lst (p + 1) = itrG (clI y p lst) (x1, false) (y 20 1) := by
  show clP y au lst p (clS x y au lst p) = _
  rw [e]; unfold clP; rw [if_neg (by simp), if_pos h]
theorem clP_out {x : XX} {y : YY} {au : Int32} {lst p : Nat} {x1 : XX} (e : clS x y au lst p = (x1, false)) (h : ¬ x1 12 p = au) : clS x y au lst (p + 1) = (x1, false) := by
  show clP y au lst p (clS x y au lst p) = _
  rw [e]; unfold clP; rw [if_neg (by simp), if_neg h]
theorem clI_in {y : YY} {p lst c i : Nat} {a : XX × Bool} {x2 : XX} (h : i ≤ c) (k : ∀ b, i ≤ b → b < c → y 2 b ≠ p) (e : itrG (clI y p lst) a i = (x2, false)) (hc : y 2 c = p) : itrG (clI y p lst) a (c + 1) = (if s_X0_bringsStrike x2 y c = 0 then x2 else sx_X4_climb x2 (x2 15 p) (x2 0 0), decide (c + 1 = lst)) := by
  show clI y p lst c (itrG (clI y p lst) a c) = _
  rw [clI_skip h k, e]; unfold clI; rw [if_neg (by simp), if_pos hc]
theorem cl_end {x : XX} {y : YY} {au : Int32} {lst p c : Nat} {x1 x3 : XX} (hp : p < y 20 0) (hcl : c < y 20 1) (e : clS x y au lst p = (x1, false)) (h : x1 12 p = au) (k : itrG (clI y p lst) (x1, false) (c + 1) = (x3, true)) : sx_clL x y au lst = x3 := by
  have h1 := clP_in e h
  rw [clI_stop (i := c + 1) (by omega) (by rw [k]), k] at h1
  unfold sx_clL clS
  rw [clP_stop (i := p + 1) (by omega) (by show (clS x y au lst (p + 1)).2 = true; rw [h1])]
  show (clS x y au lst (p + 1)).1 = x3
  rw [h1]
set_option maxRecDepth 100000 in
set_option maxHeartbeats 1000000 in
theorem cC_X7_climbN (l : Launch) (G : GG) (A : Nat → Prop) (ad : YY) (x : XX) (y : YY) (z : Nat → Int64) (hI : CI y) (hL : CL y) (au : Int32) : MW l G yX7_climbLadder cX7_climbLadder 6 none 4 [.ref (ad 0 0), .int au, .null] (CWd G A ad x y z) none (CWd G A ad (sx_clL x y au 0) y z) A 0 0 := by
  refine MW.of RX7 rfl (by decide) (Nat.le_of_ble_eq_true rfl) ?_
  intro p_ e_ s_ m_ args_ below_ meth_ c_ ls hargs C hr hnm hW hS hl
  have hl : lv_has ls 6 [(0, .ref (ad 0 0)), (1, .int au), (2, .null)] := hl
  obtain ⟨-, -, -, bP, bC, bG, bL⟩ := id hI
  refine lv_aload_n C.hx C.hb dX7_climbLadder_0 rfl (lv_at hl 0 rfl) ?_
  refine g_get (k := 6) (v := .ref (ad 9 0)) C (hW.1 0 0 rfl).1 rfl wu_X7 (by decide) wf_X7_41 rfl rfl dX7_climbLadder_1 ?_
  refine kVNWn (As := []) (rest := []) C (cC_X4_restart l G A ad x y z) lk_X7_371 (g_recv C (hW.1 9 0 rfl).1 rfl) hW rfl rfl hl (Nat.le_of_ble_eq_true rfl) dX7_climbLadder_4 ⟨⟨by decide, by decide⟩, by decide, by decide⟩ hS (fun q h => h) (fun H locs hP hz1 hk1 hS => ?_)
  have hW : CWd G A ad (sx_X4_restart x) y z H := hP
  refine lv_iconst (v := 0) C.hx C.hb dX7_climbLadder_7 (by decide) ?_
  refine lv_istore_n (lv' := [(3, .int 0), (0, .ref (ad 0 0)), (1, .int au), (2, .null)]) C.hx C.hb dX7_climbLadder_8 rfl hl (by decide) rfl (fun ls hl => ?_)
  refine W.loopG (N := y 20 0) (Inv := fun i ls H locs => lv_has ls 6 [(3, .int (nI i)), (0, .ref (ad 0 0)), (1, .int au), (2, .null)] ∧ ∃ x1, clS x y au 0 i = (x1, false) ∧ LI x1 ∧ CWd G A ad x1 y z H ∧ va_S A s_.heap H locs) 9 [] (fun i1 ls H locs hi1 hq K1 => ?_) 0 ls _ _ (Nat.zero_le _) ⟨lv_sub hl [0, 1, 2, 3] rfl, _, rfl, LI.rs x, hW, hS⟩
  obtain ⟨hl, x1, ex1, hLI, hW, hS⟩ := hq
  refine lv_iload_n C.hx C.hb dX7_climbLadder_9 rfl (lv_at hl 0 rfl) ?_
  refine lv_aload_n C.hx C.hb dX7_climbLadder_10 rfl (lv_at hl 1 rfl) ?_
  refine g_get (k := 2) (v := .ref (ad 7 0)) C (hW.1 0 0 rfl).1 rfl wu_X7 (by decide) wf_X7_24 rfl rfl dX7_climbLadder_11 ?_
  refine kVR (As := []) (rest := [.int (nI i1)]) (v := .int (nI (y 20 0))) C (cJ_size l G (ad 7 0) _ (y 20 0) _) lk_X7_83 (g_recv C (hW.1 7 0 (show 0 < 3 by decide)).1 rfl) (hW.1 7 0 (show 0 < 3 by decide)).1 rfl rfl hl (Nat.le_of_ble_eq_true rfl) dX7_climbLadder_14 ⟨⟨by decide, by decide⟩, by decide, by decide⟩ ?_
  refine lv_icmp_ge (tgt := 104) C.hx C.hb dX7_climbLadder_17 (by decide) (fun c1 => ?_) (fun c1 => ?_)
  · have gc1 := le_i rfl rfl (by omega) (by omega) c1
    have e9 : i1 = y 20 0 := by omega
    subst e9
    exact wV C hr dX7_climbLadder_104 hS (by unfold sx_clL; rw [ex1]; exact hW)
  · have gc1 := nlt_i rfl rfl (by omega) (by omega) c1
    refine lv_aload_n C.hx C.hb dX7_climbLadder_20 rfl (lv_at hl 1 rfl) ?_
    refine g_get (k := 2) (v := .ref (ad 7 0)) C (hW.1 0 0 rfl).1 rfl wu_X7 (by decide) wf_X7_24 rfl rfl dX7_climbLadder_21 ?_
    refine lv_iload_n C.hx C.hb dX7_climbLadder_24 rfl (lv_at hl 0 rfl) ?_
    refine kVR (As := [.int (nI i1)]) (rest := []) (v := .ref (ad 3 i1)) C (cC_get l G ad x1 y hI 0 i1 (by decide) (by omega)) lk_X7_169 (g_recv C (hW.1 7 0 (show 0 < 3 by decide)).1 rfl) (CWd.ls hW hI 0 (by decide) (by omega)) rfl rfl hl (Nat.le_of_ble_eq_true rfl) dX7_climbLadder_25 ⟨⟨by decide, by decide⟩, by decide, by decide⟩ ?_
    refine va_castS C.hx C.hb C.hown (C.hT _ wl_X7_87) (C.hK.1.1 6 _ rfl).2 (g_recv C (hW.1 3 i1 (show i1 < y 20 0 by omega)).1 rfl) dX7_climbLadder_28 ?_
    refine lv_astore (lv' := [(4, .ref (ad 3 i1)), (3, .int (nI i1)), (0, .ref (ad 0 0)), (1, .int au), (2, .null)]) C.hx C.hb dX7_climbLadder_31 hl (by decide) rfl (fun ls hl => ?_)
    refine lv_aload C.hx C.hb dX7_climbLadder_33 (lv_at hl 0 rfl) ?_
    refine g_getN (k := 1) (v := .int (x1 12 i1)) C (hW.1 3 i1 (show i1 < y 20 0 by omega)).1 rfl wu_X5 (by decide) wn_X7_298 rfl rfl dX7_climbLadder_35 ?_
    refine lv_iload_n C.hx C.hb dX7_climbLadder_38 rfl (lv_at hl 3 rfl) ?_
    refine lv_icmp_eq (tgt := 45) C.hx C.hb dX7_climbLadder_39 (by decide) (fun c2 => ?_) (fun c2 => ?_)
    · refine lv_aload C.hx C.hb dX7_climbLadder_45 (lv_at hl 0 rfl) ?_
      refine g_getN (k := 5) (v := opt (ad 4) (y 0 i1)) C (hW.1 3 i1 (show i1 < y 20 0 by omega)).1 rfl wu_X5 (by decide) wn_X7_374 rfl rfl dX7_climbLadder_47 ?_
      refine g_astoreO (g := ad 4) (q := (y 0 i1)) (lv' := [(5, opt (ad 4) (y 0 i1)), (4, .ref (ad 3 i1)), (3, .int (nI i1)), (0, .ref (ad 0 0)), (1, .int au), (2, .null)]) C.hx C.hb dX7_climbLadder_50 hl (by decide) rfl (fun ls hl => ?_)
      rw [hL.1 i1 (by omega)] at hl
      refine W.loopG (N := y 20 1) (Inv := fun i ls H locs => lv_has ls 6 [(5, opt (ad 4) (nxt y i1 i)), (4, .ref (ad 3 i1)), (3, .int (nI i1)), (0, .ref (ad 0 0)), (1, .int au), (2, .null)] ∧ ∃ x2, itrG (clI y i1 0) (x1, false) i = (x2, false) ∧ LI x2 ∧ CWd G A ad x2 y z H ∧ va_S A s_.heap H locs) 52 [] (fun i2 ls H locs hi2 hq K2 => ?_) 0 ls _ _ (Nat.zero_le _) ⟨lv_sub hl [0, 1, 2, 3, 4, 5] rfl, _, rfl, hLI, hW, hS⟩
      obtain ⟨hl, x2, ex2, hLI, hW, hS⟩ := hq
      by_cases c3 : nxt y i1 i2 = 0
      · rw [opt_null c3] at hl
        refine lv_aloadN C.hx C.hb dX7_climbLadder_52 (lv_at hl 0 rfl) ?_
        refine lv_ifnullN (tgt := 98) C.hx C.hb dX7_climbLadder_54 (by decide) ?_
        refine lv_iinc (v := (nI i1) + 1) (lv' := [(3, .int ((nI i1) + 1)), (5, .null), (4, .ref (ad 3 i1)), (0, .ref (ad 0 0)), (1, .int au), (2, .null)]) C.hx C.hb dX7_climbLadder_98 hl (k := 2) rfl rfl (by decide) rfl (fun ls hl => ?_)
        refine lv_goto (tgt := 9) C.hx C.hb dX7_climbLadder_101 (by decide) ?_
        rw [nI_1 i1] at hl
        exact K1 (i1 + 1) _ _ _ (by omega) (by omega) ⟨lv_sub hl [0, 3, 4, 5] rfl, _, (clP_in ex1 c2).trans ((clI_skip hi2 (nxt_none c3)).trans ex2), hLI, hW, hS⟩
      · obtain ⟨cc, ncc, gcc, lcc, ecc, scc⟩ := nxt_some c3
        rw [ncc] at hl
        have hl : lv_has ls 6 [(5, .ref (ad 4 cc)), (4, .ref (ad 3 i1)), (3, .int (nI i1)), (0, .ref (ad 0 0)), (1, .int au), (2, .null)] := hl
        refine lv_aload C.hx C.hb dX7_climbLadder_52 (lv_at hl 0 rfl) ?_
        refine lv_ifnull C.hx C.hb dX7_climbLadder_54 ?_
        refine lv_aload C.hx C.hb dX7_climbLadder_57 (lv_at hl 0 rfl) ?_
        refine kVNR (As := []) (rest := []) (v := .int (s_X0_bringsStrike x2 y cc)) C (cC_X0_bringsStrike l G A ad x2 y z hI cc (by omega)) lk_X7_295 (g_recv C (hW.1 4 cc (show cc < y 20 1 by omega)).1 rfl) hW rfl rfl hl (Nat.le_of_ble_eq_true rfl) dX7_climbLadder_59 ⟨⟨by decide, by decide⟩, by decide, by decide⟩ ?_
        refine lv_if_eq (tgt := 81) C.hx C.hb dX7_climbLadder_62 (by decide) (fun c4 => ?_) (fun c4 => ?_)
        · refine lv_aload C.hx C.hb dX7_climbLadder_81 (lv_at hl 0 rfl) ?_
          refine lv_aload_nN C.hx C.hb dX7_climbLadder_83 rfl (lv_at hl 5 rfl) ?_
          refine lv_acmp_ne (tgt := 88) (rx := some (ad 4 cc)) (ry := none) C.hx C.hb dX7_climbLadder_84 (by decide) (fun _ => ?_) (fun q => by cases q)
          refine lv_aload C.hx C.hb dX7_climbLadder_88 (lv_at hl 0 rfl) ?_
          refine g_getN (k := 11) (v := opt (ad 4) (y 5 cc)) C (hW.1 4 cc (show cc < y 20 1 by omega)).1 rfl wu_X0 (by decide) wn_X7_384 rfl rfl dX7_climbLadder_90 ?_
          refine g_astoreO (g := ad 4) (q := (y 5 cc)) (lv' := [(5, opt (ad 4) (y 5 cc)), (4, .ref (ad 3 i1)), (3, .int (nI i1)), (0, .ref (ad 0 0)), (1, .int au), (2, .null)]) C.hx C.hb dX7_climbLadder_93 hl (by decide) rfl (fun ls hl => ?_)
          refine lv_goto (tgt := 52) C.hx C.hb dX7_climbLadder_95 (by decide) ?_
          rw [hL.2 cc (by omega), ecc] at hl
          have hl : lv_has ls 6 [(5, opt (ad 4) (nxt y i1 (cc + 1))), (4, .ref (ad 3 i1)), (3, .int (nI i1)), (0, .ref (ad 0 0)), (1, .int au), (2, .null)] := lv_sub hl [0, 1, 2, 3, 4, 5] rfl
          exact K2 (cc + 1) _ _ _ (by omega) (by omega) ⟨hl, _, by rw [clI_in gcc scc ex2 ecc, if_pos c4, decide_eq_false (show ¬ cc + 1 = 0 by omega)], hLI, hW, hS⟩
        · refine lv_aload_n C.hx C.hb dX7_climbLadder_65 rfl (lv_at hl 3 rfl) ?_
          refine g_get (k := 6) (v := .ref (ad 9 0)) C (hW.1 0 0 rfl).1 rfl wu_X7 (by decide) wf_X7_41 rfl rfl dX7_climbLadder_66 ?_
          refine lv_aload C.hx C.hb dX7_climbLadder_69 (lv_at hl 1 rfl) ?_
          refine g_getN (k := 4) (v := .int (x2 15 i1)) C (hW.1 3 i1 (show i1 < y 20 0 by omega)).1 rfl wu_X5 (by decide) wn_X7_377 rfl rfl dX7_climbLadder_71 ?_
          refine lv_aload_n C.hx C.hb dX7_climbLadder_74 rfl (lv_at hl 3 rfl) ?_
          refine g_get (k := 7) (v := .int (x2 0 0)) C (hW.1 0 0 rfl).1 rfl wu_X7 (by decide) wf_X7_45 rfl rfl dX7_climbLadder_75 ?_
          refine kVNWn (As := [.int (x2 15 i1), .int (x2 0 0)]) (rest := []) C (cC_X4_climb l G A ad x2 y z (x2 15 i1) (x2 0 0) hLI) lk_X7_380 (g_recv C (hW.1 9 0 rfl).1 rfl) hW rfl rfl hl (Nat.le_of_ble_eq_true rfl) dX7_climbLadder_78 ⟨⟨by decide, by decide⟩, by decide, by decide⟩ hS (fun q h => h) (fun H locs hP hz1 hk1 hS => ?_)
          have hW : CWd G A ad (sx_X4_climb x2 (x2 15 i1) (x2 0 0)) y z H := hP
          have hLI := LI.cl hLI (x2 15 i1) (x2 0 0)
          refine lv_aload C.hx C.hb dX7_climbLadder_81 (lv_at hl 0 rfl) ?_
          refine lv_aload_nN C.hx C.hb dX7_climbLadder_83 rfl (lv_at hl 5 rfl) ?_
          refine lv_acmp_ne (tgt := 88) (rx := some (ad 4 cc)) (ry := none) C.hx C.hb dX7_climbLadder_84 (by decide) (fun _ => ?_) (fun q => by cases q)
          refine lv_aload C.hx C.hb dX7_climbLadder_88 (lv_at hl 0 rfl) ?_
          refine g_getN (k := 11) (v := opt (ad 4) (y 5 cc)) C (hW.1 4 cc (show cc < y 20 1 by omega)).1 rfl wu_X0 (by decide) wn_X7_384 rfl rfl dX7_climbLadder_90 ?_
          refine g_astoreO (g := ad 4) (q := (y 5 cc)) (lv' := [(5, opt (ad 4) (y 5 cc)), (4, .ref (ad 3 i1)), (3, .int (nI i1)), (0, .ref (ad 0 0)), (1, .int au), (2, .null)]) C.hx C.hb dX7_climbLadder_93 hl (by decide) rfl (fun ls hl => ?_)
          refine lv_goto (tgt := 52) C.hx C.hb dX7_climbLadder_95 (by decide) ?_
          rw [hL.2 cc (by omega), ecc] at hl
          have hl : lv_has ls 6 [(5, opt (ad 4) (nxt y i1 (cc + 1))), (4, .ref (ad 3 i1)), (3, .int (nI i1)), (0, .ref (ad 0 0)), (1, .int au), (2, .null)] := lv_sub hl [0, 1, 2, 3, 4, 5] rfl
          exact K2 (cc + 1) _ _ _ (by omega) (by omega) ⟨hl, _, by rw [clI_in gcc scc ex2 ecc, if_neg c4, decide_eq_false (show ¬ cc + 1 = 0 by omega)], hLI, hW, hS⟩
    · refine lv_goto (tgt := 98) C.hx C.hb dX7_climbLadder_42 (by decide) ?_
      refine lv_iinc (v := (nI i1) + 1) (lv' := [(3, .int ((nI i1) + 1)), (4, .ref (ad 3 i1)), (0, .ref (ad 0 0)), (1, .int au), (2, .null)]) C.hx C.hb dX7_climbLadder_98 hl (k := 1) rfl rfl (by decide) rfl (fun ls hl => ?_)
      refine lv_goto (tgt := 9) C.hx C.hb dX7_climbLadder_101 (by decide) ?_
      rw [nI_1 i1] at hl
      exact K1 (i1 + 1) _ _ _ (by omega) (by omega) ⟨lv_sub hl [0, 2, 3, 4] rfl, _, clP_out ex1 c2, hLI, hW, hS⟩
set_option maxRecDepth 100000 in
set_option maxHeartbeats 1000000 in
theorem cC_X7_climbC (l : Launch) (G : GG) (A : Nat → Prop) (ad : YY) (x : XX) (y : YY) (z : Nat → Int64) (hI : CI y) (hL : CL y) (au : Int32) (c0 : Nat) (hc0 : c0 < y 20 1) : MW l G yX7_climbLadder cX7_climbLadder 6 none 4 [.ref (ad 0 0), .int au, .ref (ad 4 c0)] (CWd G A ad x y z) none (CWd G A ad (sx_clL x y au (c0 + 1)) y z) A 0 0 := by
  refine MW.of RX7 rfl (by decide) (Nat.le_of_ble_eq_true rfl) ?_
  intro p_ e_ s_ m_ args_ below_ meth_ c_ ls hargs C hr hnm hW hS hl
  have hl : lv_has ls 6 [(0, .ref (ad 0 0)), (1, .int au), (2, .ref (ad 4 c0))] := hl
  obtain ⟨-, -, -, bP, bC, bG, bL⟩ := id hI
  refine lv_aload_n C.hx C.hb dX7_climbLadder_0 rfl (lv_at hl 0 rfl) ?_
  refine g_get (k := 6) (v := .ref (ad 9 0)) C (hW.1 0 0 rfl).1 rfl wu_X7 (by decide) wf_X7_41 rfl rfl dX7_climbLadder_1 ?_
  refine kVNWn (As := []) (rest := []) C (cC_X4_restart l G A ad x y z) lk_X7_371 (g_recv C (hW.1 9 0 rfl).1 rfl) hW rfl rfl hl (Nat.le_of_ble_eq_true rfl) dX7_climbLadder_4 ⟨⟨by decide, by decide⟩, by decide, by decide⟩ hS (fun q h => h) (fun H locs hP hz1 hk1 hS => ?_)
  have hW : CWd G A ad (sx_X4_restart x) y z H := hP
  refine lv_iconst (v := 0) C.hx C.hb dX7_climbLadder_7 (by decide) ?_
  refine lv_istore_n (lv' := [(3, .int 0), (0, .ref (ad 0 0)), (1, .int au), (2, .ref (ad 4 c0))]) C.hx C.hb dX7_climbLadder_8 rfl hl (by decide) rfl (fun ls hl => ?_)
  refine W.loopG (N := y 20 0) (Inv := fun i ls H locs => lv_has ls 6 [(3, .int (nI i)), (0, .ref (ad 0 0)), (1, .int au), (2, .ref (ad 4 c0))] ∧ ∃ x1, clS x y au (c0 + 1) i = (x1, false) ∧ LI x1 ∧ CWd G A ad x1 y z H ∧ va_S A s_.heap H locs) 9 [] (fun i1 ls H locs hi1 hq K1 => ?_) 0 ls _ _ (Nat.zero_le _) ⟨lv_sub hl [0, 1, 2, 3] rfl, _, rfl, LI.rs x, hW, hS⟩
  obtain ⟨hl, x1, ex1, hLI, hW, hS⟩ := hq
  refine lv_iload_n C.hx C.hb dX7_climbLadder_9 rfl (lv_at hl 0 rfl) ?_
  refine lv_aload_n C.hx C.hb dX7_climbLadder_10 rfl (lv_at hl 1 rfl) ?_
  refine g_get (k := 2) (v := .ref (ad 7 0)) C (hW.1 0 0 rfl).1 rfl wu_X7 (by decide) wf_X7_24 rfl rfl dX7_climbLadder_11 ?_
  refine kVR (As := []) (rest := [.int (nI i1)]) (v := .int (nI (y 20 0))) C (cJ_size l G (ad 7 0) _ (y 20 0) _) lk_X7_83 (g_recv C (hW.1 7 0 (show 0 < 3 by decide)).1 rfl) (hW.1 7 0 (show 0 < 3 by decide)).1 rfl rfl hl (Nat.le_of_ble_eq_true rfl) dX7_climbLadder_14 ⟨⟨by decide, by decide⟩, by decide, by decide⟩ ?_
  refine lv_icmp_ge (tgt := 104) C.hx C.hb dX7_climbLadder_17 (by decide) (fun c1 => ?_) (fun c1 => ?_)
  · have gc1 := le_i rfl rfl (by omega) (by omega) c1
    have e9 : i1 = y 20 0 := by omega
    subst e9
    exact wV C hr dX7_climbLadder_104 hS (by unfold sx_clL; rw [ex1]; exact hW)
  · have gc1 := nlt_i rfl rfl (by omega) (by omega) c1
    refine lv_aload_n C.hx C.hb dX7_climbLadder_20 rfl (lv_at hl 1 rfl) ?_
    refine g_get (k := 2) (v := .ref (ad 7 0)) C (hW.1 0 0 rfl).1 rfl wu_X7 (by decide) wf_X7_24 rfl rfl dX7_climbLadder_21 ?_
    refine lv_iload_n C.hx C.hb dX7_climbLadder_24 rfl (lv_at hl 0 rfl) ?_
    refine kVR (As := [.int (nI i1)]) (rest := []) (v := .ref (ad 3 i1)) C (cC_get l G ad x1 y hI 0 i1 (by decide) (by omega)) lk_X7_169 (g_recv C (hW.1 7 0 (show 0 < 3 by decide)).1 rfl) (CWd.ls hW hI 0 (by decide) (by omega)) rfl rfl hl (Nat.le_of_ble_eq_true rfl) dX7_climbLadder_25 ⟨⟨by decide, by decide⟩, by decide, by decide⟩ ?_
    refine va_castS C.hx C.hb C.hown (C.hT _ wl_X7_87) (C.hK.1.1 6 _ rfl).2 (g_recv C (hW.1 3 i1 (show i1 < y 20 0 by omega)).1 rfl) dX7_climbLadder_28 ?_
    refine lv_astore (lv' := [(4, .ref (ad 3 i1)), (3, .int (nI i1)), (0, .ref (ad 0 0)), (1, .int au), (2, .ref (ad 4 c0))]) C.hx C.hb dX7_climbLadder_31 hl (by decide) rfl (fun ls hl => ?_)
    refine lv_aload C.hx C.hb dX7_climbLadder_33 (lv_at hl 0 rfl) ?_
    refine g_getN (k := 1) (v := .int (x1 12 i1)) C (hW.1 3 i1 (show i1 < y 20 0 by omega)).1 rfl wu_X5 (by decide) wn_X7_298 rfl rfl dX7_climbLadder_35 ?_
    refine lv_iload_n C.hx C.hb dX7_climbLadder_38 rfl (lv_at hl 3 rfl) ?_
    refine lv_icmp_eq (tgt := 45) C.hx C.hb dX7_climbLadder_39 (by decide) (fun c2 => ?_) (fun c2 => ?_)
    · refine lv_aload C.hx C.hb dX7_climbLadder_45 (lv_at hl 0 rfl) ?_
      refine g_getN (k := 5) (v := opt (ad 4) (y 0 i1)) C (hW.1 3 i1 (show i1 < y 20 0 by omega)).1 rfl wu_X5 (by decide) wn_X7_374 rfl rfl dX7_climbLadder_47 ?_
      refine g_astoreO (g := ad 4) (q := (y 0 i1)) (lv' := [(5, opt (ad 4) (y 0 i1)), (4, .ref (ad 3 i1)), (3, .int (nI i1)), (0, .ref (ad 0 0)), (1, .int au), (2, .ref (ad 4 c0))]) C.hx C.hb dX7_climbLadder_50 hl (by decide) rfl (fun ls hl => ?_)
      rw [hL.1 i1 (by omega)] at hl
      refine W.loopG (N := y 20 1) (Inv := fun i ls H locs => lv_has ls 6 [(5, opt (ad 4) (nxt y i1 i)), (4, .ref (ad 3 i1)), (3, .int (nI i1)), (0, .ref (ad 0 0)), (1, .int au), (2, .ref (ad 4 c0))] ∧ ∃ x2, itrG (clI y i1 (c0 + 1)) (x1, false) i = (x2, false) ∧ LI x2 ∧ CWd G A ad x2 y z H ∧ va_S A s_.heap H locs) 52 [] (fun i2 ls H locs hi2 hq K2 => ?_) 0 ls _ _ (Nat.zero_le _) ⟨lv_sub hl [0, 1, 2, 3, 4, 5] rfl, _, rfl, hLI, hW, hS⟩
      obtain ⟨hl, x2, ex2, hLI, hW, hS⟩ := hq
      by_cases c3 : nxt y i1 i2 = 0
      · rw [opt_null c3] at hl
        refine lv_aloadN C.hx C.hb dX7_climbLadder_52 (lv_at hl 0 rfl) ?_
        refine lv_ifnullN (tgt := 98) C.hx C.hb dX7_climbLadder_54 (by decide) ?_
        refine lv_iinc (v := (nI i1) + 1) (lv' := [(3, .int ((nI i1) + 1)), (5, .null), (4, .ref (ad 3 i1)), (0, .ref (ad 0 0)), (1, .int au), (2, .ref (ad 4 c0))]) C.hx C.hb dX7_climbLadder_98 hl (k := 2) rfl rfl (by decide) rfl (fun ls hl => ?_)
        refine lv_goto (tgt := 9) C.hx C.hb dX7_climbLadder_101 (by decide) ?_
        rw [nI_1 i1] at hl
        exact K1 (i1 + 1) _ _ _ (by omega) (by omega) ⟨lv_sub hl [0, 3, 4, 5] rfl, _, (clP_in ex1 c2).trans ((clI_skip hi2 (nxt_none c3)).trans ex2), hLI, hW, hS⟩
      · obtain ⟨cc, ncc, gcc, lcc, ecc, scc⟩ := nxt_some c3
        rw [ncc] at hl
        have hl : lv_has ls 6 [(5, .ref (ad 4 cc)), (4, .ref (ad 3 i1)), (3, .int (nI i1)), (0, .ref (ad 0 0)), (1, .int au), (2, .ref (ad 4 c0))] := hl
        refine lv_aload C.hx C.hb dX7_climbLadder_52 (lv_at hl 0 rfl) ?_
        refine lv_ifnull C.hx C.hb dX7_climbLadder_54 ?_
        refine lv_aload C.hx C.hb dX7_climbLadder_57 (lv_at hl 0 rfl) ?_
        refine kVNR (As := []) (rest := []) (v := .int (s_X0_bringsStrike x2 y cc)) C (cC_X0_bringsStrike l G A ad x2 y z hI cc (by omega)) lk_X7_295 (g_recv C (hW.1 4 cc (show cc < y 20 1 by omega)).1 rfl) hW rfl rfl hl (Nat.le_of_ble_eq_true rfl) dX7_climbLadder_59 ⟨⟨by decide, by decide⟩, by decide, by decide⟩ ?_
        refine lv_if_eq (tgt := 81) C.hx C.hb dX7_climbLadder_62 (by decide) (fun c4 => ?_) (fun c4 => ?_)
        · refine lv_aload C.hx C.hb dX7_climbLadder_81 (lv_at hl 0 rfl) ?_
          refine lv_aload_n C.hx C.hb dX7_climbLadder_83 rfl (lv_at hl 5 rfl) ?_
          refine g_acmp_ne (g := ad 4) (i := cc) (j := c0) (tgt := 88) (fun q => (hW.2.1 4 cc 4 c0 lcc hc0 q).2) C.hx C.hb dX7_climbLadder_84 (by decide) (fun c5 => ?_) (fun c5 => ?_)
          · refine lv_aload C.hx C.hb dX7_climbLadder_88 (lv_at hl 0 rfl) ?_
            refine g_getN (k := 11) (v := opt (ad 4) (y 5 cc)) C (hW.1 4 cc (show cc < y 20 1 by omega)).1 rfl wu_X0 (by decide) wn_X7_384 rfl rfl dX7_climbLadder_90 ?_
            refine g_astoreO (g := ad 4) (q := (y 5 cc)) (lv' := [(5, opt (ad 4) (y 5 cc)), (4, .ref (ad 3 i1)), (3, .int (nI i1)), (0, .ref (ad 0 0)), (1, .int au), (2, .ref (ad 4 c0))]) C.hx C.hb dX7_climbLadder_93 hl (by decide) rfl (fun ls hl => ?_)
            refine lv_goto (tgt := 52) C.hx C.hb dX7_climbLadder_95 (by decide) ?_
            rw [hL.2 cc (by omega), ecc] at hl
            have hl : lv_has ls 6 [(5, opt (ad 4) (nxt y i1 (cc + 1))), (4, .ref (ad 3 i1)), (3, .int (nI i1)), (0, .ref (ad 0 0)), (1, .int au), (2, .ref (ad 4 c0))] := lv_sub hl [0, 1, 2, 3, 4, 5] rfl
            exact K2 (cc + 1) _ _ _ (by omega) (by omega) ⟨hl, _, by rw [clI_in gcc scc ex2 ecc, if_pos c4, decide_eq_false (show ¬ cc + 1 = (c0 + 1) by omega)], hLI, hW, hS⟩
          · have e9 : sx_clL x y au (c0 + 1) = _ := cl_end (by omega) lcc ex1 c2 (by rw [clI_in gcc scc ex2 ecc, if_pos c4, decide_eq_true (show cc + 1 = (c0 + 1) by omega)])
            exact wV C hr dX7_climbLadder_87 hS (by rw [e9]; exact hW)
        · refine lv_aload_n C.hx C.hb dX7_climbLadder_65 rfl (lv_at hl 3 rfl) ?_
          refine g_get (k := 6) (v := .ref (ad 9 0)) C (hW.1 0 0 rfl).1 rfl wu_X7 (by decide) wf_X7_41 rfl rfl dX7_climbLadder_66 ?_
          refine lv_aload C.hx C.hb dX7_climbLadder_69 (lv_at hl 1 rfl) ?_
          refine g_getN (k := 4) (v := .int (x2 15 i1)) C (hW.1 3 i1 (show i1 < y 20 0 by omega)).1 rfl wu_X5 (by decide) wn_X7_377 rfl rfl dX7_climbLadder_71 ?_
          refine lv_aload_n C.hx C.hb dX7_climbLadder_74 rfl (lv_at hl 3 rfl) ?_
          refine g_get (k := 7) (v := .int (x2 0 0)) C (hW.1 0 0 rfl).1 rfl wu_X7 (by decide) wf_X7_45 rfl rfl dX7_climbLadder_75 ?_
          refine kVNWn (As := [.int (x2 15 i1), .int (x2 0 0)]) (rest := []) C (cC_X4_climb l G A ad x2 y z (x2 15 i1) (x2 0 0) hLI) lk_X7_380 (g_recv C (hW.1 9 0 rfl).1 rfl) hW rfl rfl hl (Nat.le_of_ble_eq_true rfl) dX7_climbLadder_78 ⟨⟨by decide, by decide⟩, by decide, by decide⟩ hS (fun q h => h) (fun H locs hP hz1 hk1 hS => ?_)
          have hW : CWd G A ad (sx_X4_climb x2 (x2 15 i1) (x2 0 0)) y z H := hP
          have hLI := LI.cl hLI (x2 15 i1) (x2 0 0)
          refine lv_aload C.hx C.hb dX7_climbLadder_81 (lv_at hl 0 rfl) ?_
          refine lv_aload_n C.hx C.hb dX7_climbLadder_83 rfl (lv_at hl 5 rfl) ?_
          refine g_acmp_ne (g := ad 4) (i := cc) (j := c0) (tgt := 88) (fun q => (hW.2.1 4 cc 4 c0 lcc hc0 q).2) C.hx C.hb dX7_climbLadder_84 (by decide) (fun c6 => ?_) (fun c6 => ?_)
          · refine lv_aload C.hx C.hb dX7_climbLadder_88 (lv_at hl 0 rfl) ?_
            refine g_getN (k := 11) (v := opt (ad 4) (y 5 cc)) C (hW.1 4 cc (show cc < y 20 1 by omega)).1 rfl wu_X0 (by decide) wn_X7_384 rfl rfl dX7_climbLadder_90 ?_
            refine g_astoreO (g := ad 4) (q := (y 5 cc)) (lv' := [(5, opt (ad 4) (y 5 cc)), (4, .ref (ad 3 i1)), (3, .int (nI i1)), (0, .ref (ad 0 0)), (1, .int au), (2, .ref (ad 4 c0))]) C.hx C.hb dX7_climbLadder_93 hl (by decide) rfl (fun ls hl => ?_)
            refine lv_goto (tgt := 52) C.hx C.hb dX7_climbLadder_95 (by decide) ?_
            rw [hL.2 cc (by omega), ecc] at hl
            have hl : lv_has ls 6 [(5, opt (ad 4) (nxt y i1 (cc + 1))), (4, .ref (ad 3 i1)), (3, .int (nI i1)), (0, .ref (ad 0 0)), (1, .int au), (2, .ref (ad 4 c0))] := lv_sub hl [0, 1, 2, 3, 4, 5] rfl
            exact K2 (cc + 1) _ _ _ (by omega) (by omega) ⟨hl, _, by rw [clI_in gcc scc ex2 ecc, if_neg c4, decide_eq_false (show ¬ cc + 1 = (c0 + 1) by omega)], hLI, hW, hS⟩
          · have e9 : sx_clL x y au (c0 + 1) = _ := cl_end (by omega) lcc ex1 c2 (by rw [clI_in gcc scc ex2 ecc, if_neg c4, decide_eq_true (show cc + 1 = (c0 + 1) by omega)])
            exact wV C hr dX7_climbLadder_87 hS (by rw [e9]; exact hW)
    · refine lv_goto (tgt := 98) C.hx C.hb dX7_climbLadder_42 (by decide) ?_
      refine lv_iinc (v := (nI i1) + 1) (lv' := [(3, .int ((nI i1) + 1)), (4, .ref (ad 3 i1)), (0, .ref (ad 0 0)), (1, .int au), (2, .ref (ad 4 c0))]) C.hx C.hb dX7_climbLadder_98 hl (k := 1) rfl rfl (by decide) rfl (fun ls hl => ?_)
      refine lv_goto (tgt := 9) C.hx C.hb dX7_climbLadder_101 (by decide) ?_
      rw [nI_1 i1] at hl
      exact K1 (i1 + 1) _ _ _ (by omega) (by omega) ⟨lv_sub hl [0, 2, 3, 4] rfl, _, clP_out ex1 c2, hLI, hW, hS⟩
theorem itrG_inv {α : Type} {f : Nat → α → α} {a : α} {P : α → Prop} (h0 : P a) (hs : ∀ i b, P b → P (f i b)) : ∀ n, P (itrG f a n)
  | 0 => h0
  | n + 1 => hs n _ (itrG_inv h0 hs n)
theorem LI.clL (x : XX) (y : YY) (au : Int32) (lst : Nat) : LI (sx_clL x y au lst) := by
  unfold sx_clL clS
  refine itrG_inv (P := fun s : XX × Bool => LI s.1) (LI.rs x) (fun p s h => ?_) _
  unfold clP
  repeat' split
  · exact h
  · refine itrG_inv (P := fun s : XX × Bool => LI s.1) h (fun c s h => ?_) _
    unfold clI
    repeat' split
    · exact h
    · exact h
    · exact h.cl _ _
    · exact h
  · exact h
def s_X7_writer (x : XX) (y : YY) (wr : Int32) (what : Int32) : Int32 := (if (s_X7_within wr 0 39) = 0 then (-1) else (if what = 0 then hdA (sx_clL x y wr 0) ((sx_clL x y wr 0) 0 0) else (if what = 1 then s_X7_asNumber ((sx_clL x y wr 0) 42 0) else (if what = 2 then s_X7_asNumber (if ((sx_clL x y wr 0) 43 0) < 0 then 0 else 1 : Int32) else (if what = 3 then s_X7_timesWarned x y wr else (if what = 4 then s_X7_postsOf x y wr 0 else (if what = 5 then s_X7_postsOf x y wr 1 else (if what = 6 then (sx_clL x y wr 0) 43 0 else (-1)))))))))
def sx_X7_writer (x : XX) (y : YY) (wr : Int32) (what : Int32) : XX := (if (s_X7_within wr 0 39) = 0 then x else (if what = 0 then (hdX (sx_clL x y wr 0) ((sx_clL x y wr 0) 0 0)) else (if what = 1 then (sx_clL x y wr 0) else (if what = 2 then (sx_clL x y wr 0) else (if what = 3 then x else (if what = 4 then x else (if what = 5 then x else (if what = 6 then (sx_clL x y wr 0) else x))))))))
set_option maxRecDepth 100000 in
set_option maxHeartbeats 1000000 in
theorem cC_X7_writer (l : Launch) (G : GG) (A : Nat → Prop) (ad : YY) (x : XX) (y : YY) (z : Nat → Int64) (hI : CI y) (hL : CL y) (wr : Int32) (what : Int32)  : MW l G yX7_writer cX7_writer 3 (some .int) 5 [.ref (ad 0 0), .int wr, .int what] (CWd G A ad x y z) (some (.int (s_X7_writer x y wr what))) (CWd G A ad (sx_X7_writer x y wr what) y z) A 0 0 := by
  refine MW.of RX7 rfl (by decide) (Nat.le_of_ble_eq_true rfl) ?_
  intro p_ e_ s_ m_ args_ below_ meth_ c_ ls hargs C hr hnm hW hS hl
  obtain ⟨-, -, -, bP, bC, bG, bL⟩ := id hI
  have hl : lv_has ls 3 [(0, .ref (ad 0 0)), (1, .int wr), (2, .int what)] := hl
  refine lv_iload_n C.hx C.hb dX7_writer_0 rfl (lv_at hl 1 rfl) ?_
  refine lv_iconst (v := 0) C.hx C.hb dX7_writer_1 (by decide) ?_
  refine lv_bipush (v := 39) C.hx C.hb dX7_writer_2 (by decide) ?_
  refine kSR (As := [.int wr, .int 0, .int 39]) (rest := []) (v := .int (s_X7_within wr 0 39)) C (cJ_X7_within l G wr 0 39) lk_X7_59 trivial rfl rfl hl (Nat.le_of_ble_eq_true rfl) dX7_writer_4 ⟨⟨by decide, by decide⟩, by decide, by decide⟩ ?_
  refine lv_if_ne (tgt := 12) C.hx C.hb dX7_writer_7 (by decide) (fun c1 => ?_) (fun c1 => ?_)
  · refine lv_iload_n C.hx C.hb dX7_writer_12 rfl (lv_at hl 2 rfl) ?_
    by_cases c2 : what = 0
    · refine sw_in (off := 43) (tgt := 56) C.hx C.hb dX7_writer_13 c2 (by decide) (by decide) (by decide) (by decide) ?_
      refine lv_aload_n C.hx C.hb dX7_writer_56 rfl (lv_at hl 0 rfl) ?_
      refine lv_iload_n C.hx C.hb dX7_writer_57 rfl (lv_at hl 1 rfl) ?_
      refine lv_null C.hx C.hb dX7_writer_58 ?_
      refine kVWn (As := [.int wr, .null]) (rest := []) C (cC_X7_climbN l G A ad x y z hI hL wr) lk_X7_274 (g_recv C (hW.1 0 0 rfl).1 rfl) hW rfl rfl hl (Nat.le_of_ble_eq_true rfl) dX7_writer_59 ⟨⟨by decide, by decide⟩, by decide, by decide⟩ hS (fun q h => h) (fun H locs hP hz1 hk1 hS => ?_)
      have hW : CWd G A ad (sx_clL x y wr 0) y z H := hP
      refine lv_aload_n C.hx C.hb dX7_writer_62 rfl (lv_at hl 0 rfl) ?_
      refine g_get (k := 6) (v := .ref (ad 9 0)) C (hW.1 0 0 rfl).1 rfl wu_X7 (by decide) wf_X7_41 rfl rfl dX7_writer_63 ?_
      refine lv_aload_n C.hx C.hb dX7_writer_66 rfl (lv_at hl 0 rfl) ?_
      refine g_get (k := 7) (v := .int ((sx_clL x y wr 0) 0 0)) C (hW.1 0 0 rfl).1 rfl wu_X7 (by decide) wf_X7_45 rfl rfl dX7_writer_67 ?_
      refine kVNW (As := [.int ((sx_clL x y wr 0) 0 0)]) (rest := []) (v := .int (hdA (sx_clL x y wr 0) ((sx_clL x y wr 0) 0 0))) C (cC_X4_holdingAt l G A ad (sx_clL x y wr 0) y z ((sx_clL x y wr 0) 0 0) (LI.clL x y wr 0)) lk_X7_278 (g_recv C (hW.1 9 0 rfl).1 rfl) hW rfl rfl hl (Nat.le_of_ble_eq_true rfl) dX7_writer_70 ⟨⟨by decide, by decide⟩, by decide, by decide⟩ hS (fun q h => h) (fun H locs hP hz1 hk1 hS => ?_)
      have hW : CWd G A ad (hdX (sx_clL x y wr 0) ((sx_clL x y wr 0) 0 0)) y z H := hP
      exact wI C hr dX7_writer_73 hS (by unfold s_X7_writer; first | (rw [if_neg c1, if_pos c2]; done) | simp only [if_neg c1, if_pos c2] | (simp only [if_neg c1, if_pos c2]; rfl)) (by unfold sx_X7_writer; (first | rw [if_neg c1, if_pos c2] | simp only [if_neg c1, if_pos c2]); exact hW)
    by_cases c3 : what = 1
    · refine sw_in (off := 61) (tgt := 74) C.hx C.hb dX7_writer_13 c3 (by decide) (by decide) (by decide) (by decide) ?_
      refine lv_aload_n C.hx C.hb dX7_writer_74 rfl (lv_at hl 0 rfl) ?_
      refine lv_iload_n C.hx C.hb dX7_writer_75 rfl (lv_at hl 1 rfl) ?_
      refine lv_null C.hx C.hb dX7_writer_76 ?_
      refine kVWn (As := [.int wr, .null]) (rest := []) C (cC_X7_climbN l G A ad x y z hI hL wr) lk_X7_274 (g_recv C (hW.1 0 0 rfl).1 rfl) hW rfl rfl hl (Nat.le_of_ble_eq_true rfl) dX7_writer_77 ⟨⟨by decide, by decide⟩, by decide, by decide⟩ hS (fun q h => h) (fun H locs hP hz1 hk1 hS => ?_)
      have hW : CWd G A ad (sx_clL x y wr 0) y z H := hP
      refine lv_aload_n C.hx C.hb dX7_writer_80 rfl (lv_at hl 0 rfl) ?_
      refine g_get (k := 6) (v := .ref (ad 9 0)) C (hW.1 0 0 rfl).1 rfl wu_X7 (by decide) wf_X7_41 rfl rfl dX7_writer_81 ?_
      refine g_getN (k := 6) (v := .int ((sx_clL x y wr 0) 42 0)) C (hW.1 9 0 rfl).1 rfl wu_X4 (by decide) wn_X7_282 rfl rfl dX7_writer_84 ?_
      refine kSR (As := [.int ((sx_clL x y wr 0) 42 0)]) (rest := []) (v := .int (s_X7_asNumber ((sx_clL x y wr 0) 42 0))) C (cJ_X7_asNumber l G ((sx_clL x y wr 0) 42 0)) lk_X7_136 trivial rfl rfl hl (Nat.le_of_ble_eq_true rfl) dX7_writer_87 ⟨⟨by decide, by decide⟩, by decide, by decide⟩ ?_
      exact wI C hr dX7_writer_90 hS (by unfold s_X7_writer; first | (rw [if_neg c1, if_neg c2, if_pos c3]; done) | simp only [if_neg c1, if_neg c2, if_pos c3] | (simp only [if_neg c1, if_neg c2, if_pos c3]; rfl)) (by unfold sx_X7_writer; (first | rw [if_neg c1, if_neg c2, if_pos c3] | simp only [if_neg c1, if_neg c2, if_pos c3]); exact hW)
    by_cases c4 : what = 2
    · refine sw_in (off := 78) (tgt := 91) C.hx C.hb dX7_writer_13 c4 (by decide) (by decide) (by decide) (by decide) ?_
      refine lv_aload_n C.hx C.hb dX7_writer_91 rfl (lv_at hl 0 rfl) ?_
      refine lv_iload_n C.hx C.hb dX7_writer_92 rfl (lv_at hl 1 rfl) ?_
      refine lv_null C.hx C.hb dX7_writer_93 ?_
      refine kVWn (As := [.int wr, .null]) (rest := []) C (cC_X7_climbN l G A ad x y z hI hL wr) lk_X7_274 (g_recv C (hW.1 0 0 rfl).1 rfl) hW rfl rfl hl (Nat.le_of_ble_eq_true rfl) dX7_writer_94 ⟨⟨by decide, by decide⟩, by decide, by decide⟩ hS (fun q h => h) (fun H locs hP hz1 hk1 hS => ?_)
      have hW : CWd G A ad (sx_clL x y wr 0) y z H := hP
      refine lv_aload_n C.hx C.hb dX7_writer_97 rfl (lv_at hl 0 rfl) ?_
      refine g_get (k := 6) (v := .ref (ad 9 0)) C (hW.1 0 0 rfl).1 rfl wu_X7 (by decide) wf_X7_41 rfl rfl dX7_writer_98 ?_
      refine g_getN (k := 7) (v := .int ((sx_clL x y wr 0) 43 0)) C (hW.1 9 0 rfl).1 rfl wu_X4 (by decide) wn_X7_285 rfl rfl dX7_writer_101 ?_
      refine W.joinI (P := fun jv => jv = (if ((sx_clL x y wr 0) 43 0) < 0 then 0 else 1 : Int32)) 112 ls [] (fun J6 => ?_) (fun v7 hv7 => ?_)
      · refine lv_if_lt (tgt := 111) C.hx C.hb dX7_writer_104 (by decide) (fun c5 => ?_) (fun c5 => ?_)
        · refine lv_iconst (v := 0) C.hx C.hb dX7_writer_111 (by decide) ?_
          exact J6 _ (by rw [if_pos c5])
        · refine lv_iconst (v := 1) C.hx C.hb dX7_writer_107 (by decide) ?_
          refine lv_goto (tgt := 112) C.hx C.hb dX7_writer_108 (by decide) ?_
          exact J6 _ (by rw [if_neg c5])
      · refine kSR (As := [.int v7]) (rest := []) (v := .int (s_X7_asNumber v7)) C (cJ_X7_asNumber l G v7) lk_X7_136 trivial rfl rfl hl (Nat.le_of_ble_eq_true rfl) dX7_writer_112 ⟨⟨by decide, by decide⟩, by decide, by decide⟩ ?_
        exact wI C hr dX7_writer_115 hS (by rw [hv7]; unfold s_X7_writer; first | (rw [if_neg c1, if_neg c2, if_neg c3, if_pos c4]; done) | simp only [if_neg c1, if_neg c2, if_neg c3, if_pos c4] | (simp only [if_neg c1, if_neg c2, if_neg c3, if_pos c4]; rfl)) (by unfold sx_X7_writer; (first | rw [if_neg c1, if_neg c2, if_neg c3, if_pos c4] | simp only [if_neg c1, if_neg c2, if_neg c3, if_pos c4]); exact hW)
    by_cases c8 : what = 3
    · refine sw_in (off := 103) (tgt := 116) C.hx C.hb dX7_writer_13 c8 (by decide) (by decide) (by decide) (by decide) ?_
      refine lv_aload_n C.hx C.hb dX7_writer_116 rfl (lv_at hl 0 rfl) ?_
      refine lv_iload_n C.hx C.hb dX7_writer_117 rfl (lv_at hl 1 rfl) ?_
      refine kVR (As := [.int wr]) (rest := []) (v := .int (s_X7_timesWarned x y wr)) C (cC_X7_timesWarned l G A ad x y z hI wr) lk_X7_288 (g_recv C (hW.1 0 0 rfl).1 rfl) hW rfl rfl hl (Nat.le_of_ble_eq_true rfl) dX7_writer_118 ⟨⟨by decide, by decide⟩, by decide, by decide⟩ ?_
      exact wI C hr dX7_writer_121 hS (by unfold s_X7_writer; first | (rw [if_neg c1, if_neg c2, if_neg c3, if_neg c4, if_pos c8]; done) | simp only [if_neg c1, if_neg c2, if_neg c3, if_neg c4, if_pos c8] | (simp only [if_neg c1, if_neg c2, if_neg c3, if_neg c4, if_pos c8]; rfl)) (by unfold sx_X7_writer; (first | rw [if_neg c1, if_neg c2, if_neg c3, if_neg c4, if_pos c8] | simp only [if_neg c1, if_neg c2, if_neg c3, if_neg c4, if_pos c8]); exact hW)
    by_cases c9 : what = 4
    · refine sw_in (off := 109) (tgt := 122) C.hx C.hb dX7_writer_13 c9 (by decide) (by decide) (by decide) (by decide) ?_
      refine lv_aload_n C.hx C.hb dX7_writer_122 rfl (lv_at hl 0 rfl) ?_
      refine lv_iload_n C.hx C.hb dX7_writer_123 rfl (lv_at hl 1 rfl) ?_
      refine lv_iconst (v := 0) C.hx C.hb dX7_writer_124 (by decide) ?_
      refine kVR (As := [.int wr, .int 0]) (rest := []) (v := .int (s_X7_postsOf x y wr 0)) C (cC_X7_postsOf l G A ad x y z hI hL wr 0) lk_X7_291 (g_recv C (hW.1 0 0 rfl).1 rfl) hW rfl rfl hl (Nat.le_of_ble_eq_true rfl) dX7_writer_125 ⟨⟨by decide, by decide⟩, by decide, by decide⟩ ?_
      exact wI C hr dX7_writer_128 hS (by unfold s_X7_writer; first | (rw [if_neg c1, if_neg c2, if_neg c3, if_neg c4, if_neg c8, if_pos c9]; done) | simp only [if_neg c1, if_neg c2, if_neg c3, if_neg c4, if_neg c8, if_pos c9] | (simp only [if_neg c1, if_neg c2, if_neg c3, if_neg c4, if_neg c8, if_pos c9]; rfl)) (by unfold sx_X7_writer; (first | rw [if_neg c1, if_neg c2, if_neg c3, if_neg c4, if_neg c8, if_pos c9] | simp only [if_neg c1, if_neg c2, if_neg c3, if_neg c4, if_neg c8, if_pos c9]); exact hW)
    by_cases c10 : what = 5
    · refine sw_in (off := 116) (tgt := 129) C.hx C.hb dX7_writer_13 c10 (by decide) (by decide) (by decide) (by decide) ?_
      refine lv_aload_n C.hx C.hb dX7_writer_129 rfl (lv_at hl 0 rfl) ?_
      refine lv_iload_n C.hx C.hb dX7_writer_130 rfl (lv_at hl 1 rfl) ?_
      refine lv_iconst (v := 1) C.hx C.hb dX7_writer_131 (by decide) ?_
      refine kVR (As := [.int wr, .int 1]) (rest := []) (v := .int (s_X7_postsOf x y wr 1)) C (cC_X7_postsOf l G A ad x y z hI hL wr 1) lk_X7_291 (g_recv C (hW.1 0 0 rfl).1 rfl) hW rfl rfl hl (Nat.le_of_ble_eq_true rfl) dX7_writer_132 ⟨⟨by decide, by decide⟩, by decide, by decide⟩ ?_
      exact wI C hr dX7_writer_135 hS (by unfold s_X7_writer; first | (rw [if_neg c1, if_neg c2, if_neg c3, if_neg c4, if_neg c8, if_neg c9, if_pos c10]; done) | simp only [if_neg c1, if_neg c2, if_neg c3, if_neg c4, if_neg c8, if_neg c9, if_pos c10] | (simp only [if_neg c1, if_neg c2, if_neg c3, if_neg c4, if_neg c8, if_neg c9, if_pos c10]; rfl)) (by unfold sx_X7_writer; (first | rw [if_neg c1, if_neg c2, if_neg c3, if_neg c4, if_neg c8, if_neg c9, if_pos c10] | simp only [if_neg c1, if_neg c2, if_neg c3, if_neg c4, if_neg c8, if_neg c9, if_pos c10]); exact hW)
    by_cases c11 : what = 6
    · refine sw_in (off := 123) (tgt := 136) C.hx C.hb dX7_writer_13 c11 (by decide) (by decide) (by decide) (by decide) ?_
      refine lv_aload_n C.hx C.hb dX7_writer_136 rfl (lv_at hl 0 rfl) ?_
      refine lv_iload_n C.hx C.hb dX7_writer_137 rfl (lv_at hl 1 rfl) ?_
      refine lv_null C.hx C.hb dX7_writer_138 ?_
      refine kVWn (As := [.int wr, .null]) (rest := []) C (cC_X7_climbN l G A ad x y z hI hL wr) lk_X7_274 (g_recv C (hW.1 0 0 rfl).1 rfl) hW rfl rfl hl (Nat.le_of_ble_eq_true rfl) dX7_writer_139 ⟨⟨by decide, by decide⟩, by decide, by decide⟩ hS (fun q h => h) (fun H locs hP hz1 hk1 hS => ?_)
      have hW : CWd G A ad (sx_clL x y wr 0) y z H := hP
      refine lv_aload_n C.hx C.hb dX7_writer_142 rfl (lv_at hl 0 rfl) ?_
      refine g_get (k := 6) (v := .ref (ad 9 0)) C (hW.1 0 0 rfl).1 rfl wu_X7 (by decide) wf_X7_41 rfl rfl dX7_writer_143 ?_
      refine g_getN (k := 7) (v := .int ((sx_clL x y wr 0) 43 0)) C (hW.1 9 0 rfl).1 rfl wu_X4 (by decide) wn_X7_285 rfl rfl dX7_writer_146 ?_
      exact wI C hr dX7_writer_149 hS (by unfold s_X7_writer; first | (rw [if_neg c1, if_neg c2, if_neg c3, if_neg c4, if_neg c8, if_neg c9, if_neg c10, if_pos c11]; done) | simp only [if_neg c1, if_neg c2, if_neg c3, if_neg c4, if_neg c8, if_neg c9, if_neg c10, if_pos c11] | (simp only [if_neg c1, if_neg c2, if_neg c3, if_neg c4, if_neg c8, if_neg c9, if_neg c10, if_pos c11]; rfl)) (by unfold sx_X7_writer; (first | rw [if_neg c1, if_neg c2, if_neg c3, if_neg c4, if_neg c8, if_neg c9, if_neg c10, if_pos c11] | simp only [if_neg c1, if_neg c2, if_neg c3, if_neg c4, if_neg c8, if_neg c9, if_neg c10, if_pos c11]); exact hW)
    refine lv_tableOut (tgt := 150) C.hx C.hb dX7_writer_13 (by have nc2 := lv_neT c2 (a := 0) (by decide); have nc3 := lv_neT c3 (a := 1) (by decide); have nc4 := lv_neT c4 (a := 2) (by decide); have nc8 := lv_neT c8 (a := 3) (by decide); have nc9 := lv_neT c9 (a := 4) (by decide); have nc10 := lv_neT c10 (a := 5) (by decide); have nc11 := lv_neT c11 (a := 6) (by decide); omega) (by decide) ?_
    refine lv_iconst (v := (-1)) C.hx C.hb dX7_writer_150 (by decide) ?_
    exact wI C hr dX7_writer_151 hS (by unfold s_X7_writer; first | (rw [if_neg c1, if_neg c2, if_neg c3, if_neg c4, if_neg c8, if_neg c9, if_neg c10, if_neg c11]; done) | simp only [if_neg c1, if_neg c2, if_neg c3, if_neg c4, if_neg c8, if_neg c9, if_neg c10, if_neg c11] | (simp only [if_neg c1, if_neg c2, if_neg c3, if_neg c4, if_neg c8, if_neg c9, if_neg c10, if_neg c11]; rfl)) (by unfold sx_X7_writer; (first | rw [if_neg c1, if_neg c2, if_neg c3, if_neg c4, if_neg c8, if_neg c9, if_neg c10, if_neg c11] | simp only [if_neg c1, if_neg c2, if_neg c3, if_neg c4, if_neg c8, if_neg c9, if_neg c10, if_neg c11]); exact hW)
  · refine lv_iconst (v := (-1)) C.hx C.hb dX7_writer_10 (by decide) ?_
    exact wI C hr dX7_writer_11 hS (by unfold s_X7_writer; first | (rw [if_pos c1]; done) | simp only [if_pos c1] | (simp only [if_pos c1]; rfl)) (by unfold sx_X7_writer; (first | rw [if_pos c1] | simp only [if_pos c1]); exact hW)
def s_X7_level (x : XX) (y : YY) (c : Int32) : Int32 := (if s_X7_within c 0 ((nI (y 20 1)) - 1) = 0 then (-1) else (if (s_X0_bringsStrike x y (tn c)) = 0 then (-4) else (sx_clL x y (x 12 (y 2 (tn c))) ((tn c) + 1)) 41 0))
def sx_X7_level (x : XX) (y : YY) (c : Int32) : XX := (if s_X7_within c 0 ((nI (y 20 1)) - 1) = 0 then x else (if (s_X0_bringsStrike x y (tn c)) = 0 then x else (sx_clL x y (x 12 (y 2 (tn c))) ((tn c) + 1))))
set_option maxRecDepth 100000 in
set_option maxHeartbeats 1000000 in
theorem cC_X7_level (l : Launch) (G : GG) (A : Nat → Prop) (ad : YY) (x : XX) (y : YY) (z : Nat → Int64) (hI : CI y) (hL : CL y) (c : Int32)  : MW l G yX7_level cX7_level 3 (some .int) 5 [.ref (ad 0 0), .int c] (CWd G A ad x y z) (some (.int (s_X7_level x y c))) (CWd G A ad (sx_X7_level x y c) y z) A 0 0 := by
  refine MW.of RX7 rfl (by decide) (Nat.le_of_ble_eq_true rfl) ?_
  intro p_ e_ s_ m_ args_ below_ meth_ c_ ls hargs C hr hnm hW hS hl
  obtain ⟨-, -, -, bP, bC, bG, bL⟩ := id hI
  have hl : lv_has ls 3 [(0, .ref (ad 0 0)), (1, .int c)] := hl
  refine lv_aload_n C.hx C.hb dX7_level_0 rfl (lv_at hl 0 rfl) ?_
  refine lv_iload_n C.hx C.hb dX7_level_1 rfl (lv_at hl 1 rfl) ?_
  by_cases c1 : s_X7_within c 0 ((nI (y 20 1)) - 1) = 0
  · refine kVR (As := [.int c]) (rest := []) (v := .null) C (cC_X7_caseAt_no l G A ad x y z hI c c1) lk_X7_180 (g_recv C (hW.1 0 0 rfl).1 rfl) hW rfl rfl hl (Nat.le_of_ble_eq_true rfl) dX7_level_2 ⟨⟨by decide, by decide⟩, by decide, by decide⟩ ?_
    refine lv_astore_nN (lv' := [(2, .null), (0, .ref (ad 0 0)), (1, .int c)]) C.hx C.hb dX7_level_5 rfl hl (by decide) rfl (fun ls hl => ?_)
    refine lv_aload_nN C.hx C.hb dX7_level_6 rfl (lv_at hl 0 rfl) ?_
    refine lv_ifnonnullN C.hx C.hb dX7_level_7 ?_
    refine lv_iconst (v := (-1)) C.hx C.hb dX7_level_10 (by decide) ?_
    exact wI C hr dX7_level_11 hS (by unfold s_X7_level; first | (rw [if_pos c1]; done) | simp only [if_pos c1] | (simp only [if_pos c1]; rfl)) (by unfold sx_X7_level; (first | rw [if_pos c1] | simp only [if_pos c1]); exact hW)
  · obtain ⟨cN, hcN, rfl⟩ := withinN (n := y 20 1) c1 (by omega)
    have tcN : tn (nI cN) = cN := nI_clamp (by omega)
    refine kVR (As := [.int (nI cN)]) (rest := []) (v := .ref (ad 4 cN)) C (cC_X7_caseAt_yes l G A ad x y z hI cN (by omega)) lk_X7_180 (g_recv C (hW.1 0 0 rfl).1 rfl) hW rfl rfl hl (Nat.le_of_ble_eq_true rfl) dX7_level_2 ⟨⟨by decide, by decide⟩, by decide, by decide⟩ ?_
    refine lv_astore_n (lv' := [(2, .ref (ad 4 cN)), (0, .ref (ad 0 0)), (1, .int (nI cN))]) C.hx C.hb dX7_level_5 rfl hl (by decide) rfl (fun ls hl => ?_)
    refine lv_aload_n C.hx C.hb dX7_level_6 rfl (lv_at hl 0 rfl) ?_
    refine lv_ifnonnull (tgt := 12) C.hx C.hb dX7_level_7 (by decide) ?_
    refine lv_aload_n C.hx C.hb dX7_level_12 rfl (lv_at hl 0 rfl) ?_
    refine kVNR (As := []) (rest := []) (v := .int (s_X0_bringsStrike x y cN)) C (cC_X0_bringsStrike l G A ad x y z hI cN (by omega)) lk_X7_295 (g_recv C (hW.1 4 cN (show cN < y 20 1 by omega)).1 rfl) hW rfl rfl hl (Nat.le_of_ble_eq_true rfl) dX7_level_13 ⟨⟨by decide, by decide⟩, by decide, by decide⟩ ?_
    refine lv_if_ne (tgt := 22) C.hx C.hb dX7_level_16 (by decide) (fun c2 => ?_) (fun c2 => ?_)
    · refine lv_aload_n C.hx C.hb dX7_level_22 rfl (lv_at hl 1 rfl) ?_
      refine lv_aload_n C.hx C.hb dX7_level_23 rfl (lv_at hl 0 rfl) ?_
      refine g_getN (k := 1) (v := .ref (ad 3 (y 2 cN))) C (hW.1 4 cN (show cN < y 20 1 by omega)).1 rfl wu_X0 (by decide) wn_X7_217 rfl rfl dX7_level_24 ?_
      have g3 := (hI.1 cN (by omega)).1
      refine g_getN (k := 1) (v := .int (x 12 (y 2 cN))) C (hW.1 3 (y 2 cN) (show (y 2 cN) < y 20 0 by omega)).1 rfl wu_X5 (by decide) wn_X7_298 rfl rfl dX7_level_27 ?_
      refine lv_aload_n C.hx C.hb dX7_level_30 rfl (lv_at hl 0 rfl) ?_
      refine kVWn (As := [.int (x 12 (y 2 cN)), .ref (ad 4 cN)]) (rest := []) C (cC_X7_climbC l G A ad x y z hI hL (x 12 (y 2 cN)) cN (by omega)) lk_X7_274 (g_recv C (hW.1 0 0 rfl).1 rfl) hW rfl rfl hl (Nat.le_of_ble_eq_true rfl) dX7_level_31 ⟨⟨by decide, by decide⟩, by decide, by decide⟩ hS (fun q h => h) (fun H locs hP hz1 hk1 hS => ?_)
      have hW : CWd G A ad (sx_clL x y (x 12 (y 2 cN)) (cN + 1)) y z H := hP
      refine lv_aload_n C.hx C.hb dX7_level_34 rfl (lv_at hl 1 rfl) ?_
      refine g_get (k := 6) (v := .ref (ad 9 0)) C (hW.1 0 0 rfl).1 rfl wu_X7 (by decide) wf_X7_41 rfl rfl dX7_level_35 ?_
      refine g_getN (k := 5) (v := .int ((sx_clL x y (x 12 (y 2 cN)) (cN + 1)) 41 0)) C (hW.1 9 0 rfl).1 rfl wu_X4 (by decide) wn_X7_301 rfl rfl dX7_level_38 ?_
      exact wI C hr dX7_level_41 hS (by unfold s_X7_level; (try simp only [tcN]); first | (rw [if_neg c1, if_neg c2]; done) | simp only [if_neg c1, if_neg c2] | (simp only [if_neg c1, if_neg c2]; rfl)) (by unfold sx_X7_level; (try simp only [tcN]); (first | rw [if_neg c1, if_neg c2] | simp only [if_neg c1, if_neg c2]); exact hW)
    · refine lv_bipush (v := (-4)) C.hx C.hb dX7_level_19 (by decide) ?_
      exact wI C hr dX7_level_21 hS (by unfold s_X7_level; (try simp only [tcN]); first | (rw [if_neg c1, if_pos c2]; done) | simp only [if_neg c1, if_pos c2] | (simp only [if_neg c1, if_pos c2]; rfl)) (by unfold sx_X7_level; (try simp only [tcN]); (first | rw [if_neg c1, if_pos c2] | simp only [if_neg c1, if_pos c2]); exact hW)
