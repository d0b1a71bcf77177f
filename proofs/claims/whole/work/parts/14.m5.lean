theorem MI.up38 {x : XX} {j : Nat} {v : Int32} (h : MI x) (hj : nV x ≤ j) : MI (up2 x 38 j v) := by
  obtain ⟨a1, a2, a3, a4, a5, a6⟩ := h
  refine ⟨a1, a2, a3, a4, a5, fun u hu => ⟨?_, (a6 u hu).2⟩⟩
  have hu : u < nV x := hu
  rw [up2_eq, pk_un (by omega : u ≠ j)]
  exact (a6 u hu).1
theorem MI.up39 {x : XX} {j : Nat} {v : Int32} (h : MI x) (hj : nV x ≤ j) : MI (up2 x 39 j v) := by
  obtain ⟨a1, a2, a3, a4, a5, a6⟩ := h
  refine ⟨a1, a2, a3, a4, a5, fun u hu => ⟨(a6 u hu).1, ?_⟩⟩
  have hu : u < nV x := hu
  rw [up2_eq, pk_un (by omega : u ≠ j)]
  exact (a6 u hu).2
/-- one vote more -/
def voteX (x : XX) (j c t g w : Int32) : XX := up2 (up2 (up2 (up2 (up2 (up2 x 37 (nV x) j) 38 (nV x) c) 39 (nV x) t) 40 (nV x) g) 41 (nV x) w) 42 0 (x 42 0 + 1)
theorem MI_voteX {x : XX} {cN : Nat} {j t g w : Int32} (h : MI x) (hv : nV x < 8000) (hc : cN < nC x) (ht : t = nI (tn t) ∧ tn t < 2) : MI (voteX x j (nI cN) t g w) := by
  obtain ⟨a1, a2, a3, a4, a5, a6⟩ := h
  have e42 : voteX x j (nI cN) t g w 42 0 = nI (nV x + 1) := by
    show x 42 0 + 1 = _
    rw [a4.1, nI_1]
  have hn : nV (voteX x j (nI cN) t g w) = nV x + 1 := by
    show tn (voteX x j (nI cN) t g w 42 0) = _
    rw [e42]; exact nI_clamp (by omega)
  refine ⟨a1, a2, a3, ⟨by rw [hn]; exact e42, by omega⟩, a5, fun u hu => ?_⟩
  rw [hn] at hu
  have hc2 : tn (nI cN) = cN := nI_clamp (by have := a2.2; omega)
  by_cases q : u = nV x
  · subst q
    have h38 : voteX x j (nI cN) t g w 38 (nV x) = nI cN := pk_us
    have h39 : voteX x j (nI cN) t g w 39 (nV x) = t := pk_us
    rw [h38, h39, hc2]
    exact ⟨⟨rfl, hc⟩, ht⟩
  · have h38 : voteX x j (nI cN) t g w 38 u = x 38 u := pk_un q
    have h39 : voteX x j (nI cN) t g w 39 u = x 39 u := pk_un q
    rw [h38, h39]
    exact a6 u (by omega)
def s_X8_vote (x : Nat → Nat → Int32) (j : Int32) (c : Int32) (guilty : Int32) : Int32 := (if (s_X8_isJudge j) = 0 then (-1) else (if (s_X8_isCase x c) = 0 then (-1) else (if (s_X8_within guilty 0 1) = 0 then (-1) else (if (s_X8_giftsOf x j c) = 0 then (-4) else (if (s_X8_votesOf (voteX (gbF (fun X g => decide (¬ (X 34 g = j ∧ X 35 g = c))) x) j c (s_X8_timeOf (up2 (up2 (gbF (fun X g => decide (¬ (X 34 g = j ∧ X 35 g = c))) x) 37 (nV x) j) 38 (nV x) c) (tn c)) guilty ((gbF (fun X g => decide (¬ (X 34 g = j ∧ X 35 g = c))) x) 32 (tn j))) (tn c)) = ((voteX (gbF (fun X g => decide (¬ (X 34 g = j ∧ X 35 g = c))) x) j c (s_X8_timeOf (up2 (up2 (gbF (fun X g => decide (¬ (X 34 g = j ∧ X 35 g = c))) x) 37 (nV x) j) 38 (nV x) c) (tn c)) guilty ((gbF (fun X g => decide (¬ (X 34 g = j ∧ X 35 g = c))) x) 32 (tn j))) 19 (tn c)) then (sx_X8_settle (voteX (gbF (fun X g => decide (¬ (X 34 g = j ∧ X 35 g = c))) x) j c (s_X8_timeOf (up2 (up2 (gbF (fun X g => decide (¬ (X 34 g = j ∧ X 35 g = c))) x) 37 (nV x) j) 38 (nV x) c) (tn c)) guilty ((gbF (fun X g => decide (¬ (X 34 g = j ∧ X 35 g = c))) x) 32 (tn j))) (tn c)) 15 (tn c) else (voteX (gbF (fun X g => decide (¬ (X 34 g = j ∧ X 35 g = c))) x) j c (s_X8_timeOf (up2 (up2 (gbF (fun X g => decide (¬ (X 34 g = j ∧ X 35 g = c))) x) 37 (nV x) j) 38 (nV x) c) (tn c)) guilty ((gbF (fun X g => decide (¬ (X 34 g = j ∧ X 35 g = c))) x) 32 (tn j))) 15 (tn c))))))
def sx_X8_vote (x : Nat → Nat → Int32) (j : Int32) (c : Int32) (guilty : Int32) : Nat → Nat → Int32 := (if (s_X8_isJudge j) = 0 then x else (if (s_X8_isCase x c) = 0 then x else (if (s_X8_within guilty 0 1) = 0 then x else (if (s_X8_giftsOf x j c) = 0 then x else (if (s_X8_votesOf (voteX (gbF (fun X g => decide (¬ (X 34 g = j ∧ X 35 g = c))) x) j c (s_X8_timeOf (up2 (up2 (gbF (fun X g => decide (¬ (X 34 g = j ∧ X 35 g = c))) x) 37 (nV x) j) 38 (nV x) c) (tn c)) guilty ((gbF (fun X g => decide (¬ (X 34 g = j ∧ X 35 g = c))) x) 32 (tn j))) (tn c)) = ((voteX (gbF (fun X g => decide (¬ (X 34 g = j ∧ X 35 g = c))) x) j c (s_X8_timeOf (up2 (up2 (gbF (fun X g => decide (¬ (X 34 g = j ∧ X 35 g = c))) x) 37 (nV x) j) 38 (nV x) c) (tn c)) guilty ((gbF (fun X g => decide (¬ (X 34 g = j ∧ X 35 g = c))) x) 32 (tn j))) 19 (tn c)) then (sx_X8_settle (voteX (gbF (fun X g => decide (¬ (X 34 g = j ∧ X 35 g = c))) x) j c (s_X8_timeOf (up2 (up2 (gbF (fun X g => decide (¬ (X 34 g = j ∧ X 35 g = c))) x) 37 (nV x) j) 38 (nV x) c) (tn c)) guilty ((gbF (fun X g => decide (¬ (X 34 g = j ∧ X 35 g = c))) x) 32 (tn j))) (tn c)) else (voteX (gbF (fun X g => decide (¬ (X 34 g = j ∧ X 35 g = c))) x) j c (s_X8_timeOf (up2 (up2 (gbF (fun X g => decide (¬ (X 34 g = j ∧ X 35 g = c))) x) 37 (nV x) j) 38 (nV x) c) (tn c)) guilty ((gbF (fun X g => decide (¬ (X 34 g = j ∧ X 35 g = c))) x) 32 (tn j))))))))
set_option maxRecDepth 100000 in
set_option maxHeartbeats 400000 in
theorem cM_vote (l : Launch) (G : GG) (m0 : Nat) (x : Nat → Nat → Int32) (z : Nat → Int64) (hI : MI x) (j : Int32) (c : Int32) (guilty : Int32) (hv8 : nV x < 8000) : MW l G yX8_vote cX8_vote 6 (some .int) 4 [.ref m0, .int j, .int c, .int guilty] (MWd G m0 x z) (some (.int (s_X8_vote x j c guilty))) (MWd G m0 (sx_X8_vote x j c guilty) z) (MA m0) 0 0 := by
  refine MW.of RX8 rfl (by decide) (Nat.le_of_ble_eq_true rfl) ?_
  intro p_ e_ s_ m_ args_ below_ meth_ c_ ls hargs C hr hnm hW hS hl
  obtain ⟨⟨eP, bP⟩, ⟨eC, bC⟩, ⟨eG, bG⟩, ⟨eV, bV⟩, -, -⟩ := id hI
  have hl : lv_has ls 6 [(0, .ref m0), (1, .int j), (2, .int c), (3, .int guilty)] := hl
  refine lv_iload_n C.hx C.hb dX8_vote_0 rfl (lv_at hl 1 rfl) ?_
  refine kSR (As := [.int j]) (rest := []) (v := .int (s_X8_isJudge j)) C (cM_isJudge l G j) lk_X8_147 trivial rfl rfl hl (Nat.le_of_ble_eq_true rfl) dX8_vote_1 ⟨⟨by decide, by decide⟩, by decide, by decide⟩ ?_
  refine lv_if_eq (tgt := 24) C.hx C.hb dX8_vote_4 (by decide) (fun c1 => ?_) (fun c1 => ?_)
  · refine lv_iconst (v := (-1)) C.hx C.hb dX8_vote_24 (by decide) ?_
    exact wI C hr dX8_vote_25 hS (by unfold s_X8_vote; rw [if_pos c1]) (by unfold sx_X8_vote; rw [if_pos c1]; exact hW)
  · obtain ⟨jN, hjN, rfl⟩ := isJudge_nz c1
    have tjN : tn (nI jN) = jN := nI_clamp (by omega)
    refine lv_aload_n C.hx C.hb dX8_vote_7 rfl (lv_at hl 0 rfl) ?_
    refine lv_iload_n C.hx C.hb dX8_vote_8 rfl (lv_at hl 2 rfl) ?_
    refine kVR (As := [.int c]) (rest := []) (v := .int (s_X8_isCase x c)) C (cM_isCase l G m0 x z hI c) lk_X8_184 (g_recv C hW.1 rfl) hW rfl rfl hl (Nat.le_of_ble_eq_true rfl) dX8_vote_9 ⟨⟨by decide, by decide⟩, by decide, by decide⟩ ?_
    refine lv_if_eq (tgt := 24) C.hx C.hb dX8_vote_12 (by decide) (fun c2 => ?_) (fun c2 => ?_)
    · refine lv_iconst (v := (-1)) C.hx C.hb dX8_vote_24 (by decide) ?_
      exact wI C hr dX8_vote_25 hS (by unfold s_X8_vote; (try simp only [tjN]); rw [if_neg c1, if_pos c2]) (by unfold sx_X8_vote; (try simp only [tjN]); rw [if_neg c1, if_pos c2]; exact hW)
    · obtain ⟨cN, hcN, rfl⟩ := isCase_nz hI c2
      have tcN : tn (nI cN) = cN := nI_clamp (by omega)
      refine lv_iload_n C.hx C.hb dX8_vote_15 rfl (lv_at hl 3 rfl) ?_
      refine lv_iconst (v := 0) C.hx C.hb dX8_vote_16 (by decide) ?_
      refine lv_iconst (v := 1) C.hx C.hb dX8_vote_17 (by decide) ?_
      refine kSR (As := [.int guilty, .int 0, .int 1]) (rest := []) (v := .int (s_X8_within guilty 0 1)) C (cM_within l G guilty 0 1) lk_X8_136 trivial rfl rfl hl (Nat.le_of_ble_eq_true rfl) dX8_vote_18 ⟨⟨by decide, by decide⟩, by decide, by decide⟩ ?_
      refine lv_if_ne (tgt := 26) C.hx C.hb dX8_vote_21 (by decide) (fun c3 => ?_) (fun c3 => ?_)
      · refine lv_aload_n C.hx C.hb dX8_vote_26 rfl (lv_at hl 0 rfl) ?_
        refine lv_iload_n C.hx C.hb dX8_vote_27 rfl (lv_at hl 1 rfl) ?_
        refine lv_iload_n C.hx C.hb dX8_vote_28 rfl (lv_at hl 2 rfl) ?_
        refine kVR (As := [.int (nI jN), .int (nI cN)]) (rest := []) (v := .int (s_X8_giftsOf x (nI jN) (nI cN))) C (cM_giftsOf l G m0 x z hI (nI jN) (nI cN)) lk_X8_170 (g_recv C hW.1 rfl) hW rfl rfl hl (Nat.le_of_ble_eq_true rfl) dX8_vote_29 ⟨⟨by decide, by decide⟩, by decide, by decide⟩ ?_
        refine lv_if_ne (tgt := 38) C.hx C.hb dX8_vote_32 (by decide) (fun c4 => ?_) (fun c4 => ?_)
        · refine lv_iconst (v := 0) C.hx C.hb dX8_vote_38 (by decide) ?_
          refine lv_istore (lv' := [(4, .int 0), (0, .ref m0), (1, .int (nI jN)), (2, .int (nI cN)), (3, .int guilty)]) C.hx C.hb dX8_vote_39 hl (by decide) rfl (fun ls hl => ?_)
          refine lv_iconst (v := 0) C.hx C.hb dX8_vote_41 (by decide) ?_
          refine lv_istore (lv' := [(5, .int 0), (4, .int 0), (0, .ref m0), (1, .int (nI jN)), (2, .int (nI cN)), (3, .int guilty)]) C.hx C.hb dX8_vote_42 hl (by decide) rfl (fun ls hl => ?_)
          refine W.loopW (N := nG x) (Inv := fun i ls H locs ce sl => lv_has ls 6 [(5, .int (nI i)), (4, .int (nI (gbS (fun X g => decide (¬ (X 34 g = nI jN ∧ X 35 g = nI cN))) x i).2)), (0, .ref m0), (1, .int (nI jN)), (2, .int (nI cN)), (3, .int guilty)] ∧ MWd G m0 (gbS (fun X g => decide (¬ (X 34 g = nI jN ∧ X 35 g = nI cN))) x i).1 z H ∧ va_S (MA m0) s_.heap H locs ∧ ce = 0 ∧ sl = 0) 44 [] (fun i1 ls H locs ce sl hi1 hq K1 => ?_) (fun ls H locs ce sl hq => ?_) 0 ls _ _ _ _ (Nat.zero_le _) ⟨lv_sub hl [0, 1, 2, 3, 4, 5] rfl, hW, hS, rfl, rfl⟩
          · obtain ⟨hl, hW, hS, rfl, rfl⟩ := hq
            have hn1 := gbS_le (fun X g => decide (¬ (X 34 g = nI jN ∧ X 35 g = nI cN))) x i1
            have eG : (gbS (fun X g => decide (¬ (X 34 g = nI jN ∧ X 35 g = nI cN))) x i1).1 36 0 = nI (nG x) := by rw [gbS_ne (k := 36) (by decide) (by decide)]; exact eG
            refine lv_iload C.hx C.hb dX8_vote_44 (lv_at hl 0 rfl) ?_
            refine lv_aload_n C.hx C.hb dX8_vote_46 rfl (lv_at hl 2 rfl) ?_
            refine g_get (k := 36) (v := .int ((gbS (fun X g => decide (¬ (X 34 g = nI jN ∧ X 35 g = nI cN))) x i1).1 36 0)) C hW.1 rfl wu_X8 (by decide) wf_X8_153 rfl rfl dX8_vote_47 ?_
            refine lv_icmp_ge (tgt := 112) C.hx C.hb dX8_vote_50 (by decide) (fun c5 => ?_) (fun c5 => ?_)
            · exact absurd c5 (lt_nle eG hi1 (by omega))
            · refine lv_aload_n C.hx C.hb dX8_vote_53 rfl (lv_at hl 2 rfl) ?_
              refine g_get (k := 34) (v := .ref (am m0 34)) C hW.1 rfl wu_X8 (by decide) wf_X8_103 rfl rfl dX8_vote_54 ?_
              refine lv_iload C.hx C.hb dX8_vote_57 (lv_at hl 0 rfl) ?_
              refine g_iald (f := (gbS (fun X g => decide (¬ (X 34 g = nI jN ∧ X 35 g = nI cN))) x i1).1 34) (k := i1) C (hW.2.1 34 rfl) rfl (show i1 < 400 by omega) (by decide) dX8_vote_59 ?_
              refine lv_iload_n C.hx C.hb dX8_vote_60 rfl (lv_at hl 3 rfl) ?_
              refine lv_icmp_ne (tgt := 75) C.hx C.hb dX8_vote_61 (by decide) (fun c6 => ?_) (fun c6 => ?_)
              · refine lv_aload_n C.hx C.hb dX8_vote_75 rfl (lv_at hl 2 rfl) ?_
                refine g_get (k := 34) (v := .ref (am m0 34)) C hW.1 rfl wu_X8 (by decide) wf_X8_103 rfl rfl dX8_vote_76 ?_
                refine lv_iload C.hx C.hb dX8_vote_79 (lv_at hl 1 rfl) ?_
                refine lv_aload_n C.hx C.hb dX8_vote_81 rfl (lv_at hl 2 rfl) ?_
                refine g_get (k := 34) (v := .ref (am m0 34)) C hW.1 rfl wu_X8 (by decide) wf_X8_103 rfl rfl dX8_vote_82 ?_
                refine lv_iload C.hx C.hb dX8_vote_85 (lv_at hl 0 rfl) ?_
                refine g_iald (f := (gbS (fun X g => decide (¬ (X 34 g = nI jN ∧ X 35 g = nI cN))) x i1).1 34) (k := i1) C (hW.2.1 34 rfl) rfl (show i1 < 400 by omega) (by decide) dX8_vote_87 ?_
                refine g_iast (f := (gbS (fun X g => decide (¬ (X 34 g = nI jN ∧ X 35 g = nI cN))) x i1).1 34) (k := ((gbS (fun X g => decide (¬ (X 34 g = nI jN ∧ X 35 g = nI cN))) x i1).2)) C hS (hW.2.1 34 rfl) (am_A (Or.inl rfl)) rfl (show (gbS (fun X g => decide (¬ (X 34 g = nI jN ∧ X 35 g = nI cN))) x i1).2 < 400 by omega) (by decide) dX8_vote_88 (fun H locs e1 o1 z1 hS => ?_)
                have hW : MWd G m0 (up2 (gbS (fun X g => decide (¬ (X 34 g = nI jN ∧ X 35 g = nI cN))) x i1).1 34 ((gbS (fun X g => decide (¬ (X 34 g = nI jN ∧ X 35 g = nI cN))) x i1).2) ((gbS (fun X g => decide (¬ (X 34 g = nI jN ∧ X 35 g = nI cN))) x i1).1 34 i1)) z H := MWd.putA 34 hW rfl e1 o1 (mfs_up rfl) (by decide) (by decide)
                refine lv_aload_n C.hx C.hb dX8_vote_89 rfl (lv_at hl 2 rfl) ?_
                refine g_get (k := 35) (v := .ref (am m0 35)) C hW.1 rfl wu_X8 (by decide) wf_X8_106 rfl rfl dX8_vote_90 ?_
                refine lv_iload C.hx C.hb dX8_vote_93 (lv_at hl 1 rfl) ?_
                refine lv_aload_n C.hx C.hb dX8_vote_95 rfl (lv_at hl 2 rfl) ?_
                refine g_get (k := 35) (v := .ref (am m0 35)) C hW.1 rfl wu_X8 (by decide) wf_X8_106 rfl rfl dX8_vote_96 ?_
                refine lv_iload C.hx C.hb dX8_vote_99 (lv_at hl 0 rfl) ?_
                refine g_iald (f := (gbS (fun X g => decide (¬ (X 34 g = nI jN ∧ X 35 g = nI cN))) x i1).1 35) (k := i1) C (hW.2.1 35 rfl) rfl (show i1 < 400 by omega) (by decide) dX8_vote_101 ?_
                refine g_iast (f := (gbS (fun X g => decide (¬ (X 34 g = nI jN ∧ X 35 g = nI cN))) x i1).1 35) (k := ((gbS (fun X g => decide (¬ (X 34 g = nI jN ∧ X 35 g = nI cN))) x i1).2)) C hS (hW.2.1 35 rfl) (am_A (Or.inl rfl)) rfl (show (gbS (fun X g => decide (¬ (X 34 g = nI jN ∧ X 35 g = nI cN))) x i1).2 < 400 by omega) (by decide) dX8_vote_102 (fun H locs e1 o1 z1 hS => ?_)
                have hW : MWd G m0 (up2 (up2 (gbS (fun X g => decide (¬ (X 34 g = nI jN ∧ X 35 g = nI cN))) x i1).1 34 ((gbS (fun X g => decide (¬ (X 34 g = nI jN ∧ X 35 g = nI cN))) x i1).2) ((gbS (fun X g => decide (¬ (X 34 g = nI jN ∧ X 35 g = nI cN))) x i1).1 34 i1)) 35 ((gbS (fun X g => decide (¬ (X 34 g = nI jN ∧ X 35 g = nI cN))) x i1).2) ((gbS (fun X g => decide (¬ (X 34 g = nI jN ∧ X 35 g = nI cN))) x i1).1 35 i1)) z H := MWd.putA 35 hW rfl e1 o1 (mfs_up rfl) (by decide) (by decide)
                refine lv_iinc (v := (nI (gbS (fun X g => decide (¬ (X 34 g = nI jN ∧ X 35 g = nI cN))) x i1).2) + 1) (lv' := [(4, .int ((nI (gbS (fun X g => decide (¬ (X 34 g = nI jN ∧ X 35 g = nI cN))) x i1).2) + 1)), (5, .int (nI i1)), (0, .ref m0), (1, .int (nI jN)), (2, .int (nI cN)), (3, .int guilty)]) C.hx C.hb dX8_vote_103 hl (k := 1) rfl rfl (by decide) rfl (fun ls hl => ?_)
                refine lv_iinc (v := (nI i1) + 1) (lv' := [(5, .int ((nI i1) + 1)), (4, .int ((nI (gbS (fun X g => decide (¬ (X 34 g = nI jN ∧ X 35 g = nI cN))) x i1).2) + 1)), (0, .ref m0), (1, .int (nI jN)), (2, .int (nI cN)), (3, .int guilty)]) C.hx C.hb dX8_vote_106 hl (k := 1) rfl rfl (by decide) rfl (fun ls hl => ?_)
                refine lv_goto (tgt := 44) C.hx C.hb dX8_vote_109 (by decide) ?_
                have hq1 : (fun X g => decide (¬ (X 34 g = nI jN ∧ X 35 g = nI cN))) (gbS (fun X g => decide (¬ (X 34 g = nI jN ∧ X 35 g = nI cN))) x i1).1 i1 = true := decide_eq_true (fun k => c6 k.1)
                rw [nI_1 i1] at hl
                rw [nI_1 (gbS (fun X g => decide (¬ (X 34 g = nI jN ∧ X 35 g = nI cN))) x i1).2] at hl
                exact K1 _ _ _ _ _ ⟨by rw [gbS_t hq1]; exact lv_sub hl [0, 1, 2, 3, 4, 5] rfl, by rw [gbS_t hq1]; exact hW, hS, rfl, rfl⟩
              · refine lv_aload_n C.hx C.hb dX8_vote_64 rfl (lv_at hl 2 rfl) ?_
                refine g_get (k := 35) (v := .ref (am m0 35)) C hW.1 rfl wu_X8 (by decide) wf_X8_106 rfl rfl dX8_vote_65 ?_
                refine lv_iload C.hx C.hb dX8_vote_68 (lv_at hl 0 rfl) ?_
                refine g_iald (f := (gbS (fun X g => decide (¬ (X 34 g = nI jN ∧ X 35 g = nI cN))) x i1).1 35) (k := i1) C (hW.2.1 35 rfl) rfl (show i1 < 400 by omega) (by decide) dX8_vote_70 ?_
                refine lv_iload_n C.hx C.hb dX8_vote_71 rfl (lv_at hl 4 rfl) ?_
                refine lv_icmp_eq (tgt := 106) C.hx C.hb dX8_vote_72 (by decide) (fun c7 => ?_) (fun c7 => ?_)
                · refine lv_iinc (v := (nI i1) + 1) (lv' := [(5, .int ((nI i1) + 1)), (4, .int (nI (gbS (fun X g => decide (¬ (X 34 g = nI jN ∧ X 35 g = nI cN))) x i1).2)), (0, .ref m0), (1, .int (nI jN)), (2, .int (nI cN)), (3, .int guilty)]) C.hx C.hb dX8_vote_106 hl (k := 0) rfl rfl (by decide) rfl (fun ls hl => ?_)
                  refine lv_goto (tgt := 44) C.hx C.hb dX8_vote_109 (by decide) ?_
                  have hq1 : (fun X g => decide (¬ (X 34 g = nI jN ∧ X 35 g = nI cN))) (gbS (fun X g => decide (¬ (X 34 g = nI jN ∧ X 35 g = nI cN))) x i1).1 i1 = false := decide_eq_false (fun k => k ⟨c6, c7⟩)
                  rw [nI_1 i1] at hl
                  exact K1 _ _ _ _ _ ⟨by rw [gbS_f hq1]; exact lv_sub hl [0, 1, 2, 3, 4, 5] rfl, by rw [gbS_f hq1]; exact hW, hS, rfl, rfl⟩
                · refine lv_aload_n C.hx C.hb dX8_vote_75 rfl (lv_at hl 2 rfl) ?_
                  refine g_get (k := 34) (v := .ref (am m0 34)) C hW.1 rfl wu_X8 (by decide) wf_X8_103 rfl rfl dX8_vote_76 ?_
                  refine lv_iload C.hx C.hb dX8_vote_79 (lv_at hl 1 rfl) ?_
                  refine lv_aload_n C.hx C.hb dX8_vote_81 rfl (lv_at hl 2 rfl) ?_
                  refine g_get (k := 34) (v := .ref (am m0 34)) C hW.1 rfl wu_X8 (by decide) wf_X8_103 rfl rfl dX8_vote_82 ?_
                  refine lv_iload C.hx C.hb dX8_vote_85 (lv_at hl 0 rfl) ?_
                  refine g_iald (f := (gbS (fun X g => decide (¬ (X 34 g = nI jN ∧ X 35 g = nI cN))) x i1).1 34) (k := i1) C (hW.2.1 34 rfl) rfl (show i1 < 400 by omega) (by decide) dX8_vote_87 ?_
                  refine g_iast (f := (gbS (fun X g => decide (¬ (X 34 g = nI jN ∧ X 35 g = nI cN))) x i1).1 34) (k := ((gbS (fun X g => decide (¬ (X 34 g = nI jN ∧ X 35 g = nI cN))) x i1).2)) C hS (hW.2.1 34 rfl) (am_A (Or.inl rfl)) rfl (show (gbS (fun X g => decide (¬ (X 34 g = nI jN ∧ X 35 g = nI cN))) x i1).2 < 400 by omega) (by decide) dX8_vote_88 (fun H locs e1 o1 z1 hS => ?_)
                  have hW : MWd G m0 (up2 (gbS (fun X g => decide (¬ (X 34 g = nI jN ∧ X 35 g = nI cN))) x i1).1 34 ((gbS (fun X g => decide (¬ (X 34 g = nI jN ∧ X 35 g = nI cN))) x i1).2) ((gbS (fun X g => decide (¬ (X 34 g = nI jN ∧ X 35 g = nI cN))) x i1).1 34 i1)) z H := MWd.putA 34 hW rfl e1 o1 (mfs_up rfl) (by decide) (by decide)
                  refine lv_aload_n C.hx C.hb dX8_vote_89 rfl (lv_at hl 2 rfl) ?_
                  refine g_get (k := 35) (v := .ref (am m0 35)) C hW.1 rfl wu_X8 (by decide) wf_X8_106 rfl rfl dX8_vote_90 ?_
                  refine lv_iload C.hx C.hb dX8_vote_93 (lv_at hl 1 rfl) ?_
                  refine lv_aload_n C.hx C.hb dX8_vote_95 rfl (lv_at hl 2 rfl) ?_
                  refine g_get (k := 35) (v := .ref (am m0 35)) C hW.1 rfl wu_X8 (by decide) wf_X8_106 rfl rfl dX8_vote_96 ?_
                  refine lv_iload C.hx C.hb dX8_vote_99 (lv_at hl 0 rfl) ?_
                  refine g_iald (f := (gbS (fun X g => decide (¬ (X 34 g = nI jN ∧ X 35 g = nI cN))) x i1).1 35) (k := i1) C (hW.2.1 35 rfl) rfl (show i1 < 400 by omega) (by decide) dX8_vote_101 ?_
                  refine g_iast (f := (gbS (fun X g => decide (¬ (X 34 g = nI jN ∧ X 35 g = nI cN))) x i1).1 35) (k := ((gbS (fun X g => decide (¬ (X 34 g = nI jN ∧ X 35 g = nI cN))) x i1).2)) C hS (hW.2.1 35 rfl) (am_A (Or.inl rfl)) rfl (show (gbS (fun X g => decide (¬ (X 34 g = nI jN ∧ X 35 g = nI cN))) x i1).2 < 400 by omega) (by decide) dX8_vote_102 (fun H locs e1 o1 z1 hS => ?_)
                  have hW : MWd G m0 (up2 (up2 (gbS (fun X g => decide (¬ (X 34 g = nI jN ∧ X 35 g = nI cN))) x i1).1 34 ((gbS (fun X g => decide (¬ (X 34 g = nI jN ∧ X 35 g = nI cN))) x i1).2) ((gbS (fun X g => decide (¬ (X 34 g = nI jN ∧ X 35 g = nI cN))) x i1).1 34 i1)) 35 ((gbS (fun X g => decide (¬ (X 34 g = nI jN ∧ X 35 g = nI cN))) x i1).2) ((gbS (fun X g => decide (¬ (X 34 g = nI jN ∧ X 35 g = nI cN))) x i1).1 35 i1)) z H := MWd.putA 35 hW rfl e1 o1 (mfs_up rfl) (by decide) (by decide)
                  refine lv_iinc (v := (nI (gbS (fun X g => decide (¬ (X 34 g = nI jN ∧ X 35 g = nI cN))) x i1).2) + 1) (lv' := [(4, .int ((nI (gbS (fun X g => decide (¬ (X 34 g = nI jN ∧ X 35 g = nI cN))) x i1).2) + 1)), (5, .int (nI i1)), (0, .ref m0), (1, .int (nI jN)), (2, .int (nI cN)), (3, .int guilty)]) C.hx C.hb dX8_vote_103 hl (k := 1) rfl rfl (by decide) rfl (fun ls hl => ?_)
                  refine lv_iinc (v := (nI i1) + 1) (lv' := [(5, .int ((nI i1) + 1)), (4, .int ((nI (gbS (fun X g => decide (¬ (X 34 g = nI jN ∧ X 35 g = nI cN))) x i1).2) + 1)), (0, .ref m0), (1, .int (nI jN)), (2, .int (nI cN)), (3, .int guilty)]) C.hx C.hb dX8_vote_106 hl (k := 1) rfl rfl (by decide) rfl (fun ls hl => ?_)
                  refine lv_goto (tgt := 44) C.hx C.hb dX8_vote_109 (by decide) ?_
                  have hq1 : (fun X g => decide (¬ (X 34 g = nI jN ∧ X 35 g = nI cN))) (gbS (fun X g => decide (¬ (X 34 g = nI jN ∧ X 35 g = nI cN))) x i1).1 i1 = true := decide_eq_true (fun k => c7 k.2)
                  rw [nI_1 i1] at hl
                  rw [nI_1 (gbS (fun X g => decide (¬ (X 34 g = nI jN ∧ X 35 g = nI cN))) x i1).2] at hl
                  exact K1 _ _ _ _ _ ⟨by rw [gbS_t hq1]; exact lv_sub hl [0, 1, 2, 3, 4, 5] rfl, by rw [gbS_t hq1]; exact hW, hS, rfl, rfl⟩
          · obtain ⟨hl, hW, hS, rfl, rfl⟩ := hq
            have hn1 := gbS_le (fun X g => decide (¬ (X 34 g = nI jN ∧ X 35 g = nI cN))) x (nG x)
            have eG : (gbS (fun X g => decide (¬ (X 34 g = nI jN ∧ X 35 g = nI cN))) x (nG x)).1 36 0 = nI (nG x) := by rw [gbS_ne (k := 36) (by decide) (by decide)]; exact eG
            have eV : (gbS (fun X g => decide (¬ (X 34 g = nI jN ∧ X 35 g = nI cN))) x (nG x)).1 42 0 = nI (nV x) := by rw [gbS_ne (k := 42) (by decide) (by decide)]; exact eV
            refine lv_iload C.hx C.hb dX8_vote_44 (lv_at hl 0 rfl) ?_
            refine lv_aload_n C.hx C.hb dX8_vote_46 rfl (lv_at hl 2 rfl) ?_
            refine g_get (k := 36) (v := .int ((gbS (fun X g => decide (¬ (X 34 g = nI jN ∧ X 35 g = nI cN))) x (nG x)).1 36 0)) C hW.1 rfl wu_X8 (by decide) wf_X8_153 rfl rfl dX8_vote_47 ?_
            refine lv_icmp_ge (tgt := 112) C.hx C.hb dX8_vote_50 (by decide) (fun c8 => ?_) (fun c8 => ?_)
            · refine lv_aload_n C.hx C.hb dX8_vote_112 rfl (lv_at hl 2 rfl) ?_
              refine lv_iload C.hx C.hb dX8_vote_113 (lv_at hl 1 rfl) ?_
              refine g_put (k := 36) tyX8 C hS hW.1 MA_0 rfl wu_X8 tyX8_ok nmX8 (by decide) wf_X8_153 rfl rfl rfl rfl rfl (Nat.le_of_ble_eq_true rfl) dX8_vote_115 (fun H locs e1 o1 z1 hS => ?_)
              have hW : MWd G m0 (up2 (gbS (fun X g => decide (¬ (X 34 g = nI jN ∧ X 35 g = nI cN))) x (nG x)).1 36 0 (nI (gbS (fun X g => decide (¬ (X 34 g = nI jN ∧ X 35 g = nI cN))) x (nG x)).2)) z H := MWd.putS 36 hW e1 o1 mset_36 rfl (by decide)
              have hW : MWd G m0 (gbF (fun X g => decide (¬ (X 34 g = nI jN ∧ X 35 g = nI cN))) x) z H := hW
              have hI2 : MI (gbF (fun X g => decide (¬ (X 34 g = nI jN ∧ X 35 g = nI cN))) x) := MI_gbF hI
              have enC : nC (gbF (fun X g => decide (¬ (X 34 g = nI jN ∧ X 35 g = nI cN))) x) = nC x := by show tn ((gbF (fun X g => decide (¬ (X 34 g = nI jN ∧ X 35 g = nI cN))) x) 27 0) = _; rw [gbF_ne (by decide) (by decide) (by decide)]
              have eV : (gbF (fun X g => decide (¬ (X 34 g = nI jN ∧ X 35 g = nI cN))) x) 42 0 = nI (nV x) := eV
              have enV : nV (gbF (fun X g => decide (¬ (X 34 g = nI jN ∧ X 35 g = nI cN))) x) = nV x := by show tn ((gbF (fun X g => decide (¬ (X 34 g = nI jN ∧ X 35 g = nI cN))) x) 42 0) = _; rw [eV]; exact nI_clamp (by omega)
              refine lv_aload_n C.hx C.hb dX8_vote_118 rfl (lv_at hl 2 rfl) ?_
              refine g_get (k := 37) (v := .ref (am m0 37)) C hW.1 rfl wu_X8 (by decide) wf_X8_109 rfl rfl dX8_vote_119 ?_
              refine lv_aload_n C.hx C.hb dX8_vote_122 rfl (lv_at hl 2 rfl) ?_
              refine g_get (k := 42) (v := .int ((gbF (fun X g => decide (¬ (X 34 g = nI jN ∧ X 35 g = nI cN))) x) 42 0)) C hW.1 rfl wu_X8 (by decide) wf_X8_160 rfl rfl dX8_vote_123 ?_
              refine lv_iload_n C.hx C.hb dX8_vote_126 rfl (lv_at hl 3 rfl) ?_
              refine g_iast (f := (gbF (fun X g => decide (¬ (X 34 g = nI jN ∧ X 35 g = nI cN))) x) 37) (k := (nV x)) C hS (hW.2.1 37 rfl) (am_A (Or.inl rfl)) eV (show nV x < 8000 by omega) (by decide) dX8_vote_127 (fun H locs e1 o1 z1 hS => ?_)
              have hW : MWd G m0 (up2 (gbF (fun X g => decide (¬ (X 34 g = nI jN ∧ X 35 g = nI cN))) x) 37 (nV x) (nI jN)) z H := MWd.putA 37 hW rfl e1 o1 (mfs_up rfl) (by decide) (by decide)
              refine lv_aload_n C.hx C.hb dX8_vote_128 rfl (lv_at hl 2 rfl) ?_
              refine g_get (k := 38) (v := .ref (am m0 38)) C hW.1 rfl wu_X8 (by decide) wf_X8_112 rfl rfl dX8_vote_129 ?_
              refine lv_aload_n C.hx C.hb dX8_vote_132 rfl (lv_at hl 2 rfl) ?_
              refine g_get (k := 42) (v := .int ((gbF (fun X g => decide (¬ (X 34 g = nI jN ∧ X 35 g = nI cN))) x) 42 0)) C hW.1 rfl wu_X8 (by decide) wf_X8_160 rfl rfl dX8_vote_133 ?_
              refine lv_iload_n C.hx C.hb dX8_vote_136 rfl (lv_at hl 4 rfl) ?_
              refine g_iast (f := (gbF (fun X g => decide (¬ (X 34 g = nI jN ∧ X 35 g = nI cN))) x) 38) (k := (nV x)) C hS (hW.2.1 38 rfl) (am_A (Or.inl rfl)) eV (show nV x < 8000 by omega) (by decide) dX8_vote_137 (fun H locs e1 o1 z1 hS => ?_)
              have hW : MWd G m0 (up2 (up2 (gbF (fun X g => decide (¬ (X 34 g = nI jN ∧ X 35 g = nI cN))) x) 37 (nV x) (nI jN)) 38 (nV x) (nI cN)) z H := MWd.putA 38 hW rfl e1 o1 (mfs_up rfl) (by decide) (by decide)
              refine lv_aload_n C.hx C.hb dX8_vote_138 rfl (lv_at hl 2 rfl) ?_
              refine g_get (k := 39) (v := .ref (am m0 39)) C hW.1 rfl wu_X8 (by decide) wf_X8_115 rfl rfl dX8_vote_139 ?_
              refine lv_aload_n C.hx C.hb dX8_vote_142 rfl (lv_at hl 2 rfl) ?_
              refine g_get (k := 42) (v := .int ((gbF (fun X g => decide (¬ (X 34 g = nI jN ∧ X 35 g = nI cN))) x) 42 0)) C hW.1 rfl wu_X8 (by decide) wf_X8_160 rfl rfl dX8_vote_143 ?_
              refine lv_aload_n C.hx C.hb dX8_vote_146 rfl (lv_at hl 2 rfl) ?_
              refine lv_iload_n C.hx C.hb dX8_vote_147 rfl (lv_at hl 4 rfl) ?_
              refine kVR (As := [.int (nI cN)]) (rest := [.int ((gbF (fun X g => decide (¬ (X 34 g = nI jN ∧ X 35 g = nI cN))) x) 42 0), .ref (am m0 39)]) (v := .int (s_X8_timeOf (up2 (up2 (gbF (fun X g => decide (¬ (X 34 g = nI jN ∧ X 35 g = nI cN))) x) 37 (nV x) (nI jN)) 38 (nV x) (nI cN)) cN)) C (cM_timeOf l G m0 (up2 (up2 (gbF (fun X g => decide (¬ (X 34 g = nI jN ∧ X 35 g = nI cN))) x) 37 (nV x) (nI jN)) 38 (nV x) (nI cN)) z (MI.up38 (MI.up hI2 rfl) (show nV (gbF (fun X g => decide (¬ (X 34 g = nI jN ∧ X 35 g = nI cN))) x) ≤ nV x by omega)) cN (show cN < nC (gbF (fun X g => decide (¬ (X 34 g = nI jN ∧ X 35 g = nI cN))) x) by omega)) lk_X8_163 (g_recv C hW.1 rfl) hW rfl rfl hl (Nat.le_of_ble_eq_true rfl) dX8_vote_148 ⟨⟨by decide, by decide⟩, by decide, by decide⟩ ?_
              have f8 := (timeOf_ix (up2 (up2 (gbF (fun X g => decide (¬ (X 34 g = nI jN ∧ X 35 g = nI cN))) x) 37 (nV x) (nI jN)) 38 (nV x) (nI cN)) cN).2
              refine g_iast (f := (gbF (fun X g => decide (¬ (X 34 g = nI jN ∧ X 35 g = nI cN))) x) 39) (k := (nV x)) C hS (hW.2.1 39 rfl) (am_A (Or.inl rfl)) eV (show nV x < 8000 by omega) (by decide) dX8_vote_151 (fun H locs e1 o1 z1 hS => ?_)
              have hW : MWd G m0 (up2 (up2 (up2 (gbF (fun X g => decide (¬ (X 34 g = nI jN ∧ X 35 g = nI cN))) x) 37 (nV x) (nI jN)) 38 (nV x) (nI cN)) 39 (nV x) (s_X8_timeOf (up2 (up2 (gbF (fun X g => decide (¬ (X 34 g = nI jN ∧ X 35 g = nI cN))) x) 37 (nV x) (nI jN)) 38 (nV x) (nI cN)) cN)) z H := MWd.putA 39 hW rfl e1 o1 (mfs_up rfl) (by decide) (by decide)
              refine lv_aload_n C.hx C.hb dX8_vote_152 rfl (lv_at hl 2 rfl) ?_
              refine g_get (k := 40) (v := .ref (am m0 40)) C hW.1 rfl wu_X8 (by decide) wf_X8_118 rfl rfl dX8_vote_153 ?_
              refine lv_aload_n C.hx C.hb dX8_vote_156 rfl (lv_at hl 2 rfl) ?_
              refine g_get (k := 42) (v := .int ((gbF (fun X g => decide (¬ (X 34 g = nI jN ∧ X 35 g = nI cN))) x) 42 0)) C hW.1 rfl wu_X8 (by decide) wf_X8_160 rfl rfl dX8_vote_157 ?_
              refine lv_iload_n C.hx C.hb dX8_vote_160 rfl (lv_at hl 5 rfl) ?_
              refine g_iast (f := (gbF (fun X g => decide (¬ (X 34 g = nI jN ∧ X 35 g = nI cN))) x) 40) (k := (nV x)) C hS (hW.2.1 40 rfl) (am_A (Or.inl rfl)) eV (show nV x < 8000 by omega) (by decide) dX8_vote_161 (fun H locs e1 o1 z1 hS => ?_)
              have hW : MWd G m0 (up2 (up2 (up2 (up2 (gbF (fun X g => decide (¬ (X 34 g = nI jN ∧ X 35 g = nI cN))) x) 37 (nV x) (nI jN)) 38 (nV x) (nI cN)) 39 (nV x) (s_X8_timeOf (up2 (up2 (gbF (fun X g => decide (¬ (X 34 g = nI jN ∧ X 35 g = nI cN))) x) 37 (nV x) (nI jN)) 38 (nV x) (nI cN)) cN)) 40 (nV x) guilty) z H := MWd.putA 40 hW rfl e1 o1 (mfs_up rfl) (by decide) (by decide)
              refine lv_aload_n C.hx C.hb dX8_vote_162 rfl (lv_at hl 2 rfl) ?_
              refine g_get (k := 41) (v := .ref (am m0 41)) C hW.1 rfl wu_X8 (by decide) wf_X8_121 rfl rfl dX8_vote_163 ?_
              refine lv_aload_n C.hx C.hb dX8_vote_166 rfl (lv_at hl 2 rfl) ?_
              refine g_get (k := 42) (v := .int ((gbF (fun X g => decide (¬ (X 34 g = nI jN ∧ X 35 g = nI cN))) x) 42 0)) C hW.1 rfl wu_X8 (by decide) wf_X8_160 rfl rfl dX8_vote_167 ?_
              refine lv_aload_n C.hx C.hb dX8_vote_170 rfl (lv_at hl 2 rfl) ?_
              refine g_get (k := 32) (v := .ref (am m0 32)) C hW.1 rfl wu_X8 (by decide) wf_X8_96 rfl rfl dX8_vote_171 ?_
              refine lv_iload_n C.hx C.hb dX8_vote_174 rfl (lv_at hl 3 rfl) ?_
              refine g_iald (f := (gbF (fun X g => decide (¬ (X 34 g = nI jN ∧ X 35 g = nI cN))) x) 32) (k := jN) C (hW.2.1 32 rfl) rfl (show jN < 20 by omega) (by decide) dX8_vote_175 ?_
              refine g_iast (f := (gbF (fun X g => decide (¬ (X 34 g = nI jN ∧ X 35 g = nI cN))) x) 41) (k := (nV x)) C hS (hW.2.1 41 rfl) (am_A (Or.inl rfl)) eV (show nV x < 8000 by omega) (by decide) dX8_vote_176 (fun H locs e1 o1 z1 hS => ?_)
              have hW : MWd G m0 (up2 (up2 (up2 (up2 (up2 (gbF (fun X g => decide (¬ (X 34 g = nI jN ∧ X 35 g = nI cN))) x) 37 (nV x) (nI jN)) 38 (nV x) (nI cN)) 39 (nV x) (s_X8_timeOf (up2 (up2 (gbF (fun X g => decide (¬ (X 34 g = nI jN ∧ X 35 g = nI cN))) x) 37 (nV x) (nI jN)) 38 (nV x) (nI cN)) cN)) 40 (nV x) guilty) 41 (nV x) ((gbF (fun X g => decide (¬ (X 34 g = nI jN ∧ X 35 g = nI cN))) x) 32 jN)) z H := MWd.putA 41 hW rfl e1 o1 (mfs_up rfl) (by decide) (by decide)
              refine lv_aload_n C.hx C.hb dX8_vote_177 rfl (lv_at hl 2 rfl) ?_
              refine lv_dup C.hx C.hb dX8_vote_178 rfl ?_
              refine g_get (k := 42) (v := .int ((gbF (fun X g => decide (¬ (X 34 g = nI jN ∧ X 35 g = nI cN))) x) 42 0)) C hW.1 rfl wu_X8 (by decide) wf_X8_160 rfl rfl dX8_vote_179 ?_
              refine lv_iconst (v := 1) C.hx C.hb dX8_vote_182 (by decide) ?_
              refine lv_iadd C.hx C.hb dX8_vote_183 ?_
              refine g_put (k := 42) tyX8 C hS hW.1 MA_0 rfl wu_X8 tyX8_ok nmX8 (by decide) wf_X8_160 rfl rfl rfl rfl rfl (Nat.le_of_ble_eq_true rfl) dX8_vote_184 (fun H locs e1 o1 z1 hS => ?_)
              have hW : MWd G m0 (up2 (up2 (up2 (up2 (up2 (up2 (gbF (fun X g => decide (¬ (X 34 g = nI jN ∧ X 35 g = nI cN))) x) 37 (nV x) (nI jN)) 38 (nV x) (nI cN)) 39 (nV x) (s_X8_timeOf (up2 (up2 (gbF (fun X g => decide (¬ (X 34 g = nI jN ∧ X 35 g = nI cN))) x) 37 (nV x) (nI jN)) 38 (nV x) (nI cN)) cN)) 40 (nV x) guilty) 41 (nV x) ((gbF (fun X g => decide (¬ (X 34 g = nI jN ∧ X 35 g = nI cN))) x) 32 jN)) 42 0 (((gbF (fun X g => decide (¬ (X 34 g = nI jN ∧ X 35 g = nI cN))) x) 42 0) + 1)) z H := MWd.putS 42 hW e1 o1 mset_42 rfl (by decide)
              have hX : (voteX (gbF (fun X g => decide (¬ (X 34 g = nI jN ∧ X 35 g = nI cN))) x) (nI jN) (nI cN) (s_X8_timeOf (up2 (up2 (gbF (fun X g => decide (¬ (X 34 g = nI jN ∧ X 35 g = nI cN))) x) 37 (nV x) (nI jN)) 38 (nV x) (nI cN)) cN) guilty ((gbF (fun X g => decide (¬ (X 34 g = nI jN ∧ X 35 g = nI cN))) x) 32 jN)) = (up2 (up2 (up2 (up2 (up2 (up2 (gbF (fun X g => decide (¬ (X 34 g = nI jN ∧ X 35 g = nI cN))) x) 37 (nV x) (nI jN)) 38 (nV x) (nI cN)) 39 (nV x) (s_X8_timeOf (up2 (up2 (gbF (fun X g => decide (¬ (X 34 g = nI jN ∧ X 35 g = nI cN))) x) 37 (nV x) (nI jN)) 38 (nV x) (nI cN)) cN)) 40 (nV x) guilty) 41 (nV x) ((gbF (fun X g => decide (¬ (X 34 g = nI jN ∧ X 35 g = nI cN))) x) 32 jN)) 42 0 (((gbF (fun X g => decide (¬ (X 34 g = nI jN ∧ X 35 g = nI cN))) x) 42 0) + 1)) := by unfold voteX; rw [enV]
              have hW : MWd G m0 (voteX (gbF (fun X g => decide (¬ (X 34 g = nI jN ∧ X 35 g = nI cN))) x) (nI jN) (nI cN) (s_X8_timeOf (up2 (up2 (gbF (fun X g => decide (¬ (X 34 g = nI jN ∧ X 35 g = nI cN))) x) 37 (nV x) (nI jN)) 38 (nV x) (nI cN)) cN) guilty ((gbF (fun X g => decide (¬ (X 34 g = nI jN ∧ X 35 g = nI cN))) x) 32 jN)) z H := by rw [hX]; exact hW
              have hI3 : MI (voteX (gbF (fun X g => decide (¬ (X 34 g = nI jN ∧ X 35 g = nI cN))) x) (nI jN) (nI cN) (s_X8_timeOf (up2 (up2 (gbF (fun X g => decide (¬ (X 34 g = nI jN ∧ X 35 g = nI cN))) x) 37 (nV x) (nI jN)) 38 (nV x) (nI cN)) cN) guilty ((gbF (fun X g => decide (¬ (X 34 g = nI jN ∧ X 35 g = nI cN))) x) 32 jN)) := MI_voteX hI2 (by omega) (by omega) (timeOf_ix _ _)
              have enC3 : nC (voteX (gbF (fun X g => decide (¬ (X 34 g = nI jN ∧ X 35 g = nI cN))) x) (nI jN) (nI cN) (s_X8_timeOf (up2 (up2 (gbF (fun X g => decide (¬ (X 34 g = nI jN ∧ X 35 g = nI cN))) x) 37 (nV x) (nI jN)) 38 (nV x) (nI cN)) cN) guilty ((gbF (fun X g => decide (¬ (X 34 g = nI jN ∧ X 35 g = nI cN))) x) 32 jN)) = nC (gbF (fun X g => decide (¬ (X 34 g = nI jN ∧ X 35 g = nI cN))) x) := rfl
              refine lv_aload_n C.hx C.hb dX8_vote_187 rfl (lv_at hl 2 rfl) ?_
              refine lv_iload_n C.hx C.hb dX8_vote_188 rfl (lv_at hl 4 rfl) ?_
              refine kVR (As := [.int (nI cN)]) (rest := []) (v := .int (s_X8_votesOf (voteX (gbF (fun X g => decide (¬ (X 34 g = nI jN ∧ X 35 g = nI cN))) x) (nI jN) (nI cN) (s_X8_timeOf (up2 (up2 (gbF (fun X g => decide (¬ (X 34 g = nI jN ∧ X 35 g = nI cN))) x) 37 (nV x) (nI jN)) 38 (nV x) (nI cN)) cN) guilty ((gbF (fun X g => decide (¬ (X 34 g = nI jN ∧ X 35 g = nI cN))) x) 32 jN)) cN)) C (cM_votesOf l G m0 (voteX (gbF (fun X g => decide (¬ (X 34 g = nI jN ∧ X 35 g = nI cN))) x) (nI jN) (nI cN) (s_X8_timeOf (up2 (up2 (gbF (fun X g => decide (¬ (X 34 g = nI jN ∧ X 35 g = nI cN))) x) 37 (nV x) (nI jN)) 38 (nV x) (nI cN)) cN) guilty ((gbF (fun X g => decide (¬ (X 34 g = nI jN ∧ X 35 g = nI cN))) x) 32 jN)) z hI3 cN (show cN < nC (voteX (gbF (fun X g => decide (¬ (X 34 g = nI jN ∧ X 35 g = nI cN))) x) (nI jN) (nI cN) (s_X8_timeOf (up2 (up2 (gbF (fun X g => decide (¬ (X 34 g = nI jN ∧ X 35 g = nI cN))) x) 37 (nV x) (nI jN)) 38 (nV x) (nI cN)) cN) guilty ((gbF (fun X g => decide (¬ (X 34 g = nI jN ∧ X 35 g = nI cN))) x) 32 jN)) by omega)) lk_X8_174 (g_recv C hW.1 rfl) hW rfl rfl hl (Nat.le_of_ble_eq_true rfl) dX8_vote_189 ⟨⟨by decide, by decide⟩, by decide, by decide⟩ ?_
              refine lv_aload_n C.hx C.hb dX8_vote_192 rfl (lv_at hl 2 rfl) ?_
              refine g_get (k := 19) (v := .ref (am m0 19)) C hW.1 rfl wu_X8 (by decide) wf_X8_62 rfl rfl dX8_vote_193 ?_
              refine lv_iload_n C.hx C.hb dX8_vote_196 rfl (lv_at hl 4 rfl) ?_
              refine g_iald (f := (voteX (gbF (fun X g => decide (¬ (X 34 g = nI jN ∧ X 35 g = nI cN))) x) (nI jN) (nI cN) (s_X8_timeOf (up2 (up2 (gbF (fun X g => decide (¬ (X 34 g = nI jN ∧ X 35 g = nI cN))) x) 37 (nV x) (nI jN)) 38 (nV x) (nI cN)) cN) guilty ((gbF (fun X g => decide (¬ (X 34 g = nI jN ∧ X 35 g = nI cN))) x) 32 jN)) 19) (k := cN) C (hW.2.1 19 rfl) rfl (show cN < 400 by omega) (by decide) dX8_vote_197 ?_
              refine lv_icmp_ne (tgt := 206) C.hx C.hb dX8_vote_198 (by decide) (fun c10 => ?_) (fun c10 => ?_)
              · refine lv_aload_n C.hx C.hb dX8_vote_206 rfl (lv_at hl 2 rfl) ?_
                refine g_get (k := 15) (v := .ref (am m0 15)) C hW.1 rfl wu_X8 (by decide) wf_X8_50 rfl rfl dX8_vote_207 ?_
                refine lv_iload_n C.hx C.hb dX8_vote_210 rfl (lv_at hl 4 rfl) ?_
                refine g_iald (f := (voteX (gbF (fun X g => decide (¬ (X 34 g = nI jN ∧ X 35 g = nI cN))) x) (nI jN) (nI cN) (s_X8_timeOf (up2 (up2 (gbF (fun X g => decide (¬ (X 34 g = nI jN ∧ X 35 g = nI cN))) x) 37 (nV x) (nI jN)) 38 (nV x) (nI cN)) cN) guilty ((gbF (fun X g => decide (¬ (X 34 g = nI jN ∧ X 35 g = nI cN))) x) 32 jN)) 15) (k := cN) C (hW.2.1 15 rfl) rfl (show cN < 400 by omega) (by decide) dX8_vote_211 ?_
                exact wI C hr dX8_vote_212 hS (by unfold s_X8_vote; (try simp only [tjN, tcN]); rw [if_neg c1, if_neg c2, if_neg c3, if_neg c4, if_neg c10]) (by unfold sx_X8_vote; (try simp only [tjN, tcN]); rw [if_neg c1, if_neg c2, if_neg c3, if_neg c4, if_neg c10]; exact hW)
              · refine lv_aload_n C.hx C.hb dX8_vote_201 rfl (lv_at hl 2 rfl) ?_
                refine lv_iload_n C.hx C.hb dX8_vote_202 rfl (lv_at hl 4 rfl) ?_
                refine kVWn (As := [.int (nI cN)]) (rest := []) C (cM_settle l G m0 (voteX (gbF (fun X g => decide (¬ (X 34 g = nI jN ∧ X 35 g = nI cN))) x) (nI jN) (nI cN) (s_X8_timeOf (up2 (up2 (gbF (fun X g => decide (¬ (X 34 g = nI jN ∧ X 35 g = nI cN))) x) 37 (nV x) (nI jN)) 38 (nV x) (nI cN)) cN) guilty ((gbF (fun X g => decide (¬ (X 34 g = nI jN ∧ X 35 g = nI cN))) x) 32 jN)) z hI3 cN (show cN < nC (voteX (gbF (fun X g => decide (¬ (X 34 g = nI jN ∧ X 35 g = nI cN))) x) (nI jN) (nI cN) (s_X8_timeOf (up2 (up2 (gbF (fun X g => decide (¬ (X 34 g = nI jN ∧ X 35 g = nI cN))) x) 37 (nV x) (nI jN)) 38 (nV x) (nI cN)) cN) guilty ((gbF (fun X g => decide (¬ (X 34 g = nI jN ∧ X 35 g = nI cN))) x) 32 jN)) by omega)) lk_X8_194 (g_recv C hW.1 rfl) hW rfl rfl hl (Nat.le_of_ble_eq_true rfl) dX8_vote_203 ⟨⟨by decide, by decide⟩, by decide, by decide⟩ hS (fun q h => h) (fun H locs hP hz1 hk1 hS => ?_)
                have hW : MWd G m0 (sx_X8_settle (voteX (gbF (fun X g => decide (¬ (X 34 g = nI jN ∧ X 35 g = nI cN))) x) (nI jN) (nI cN) (s_X8_timeOf (up2 (up2 (gbF (fun X g => decide (¬ (X 34 g = nI jN ∧ X 35 g = nI cN))) x) 37 (nV x) (nI jN)) 38 (nV x) (nI cN)) cN) guilty ((gbF (fun X g => decide (¬ (X 34 g = nI jN ∧ X 35 g = nI cN))) x) 32 jN)) cN) z H := hP
                refine lv_aload_n C.hx C.hb dX8_vote_206 rfl (lv_at hl 2 rfl) ?_
                refine g_get (k := 15) (v := .ref (am m0 15)) C hW.1 rfl wu_X8 (by decide) wf_X8_50 rfl rfl dX8_vote_207 ?_
                refine lv_iload_n C.hx C.hb dX8_vote_210 rfl (lv_at hl 4 rfl) ?_
                refine g_iald (f := (sx_X8_settle (voteX (gbF (fun X g => decide (¬ (X 34 g = nI jN ∧ X 35 g = nI cN))) x) (nI jN) (nI cN) (s_X8_timeOf (up2 (up2 (gbF (fun X g => decide (¬ (X 34 g = nI jN ∧ X 35 g = nI cN))) x) 37 (nV x) (nI jN)) 38 (nV x) (nI cN)) cN) guilty ((gbF (fun X g => decide (¬ (X 34 g = nI jN ∧ X 35 g = nI cN))) x) 32 jN)) cN) 15) (k := cN) C (hW.2.1 15 rfl) rfl (show cN < 400 by omega) (by decide) dX8_vote_211 ?_
                exact wI C hr dX8_vote_212 hS (by unfold s_X8_vote; (try simp only [tjN, tcN]); rw [if_neg c1, if_neg c2, if_neg c3, if_neg c4, if_pos c10]) (by unfold sx_X8_vote; (try simp only [tjN, tcN]); rw [if_neg c1, if_neg c2, if_neg c3, if_neg c4, if_pos c10]; exact hW)
            · exact absurd (le_eqn eG) c8
        · refine lv_bipush (v := (-4)) C.hx C.hb dX8_vote_35 (by decide) ?_
          exact wI C hr dX8_vote_37 hS (by unfold s_X8_vote; (try simp only [tjN, tcN]); rw [if_neg c1, if_neg c2, if_neg c3, if_pos c4]) (by unfold sx_X8_vote; (try simp only [tjN, tcN]); rw [if_neg c1, if_neg c2, if_neg c3, if_pos c4]; exact hW)
      · refine lv_iconst (v := (-1)) C.hx C.hb dX8_vote_24 (by decide) ?_
        exact wI C hr dX8_vote_25 hS (by unfold s_X8_vote; (try simp only [tjN, tcN]); rw [if_neg c1, if_neg c2, if_pos c3]) (by unfold sx_X8_vote; (try simp only [tjN, tcN]); rw [if_neg c1, if_neg c2, if_pos c3]; exact hW)
