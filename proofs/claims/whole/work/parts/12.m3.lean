def best_ok (b : Int32) (i : Nat) : Prop := b = -4 ∨ (b = nI (tn b) ∧ tn b < i)
theorem best_nn {b : Int32} {i : Nat} (h : best_ok b i) (k : ¬ b < 0) : b = nI (tn b) ∧ tn b < i := by
  rcases h with h | h
  · subst h; exact absurd (by decide) k
  · exact h
theorem best_old {b : Int32} {i : Nat} (h : best_ok b i) : best_ok b (i + 1) := h.imp id (fun q => ⟨q.1, by omega⟩)
theorem best_newN {i : Nat} (h : i < 2 ^ 31) : best_ok (nI i) (i + 1) := Or.inr ⟨by rw [show tn (nI i) = i from nI_clamp h], by rw [show tn (nI i) = i from nI_clamp h]; omega⟩
def hasv (q : Nat → Bool) : Nat → Bool
  | 0 => false
  | n + 1 => hasv q n || q n
def fstv (q : Nat → Bool) : Nat → Nat
  | 0 => 0
  | n + 1 => if hasv q n = true then fstv q n else if q n = true then n else n + 1
theorem hasv_no {q : Nat → Bool} {i : Nat} (h : hasv q i = false) (k : q i = false) : hasv q (i + 1) = false := by unfold hasv; rw [h, k]; rfl
theorem hasv_iff {q : Nat → Bool} : ∀ {n : Nat}, hasv q n = true ↔ ∃ i, i < n ∧ q i = true
  | 0 => Iff.intro (fun h => absurd h (by unfold hasv; decide)) (fun h => absurd h.choose_spec.1 (Nat.not_lt_zero _))
  | n + 1 => by
    unfold hasv
    rw [Bool.or_eq_true, hasv_iff]
    constructor
    · rintro (⟨i, h, k⟩ | h)
      · exact ⟨i, by omega, k⟩
      · exact ⟨n, by omega, h⟩
    · rintro ⟨i, h, k⟩
      rcases Nat.lt_or_ge i n with z | z
      · exact Or.inl ⟨i, z, k⟩
      · have : i = n := by omega
        subst this
        exact Or.inr k
theorem hasv_yes {q : Nat → Bool} {i n : Nat} (hi : i < n) (k : q i = true) : hasv q n = true := hasv_iff.mpr ⟨i, hi, k⟩
theorem fstv_eq {q : Nat → Bool} {i : Nat} : ∀ {n : Nat}, i < n → hasv q i = false → q i = true → fstv q n = i
  | 0, h, _, _ => absurd h (Nat.not_lt_zero i)
  | n + 1, h, hn, k => by
    unfold fstv
    rcases Nat.lt_or_ge i n with z | z
    · rw [if_pos (hasv_yes z k)]
      exact fstv_eq z hn k
    · have : i = n := by omega
      subst this
      rw [hn, if_neg (by decide), if_pos k]
def q_X8_mayHave_64 (x : Nat → Nat → Int32) (jN : Nat) (cN : Nat) : Nat → Bool := fun i1 => (if (x 37 i1) = (nI jN) then (if (x 38 i1) = (nI cN) then true else false) else false)
def s_X8_mayHave (x : Nat → Nat → Int32) (z : Nat → Int64) (jN : Nat) (cN : Nat) : Int32 := (if (s_X8_isAsking x cN) = 0 then 0 else (if (x 33 jN) = 0 then (if (((x 29 jN) >>> ((x 14 cN) &&& 31)) &&& 1) = 0 then 0 else (if (lg_cmp (((z jN) >>> ((x 8 (tn (x 13 cN))).toInt64 &&& 63)) &&& (1)) (1)) = 0 then 0 else (if hasv (q_X8_mayHave_64 x jN cN) (nV x) = true then 0 else (if (s_X8_giftsOf x (nI jN) (nI cN)) = 0 then (if (x 31 jN) ≤ (s_X8_giftsOf x (nI jN) (-1)) then 0 else (if (x 19 cN) ≤ ((s_X8_votesOf x cN) + (s_X8_giftsOf x (-1) (nI cN))) then 0 else 1 : Int32) : Int32) else 0 : Int32)))) else 0))
set_option maxRecDepth 100000 in
set_option maxHeartbeats 400000 in
theorem cM_mayHave (l : Launch) (G : GG) (m0 : Nat) (x : Nat → Nat → Int32) (z : Nat → Int64) (hI : MI x) (jN : Nat) (cN : Nat) (hj : jN < 20) (hc : cN < nC x) : MR l G yX8_mayHave cX8_mayHave 4 (some .boolean) 2 [.ref m0, .int (nI jN), .int (nI cN)] (MWd G m0 x z) (some (.int (s_X8_mayHave x z jN cN))) := by
  refine MR.of RX8 rfl (by decide) (Nat.le_of_ble_eq_true rfl) ?_
  intro p_ e_ s_ m_ args_ below_ meth_ c_ ls hargs C hr hnm hW hl
  obtain ⟨⟨eP, bP⟩, ⟨eC, bC⟩, ⟨eG, bG⟩, ⟨eV, bV⟩, -, -⟩ := id hI
  have hl : lv_has ls 4 [(0, .ref m0), (1, .int (nI jN)), (2, .int (nI cN))] := hl
  refine lv_aload_n C.hx C.hb dX8_mayHave_0 rfl (lv_at hl 0 rfl) ?_
  refine lv_iload_n C.hx C.hb dX8_mayHave_1 rfl (lv_at hl 2 rfl) ?_
  refine kVR (As := [.int (nI cN)]) (rest := []) (v := .int (s_X8_isAsking x cN)) C (cM_isAsking l G m0 x z hI cN (show cN < nC x by omega)) lk_X8_167 (g_recv C hW.1 rfl) hW rfl rfl hl (Nat.le_of_ble_eq_true rfl) dX8_mayHave_2 ⟨⟨by decide, by decide⟩, by decide, by decide⟩ ?_
  refine lv_if_eq (tgt := 60) C.hx C.hb dX8_mayHave_5 (by decide) (fun c1 => ?_) (fun c1 => ?_)
  · refine lv_iconst (v := 0) C.hx C.hb dX8_mayHave_60 (by decide) ?_
    exact rZ C hr dX8_mayHave_61 (by unfold s_X8_mayHave; rw [if_pos c1]) nb0
  · refine lv_aload_n C.hx C.hb dX8_mayHave_8 rfl (lv_at hl 0 rfl) ?_
    refine g_get (k := 33) (v := .ref (am m0 33)) C hW.1 rfl wu_X8 (by decide) wf_X8_99 rfl rfl dX8_mayHave_9 ?_
    refine lv_iload_n C.hx C.hb dX8_mayHave_12 rfl (lv_at hl 1 rfl) ?_
    refine g_zald (f := x 33) (k := jN) C hW.2.2.2 rfl (show jN < 20 by omega) (by decide) dX8_mayHave_13 ?_
    refine lv_if_ne (tgt := 60) C.hx C.hb dX8_mayHave_14 (by decide) (fun c2 => ?_) (fun c2 => ?_)
    · refine lv_iconst (v := 0) C.hx C.hb dX8_mayHave_60 (by decide) ?_
      exact rZ C hr dX8_mayHave_61 (by unfold s_X8_mayHave; rw [if_neg c1, if_neg c2]) nb0
    · refine lv_aload_n C.hx C.hb dX8_mayHave_17 rfl (lv_at hl 0 rfl) ?_
      refine g_get (k := 29) (v := .ref (am m0 29)) C hW.1 rfl wu_X8 (by decide) wf_X8_86 rfl rfl dX8_mayHave_18 ?_
      refine lv_iload_n C.hx C.hb dX8_mayHave_21 rfl (lv_at hl 1 rfl) ?_
      refine g_iald (f := x 29) (k := jN) C (hW.2.1 29 rfl) rfl (show jN < 20 by omega) (by decide) dX8_mayHave_22 ?_
      refine lv_aload_n C.hx C.hb dX8_mayHave_23 rfl (lv_at hl 0 rfl) ?_
      refine g_get (k := 14) (v := .ref (am m0 14)) C hW.1 rfl wu_X8 (by decide) wf_X8_47 rfl rfl dX8_mayHave_24 ?_
      refine lv_iload_n C.hx C.hb dX8_mayHave_27 rfl (lv_at hl 2 rfl) ?_
      refine g_iald (f := x 14) (k := cN) C (hW.2.1 14 rfl) rfl (show cN < 400 by omega) (by decide) dX8_mayHave_28 ?_
      have f3 := MI.ru hI (show cN < nC x by omega)
      have f3b : tn (x 14 cN) < 8 := f3.2
      refine lv_ishr C.hx C.hb dX8_mayHave_29 ?_
      refine lv_iconst (v := 1) C.hx C.hb dX8_mayHave_30 (by decide) ?_
      refine lv_iand C.hx C.hb dX8_mayHave_31 ?_
      refine lv_if_eq (tgt := 60) C.hx C.hb dX8_mayHave_32 (by decide) (fun c4 => ?_) (fun c4 => ?_)
      · refine lv_iconst (v := 0) C.hx C.hb dX8_mayHave_60 (by decide) ?_
        exact rZ C hr dX8_mayHave_61 (by unfold s_X8_mayHave; rw [if_neg c1, if_pos c2, if_pos c4]) nb0
      · refine lv_aload_n C.hx C.hb dX8_mayHave_35 rfl (lv_at hl 0 rfl) ?_
        refine g_get (k := 30) (v := .ref (am m0 30)) C hW.1 rfl wu_X8 (by decide) wf_X8_89 rfl rfl dX8_mayHave_36 ?_
        refine lv_iload_n C.hx C.hb dX8_mayHave_39 rfl (lv_at hl 1 rfl) ?_
        refine g_lald (f := z) (k := jN) C hW.2.2.1 rfl (show jN < 20 by omega) (by decide) dX8_mayHave_40 ?_
        refine lv_aload_n C.hx C.hb dX8_mayHave_41 rfl (lv_at hl 0 rfl) ?_
        refine g_get (k := 8) (v := .ref (am m0 8)) C hW.1 rfl wu_X8 (by decide) wf_X8_32 rfl rfl dX8_mayHave_42 ?_
        refine lv_aload_n C.hx C.hb dX8_mayHave_45 rfl (lv_at hl 0 rfl) ?_
        refine g_get (k := 13) (v := .ref (am m0 13)) C hW.1 rfl wu_X8 (by decide) wf_X8_44 rfl rfl dX8_mayHave_46 ?_
        refine lv_iload_n C.hx C.hb dX8_mayHave_49 rfl (lv_at hl 2 rfl) ?_
        refine g_iald (f := x 13) (k := cN) C (hW.2.1 13 rfl) rfl (show cN < 400 by omega) (by decide) dX8_mayHave_50 ?_
        have f5 := MI.po hI (show cN < nC x by omega)
        have f5b : tn (x 13 cN) < nP x := f5.2
        refine g_iald (f := x 8) (k := (tn (x 13 cN))) C (hW.2.1 8 rfl) f5.1 (show (tn (x 13 cN)) < 300 by omega) (by decide) dX8_mayHave_51 ?_
        refine lv_lshr C.hx C.hb dX8_mayHave_52 rfl ?_
        refine lv_lconst (v := 1) C.hx C.hb dX8_mayHave_53 (by decide) ?_
        refine lv_land C.hx C.hb dX8_mayHave_54 ?_
        refine lv_lconst (v := 1) C.hx C.hb dX8_mayHave_55 (by decide) ?_
        refine W.lcmp C.hx C.hb dX8_mayHave_56 ?_
        refine lv_if_ne (tgt := 62) C.hx C.hb dX8_mayHave_57 (by decide) (fun c6 => ?_) (fun c6 => ?_)
        · refine lv_iconst (v := 0) C.hx C.hb dX8_mayHave_62 (by decide) ?_
          refine lv_istore_n (lv' := [(3, .int 0), (0, .ref m0), (1, .int (nI jN)), (2, .int (nI cN))]) C.hx C.hb dX8_mayHave_63 rfl hl (by decide) rfl (fun ls hl => ?_)
          refine W.loopR (N := nV x) (Inv := fun i ls => lv_has ls 4 [(3, .int (nI i)), (0, .ref m0), (1, .int (nI jN)), (2, .int (nI cN))] ∧ hasv (q_X8_mayHave_64 x jN cN) i = false) 64 [] (fun i1 ls hi1 hq K1 => ?_) (fun ls hq => ?_) 0 ls (Nat.zero_le _) ⟨lv_sub hl [0, 1, 2, 3] rfl, rfl⟩
          · obtain ⟨hl, hno⟩ := hq
            refine lv_iload_n C.hx C.hb dX8_mayHave_64 rfl (lv_at hl 0 rfl) ?_
            refine lv_aload_n C.hx C.hb dX8_mayHave_65 rfl (lv_at hl 1 rfl) ?_
            refine g_get (k := 42) (v := .int (x 42 0)) C hW.1 rfl wu_X8 (by decide) wf_X8_160 rfl rfl dX8_mayHave_66 ?_
            refine lv_icmp_ge (tgt := 100) C.hx C.hb dX8_mayHave_69 (by decide) (fun c7 => ?_) (fun c7 => ?_)
            · exact absurd c7 (lt_nle eV hi1 (by omega))
            · refine lv_aload_n C.hx C.hb dX8_mayHave_72 rfl (lv_at hl 1 rfl) ?_
              refine g_get (k := 37) (v := .ref (am m0 37)) C hW.1 rfl wu_X8 (by decide) wf_X8_109 rfl rfl dX8_mayHave_73 ?_
              refine lv_iload_n C.hx C.hb dX8_mayHave_76 rfl (lv_at hl 0 rfl) ?_
              refine g_iald (f := x 37) (k := i1) C (hW.2.1 37 rfl) rfl (show i1 < 8000 by omega) (by decide) dX8_mayHave_77 ?_
              refine lv_iload_n C.hx C.hb dX8_mayHave_78 rfl (lv_at hl 2 rfl) ?_
              refine lv_icmp_ne (tgt := 94) C.hx C.hb dX8_mayHave_79 (by decide) (fun c8 => ?_) (fun c8 => ?_)
              · refine lv_iinc (v := (nI i1) + 1) (lv' := [(3, .int ((nI i1) + 1)), (0, .ref m0), (1, .int (nI jN)), (2, .int (nI cN))]) C.hx C.hb dX8_mayHave_94 hl (k := 0) rfl rfl (by decide) rfl (fun ls hl => ?_)
                refine lv_goto (tgt := 64) C.hx C.hb dX8_mayHave_97 (by decide) ?_
                rw [nI_1 i1] at hl
                exact K1 _ ⟨lv_sub hl [0, 1, 2, 3] rfl, hasv_no hno (by unfold q_X8_mayHave_64; rw [if_neg c8])⟩
              · refine lv_aload_n C.hx C.hb dX8_mayHave_82 rfl (lv_at hl 1 rfl) ?_
                refine g_get (k := 38) (v := .ref (am m0 38)) C hW.1 rfl wu_X8 (by decide) wf_X8_112 rfl rfl dX8_mayHave_83 ?_
                refine lv_iload_n C.hx C.hb dX8_mayHave_86 rfl (lv_at hl 0 rfl) ?_
                refine g_iald (f := x 38) (k := i1) C (hW.2.1 38 rfl) rfl (show i1 < 8000 by omega) (by decide) dX8_mayHave_87 ?_
                have f9 := MI.vc hI (show i1 < nV x by omega)
                have f9b : tn (x 38 i1) < nC x := f9.2
                refine lv_iload_n C.hx C.hb dX8_mayHave_88 rfl (lv_at hl 3 rfl) ?_
                refine lv_icmp_ne (tgt := 94) C.hx C.hb dX8_mayHave_89 (by decide) (fun c10 => ?_) (fun c10 => ?_)
                · refine lv_iinc (v := (nI i1) + 1) (lv' := [(3, .int ((nI i1) + 1)), (0, .ref m0), (1, .int (nI jN)), (2, .int (nI cN))]) C.hx C.hb dX8_mayHave_94 hl (k := 0) rfl rfl (by decide) rfl (fun ls hl => ?_)
                  refine lv_goto (tgt := 64) C.hx C.hb dX8_mayHave_97 (by decide) ?_
                  rw [nI_1 i1] at hl
                  exact K1 _ ⟨lv_sub hl [0, 1, 2, 3] rfl, hasv_no hno (by unfold q_X8_mayHave_64; rw [if_pos c8, if_neg c10])⟩
                · refine lv_iconst (v := 0) C.hx C.hb dX8_mayHave_92 (by decide) ?_
                  have hk1 : hasv (q_X8_mayHave_64 x jN cN) (nV x) = true := hasv_yes hi1 (by unfold q_X8_mayHave_64; rw [if_pos c8, if_pos c10])
                  have ei1 : fstv (q_X8_mayHave_64 x jN cN) (nV x) = i1 := fstv_eq hi1 hno (by unfold q_X8_mayHave_64; rw [if_pos c8, if_pos c10])
                  exact rZ C hr dX8_mayHave_93 (by unfold s_X8_mayHave; (try simp only [ei1]); rw [if_neg c1, if_pos c2, if_neg c4, if_neg c6, if_pos hk1]) nb0
          · obtain ⟨hl, hno⟩ := hq
            have hk1 : ¬ hasv (q_X8_mayHave_64 x jN cN) (nV x) = true := by rw [hno]; decide
            refine lv_iload_n C.hx C.hb dX8_mayHave_64 rfl (lv_at hl 0 rfl) ?_
            refine lv_aload_n C.hx C.hb dX8_mayHave_65 rfl (lv_at hl 1 rfl) ?_
            refine g_get (k := 42) (v := .int (x 42 0)) C hW.1 rfl wu_X8 (by decide) wf_X8_160 rfl rfl dX8_mayHave_66 ?_
            refine lv_icmp_ge (tgt := 100) C.hx C.hb dX8_mayHave_69 (by decide) (fun c11 => ?_) (fun c11 => ?_)
            · refine lv_aload_n C.hx C.hb dX8_mayHave_100 rfl (lv_at hl 1 rfl) ?_
              refine lv_iload_n C.hx C.hb dX8_mayHave_101 rfl (lv_at hl 2 rfl) ?_
              refine lv_iload_n C.hx C.hb dX8_mayHave_102 rfl (lv_at hl 3 rfl) ?_
              refine kVR (As := [.int (nI jN), .int (nI cN)]) (rest := []) (v := .int (s_X8_giftsOf x (nI jN) (nI cN))) C (cM_giftsOf l G m0 x z hI (nI jN) (nI cN)) lk_X8_170 (g_recv C hW.1 rfl) hW rfl rfl hl (Nat.le_of_ble_eq_true rfl) dX8_mayHave_103 ⟨⟨by decide, by decide⟩, by decide, by decide⟩ ?_
              refine W.joinI (P := fun jv => jv = (if (s_X8_giftsOf x (nI jN) (nI cN)) = 0 then (if (x 31 jN) ≤ (s_X8_giftsOf x (nI jN) (-1)) then 0 else (if (x 19 cN) ≤ ((s_X8_votesOf x cN) + (s_X8_giftsOf x (-1) (nI cN))) then 0 else 1 : Int32) : Int32) else 0 : Int32)) 150 ls [] (fun J15 => ?_) (fun v16 hv16 => ?_)
              · refine lv_if_ne (tgt := 149) C.hx C.hb dX8_mayHave_106 (by decide) (fun c12 => ?_) (fun c12 => ?_)
                · refine lv_iconst (v := 0) C.hx C.hb dX8_mayHave_149 (by decide) ?_
                  exact J15 _ (by rw [if_neg c12])
                · refine lv_aload_n C.hx C.hb dX8_mayHave_109 rfl (lv_at hl 1 rfl) ?_
                  refine lv_iload_n C.hx C.hb dX8_mayHave_110 rfl (lv_at hl 2 rfl) ?_
                  refine lv_iconst (v := (-1)) C.hx C.hb dX8_mayHave_111 (by decide) ?_
                  refine kVR (As := [.int (nI jN), .int ((-1))]) (rest := []) (v := .int (s_X8_giftsOf x (nI jN) (-1))) C (cM_giftsOf l G m0 x z hI (nI jN) (-1)) lk_X8_170 (g_recv C hW.1 rfl) hW rfl rfl hl (Nat.le_of_ble_eq_true rfl) dX8_mayHave_112 ⟨⟨by decide, by decide⟩, by decide, by decide⟩ ?_
                  refine lv_aload_n C.hx C.hb dX8_mayHave_115 rfl (lv_at hl 1 rfl) ?_
                  refine g_get (k := 31) (v := .ref (am m0 31)) C hW.1 rfl wu_X8 (by decide) wf_X8_93 rfl rfl dX8_mayHave_116 ?_
                  refine lv_iload_n C.hx C.hb dX8_mayHave_119 rfl (lv_at hl 2 rfl) ?_
                  refine g_iald (f := x 31) (k := jN) C (hW.2.1 31 rfl) rfl (show jN < 20 by omega) (by decide) dX8_mayHave_120 ?_
                  refine lv_icmp_ge (tgt := 149) C.hx C.hb dX8_mayHave_121 (by decide) (fun c13 => ?_) (fun c13 => ?_)
                  · refine lv_iconst (v := 0) C.hx C.hb dX8_mayHave_149 (by decide) ?_
                    exact J15 _ (by rw [if_pos c12, if_pos c13])
                  · refine lv_aload_n C.hx C.hb dX8_mayHave_124 rfl (lv_at hl 1 rfl) ?_
                    refine lv_iload_n C.hx C.hb dX8_mayHave_125 rfl (lv_at hl 3 rfl) ?_
                    refine kVR (As := [.int (nI cN)]) (rest := []) (v := .int (s_X8_votesOf x cN)) C (cM_votesOf l G m0 x z hI cN (show cN < nC x by omega)) lk_X8_174 (g_recv C hW.1 rfl) hW rfl rfl hl (Nat.le_of_ble_eq_true rfl) dX8_mayHave_126 ⟨⟨by decide, by decide⟩, by decide, by decide⟩ ?_
                    refine lv_aload_n C.hx C.hb dX8_mayHave_129 rfl (lv_at hl 1 rfl) ?_
                    refine lv_iconst (v := (-1)) C.hx C.hb dX8_mayHave_130 (by decide) ?_
                    refine lv_iload_n C.hx C.hb dX8_mayHave_131 rfl (lv_at hl 3 rfl) ?_
                    refine kVR (As := [.int ((-1)), .int (nI cN)]) (rest := [.int (s_X8_votesOf x cN)]) (v := .int (s_X8_giftsOf x (-1) (nI cN))) C (cM_giftsOf l G m0 x z hI (-1) (nI cN)) lk_X8_170 (g_recv C hW.1 rfl) hW rfl rfl hl (Nat.le_of_ble_eq_true rfl) dX8_mayHave_132 ⟨⟨by decide, by decide⟩, by decide, by decide⟩ ?_
                    refine lv_iadd C.hx C.hb dX8_mayHave_135 ?_
                    refine lv_aload_n C.hx C.hb dX8_mayHave_136 rfl (lv_at hl 1 rfl) ?_
                    refine g_get (k := 19) (v := .ref (am m0 19)) C hW.1 rfl wu_X8 (by decide) wf_X8_62 rfl rfl dX8_mayHave_137 ?_
                    refine lv_iload_n C.hx C.hb dX8_mayHave_140 rfl (lv_at hl 3 rfl) ?_
                    refine g_iald (f := x 19) (k := cN) C (hW.2.1 19 rfl) rfl (show cN < 400 by omega) (by decide) dX8_mayHave_141 ?_
                    refine lv_icmp_ge (tgt := 149) C.hx C.hb dX8_mayHave_142 (by decide) (fun c14 => ?_) (fun c14 => ?_)
                    · refine lv_iconst (v := 0) C.hx C.hb dX8_mayHave_149 (by decide) ?_
                      exact J15 _ (by rw [if_pos c12, if_neg c13, if_pos c14])
                    · refine lv_iconst (v := 1) C.hx C.hb dX8_mayHave_145 (by decide) ?_
                      refine lv_goto (tgt := 150) C.hx C.hb dX8_mayHave_146 (by decide) ?_
                      exact J15 _ (by rw [if_pos c12, if_neg c13, if_neg c14])
              · exact rZ C hr dX8_mayHave_150 (by rw [hv16]; unfold s_X8_mayHave; rw [if_neg c1, if_pos c2, if_neg c4, if_neg c6, if_neg hk1]) (nb01 (by rw [hv16]; (repeat' split) <;> simp))
            · exact absurd (le_eqn eV) c11
        · refine lv_iconst (v := 0) C.hx C.hb dX8_mayHave_60 (by decide) ?_
          exact rZ C hr dX8_mayHave_61 (by unfold s_X8_mayHave; rw [if_neg c1, if_pos c2, if_neg c4, if_pos c6]) nb0
def s_X8_may (x : Nat → Nat → Int32) (z : Nat → Int64) (j : Int32) (c : Int32) : Int32 := (if (s_X8_isJudge j) = 0 then (-1) else (if (s_X8_isCase x c) = 0 then (-1) else (if (s_X8_mayHave x z (tn j) (tn c)) = 0 then 0 else 1 : Int32)))
set_option maxRecDepth 100000 in
set_option maxHeartbeats 400000 in
theorem cM_may (l : Launch) (G : GG) (m0 : Nat) (x : Nat → Nat → Int32) (z : Nat → Int64) (hI : MI x) (j : Int32) (c : Int32) : MR l G yX8_may cX8_may 3 (some .int) 3 [.ref m0, .int j, .int c] (MWd G m0 x z) (some (.int (s_X8_may x z j c))) := by
  refine MR.of RX8 rfl (by decide) (Nat.le_of_ble_eq_true rfl) ?_
  intro p_ e_ s_ m_ args_ below_ meth_ c_ ls hargs C hr hnm hW hl
  obtain ⟨⟨eP, bP⟩, ⟨eC, bC⟩, ⟨eG, bG⟩, ⟨eV, bV⟩, -, -⟩ := id hI
  have hl : lv_has ls 3 [(0, .ref m0), (1, .int j), (2, .int c)] := hl
  refine lv_iload_n C.hx C.hb dX8_may_0 rfl (lv_at hl 1 rfl) ?_
  refine kSR (As := [.int j]) (rest := []) (v := .int (s_X8_isJudge j)) C (cM_isJudge l G j) lk_X8_147 trivial rfl rfl hl (Nat.le_of_ble_eq_true rfl) dX8_may_1 ⟨⟨by decide, by decide⟩, by decide, by decide⟩ ?_
  refine lv_if_eq (tgt := 32) C.hx C.hb dX8_may_4 (by decide) (fun c1 => ?_) (fun c1 => ?_)
  · refine lv_iconst (v := (-1)) C.hx C.hb dX8_may_32 (by decide) ?_
    exact rI C hr dX8_may_33 (by unfold s_X8_may; rw [if_pos c1])
  · obtain ⟨jN, hjN, rfl⟩ := isJudge_nz c1
    have tjN : tn (nI jN) = jN := nI_clamp (by omega)
    refine lv_aload_n C.hx C.hb dX8_may_7 rfl (lv_at hl 0 rfl) ?_
    refine lv_iload_n C.hx C.hb dX8_may_8 rfl (lv_at hl 2 rfl) ?_
    refine kVR (As := [.int c]) (rest := []) (v := .int (s_X8_isCase x c)) C (cM_isCase l G m0 x z hI c) lk_X8_184 (g_recv C hW.1 rfl) hW rfl rfl hl (Nat.le_of_ble_eq_true rfl) dX8_may_9 ⟨⟨by decide, by decide⟩, by decide, by decide⟩ ?_
    refine lv_if_eq (tgt := 32) C.hx C.hb dX8_may_12 (by decide) (fun c2 => ?_) (fun c2 => ?_)
    · refine lv_iconst (v := (-1)) C.hx C.hb dX8_may_32 (by decide) ?_
      exact rI C hr dX8_may_33 (by unfold s_X8_may; (try simp only [tjN]); rw [if_neg c1, if_pos c2])
    · obtain ⟨cN, hcN, rfl⟩ := isCase_nz hI c2
      have tcN : tn (nI cN) = cN := nI_clamp (by omega)
      refine lv_aload_n C.hx C.hb dX8_may_15 rfl (lv_at hl 0 rfl) ?_
      refine lv_iload_n C.hx C.hb dX8_may_16 rfl (lv_at hl 1 rfl) ?_
      refine lv_iload_n C.hx C.hb dX8_may_17 rfl (lv_at hl 2 rfl) ?_
      refine kVR (As := [.int (nI jN), .int (nI cN)]) (rest := []) (v := .int (s_X8_mayHave x z jN cN)) C (cM_mayHave l G m0 x z hI jN cN (show jN < 20 by omega) (show cN < nC x by omega)) lk_X8_177 (g_recv C hW.1 rfl) hW rfl rfl hl (Nat.le_of_ble_eq_true rfl) dX8_may_18 ⟨⟨by decide, by decide⟩, by decide, by decide⟩ ?_
      refine W.joinI (P := fun jv => jv = (if (s_X8_mayHave x z jN cN) = 0 then 0 else 1 : Int32)) 33 ls [] (fun J4 => ?_) (fun v5 hv5 => ?_)
      · refine lv_if_eq (tgt := 28) C.hx C.hb dX8_may_21 (by decide) (fun c3 => ?_) (fun c3 => ?_)
        · refine lv_iconst (v := 0) C.hx C.hb dX8_may_28 (by decide) ?_
          refine lv_goto (tgt := 33) C.hx C.hb dX8_may_29 (by decide) ?_
          exact J4 _ (by rw [if_pos c3])
        · refine lv_iconst (v := 1) C.hx C.hb dX8_may_24 (by decide) ?_
          refine lv_goto (tgt := 33) C.hx C.hb dX8_may_25 (by decide) ?_
          exact J4 _ (by rw [if_neg c3])
      · exact rI C hr dX8_may_33 (by rw [hv5]; unfold s_X8_may; (try simp only [tjN, tcN]); rw [if_neg c1, if_neg c2])
def f_X8_nextOf_5_2 (x : Nat → Nat → Int32) (z : Nat → Int64) (jN : Nat) : Nat → Int32 → Int32 := fun i1 a => (if (s_X8_mayHave x z jN i1) = 0 then a else (if (a) < 0 then nI i1 else (if ((x 2 (tn (x 14 i1))) * (x 10 (tn (x 13 i1)))) ≤ ((x 2 (tn (x 14 (tn (a))))) * (x 10 (tn (x 13 (tn (a)))))) then a else nI i1 : Int32) : Int32) : Int32)
def s_X8_nextOf (x : Nat → Nat → Int32) (z : Nat → Int64) (jN : Nat) : Int32 := itr (f_X8_nextOf_5_2 x z jN) (-4) (nC x)
set_option maxRecDepth 100000 in
set_option maxHeartbeats 400000 in
theorem cM_nextOf (l : Launch) (G : GG) (m0 : Nat) (x : Nat → Nat → Int32) (z : Nat → Int64) (hI : MI x) (jN : Nat) (hj : jN < 20) : MR l G yX8_nextOf cX8_nextOf 4 (some .int) 3 [.ref m0, .int (nI jN)] (MWd G m0 x z) (some (.int (s_X8_nextOf x z jN))) := by
  refine MR.of RX8 rfl (by decide) (Nat.le_of_ble_eq_true rfl) ?_
  intro p_ e_ s_ m_ args_ below_ meth_ c_ ls hargs C hr hnm hW hl
  obtain ⟨⟨eP, bP⟩, ⟨eC, bC⟩, ⟨eG, bG⟩, ⟨eV, bV⟩, -, -⟩ := id hI
  have hl : lv_has ls 4 [(0, .ref m0), (1, .int (nI jN))] := hl
  refine lv_bipush (v := (-4)) C.hx C.hb dX8_nextOf_0 (by decide) ?_
  refine lv_istore_n (lv' := [(2, .int ((-4))), (0, .ref m0), (1, .int (nI jN))]) C.hx C.hb dX8_nextOf_2 rfl hl (by decide) rfl (fun ls hl => ?_)
  refine lv_iconst (v := 0) C.hx C.hb dX8_nextOf_3 (by decide) ?_
  refine lv_istore_n (lv' := [(3, .int 0), (2, .int ((-4))), (0, .ref m0), (1, .int (nI jN))]) C.hx C.hb dX8_nextOf_4 rfl hl (by decide) rfl (fun ls hl => ?_)
  refine W.loopR (N := nC x) (Inv := fun i ls => lv_has ls 4 [(3, .int (nI i)), (2, .int (itr (f_X8_nextOf_5_2 x z jN) (-4) i)), (0, .ref m0), (1, .int (nI jN))] ∧ best_ok (itr (f_X8_nextOf_5_2 x z jN) (-4) i) i) 5 [] (fun i1 ls hi1 hq K1 => ?_) (fun ls hq => ?_) 0 ls (Nat.zero_le _) ⟨lv_sub hl [0, 1, 2, 3] rfl, Or.inl rfl⟩
  · obtain ⟨hl, hbo⟩ := hq
    refine lv_iload_n C.hx C.hb dX8_nextOf_5 rfl (lv_at hl 0 rfl) ?_
    refine lv_aload_n C.hx C.hb dX8_nextOf_6 rfl (lv_at hl 2 rfl) ?_
    refine g_get (k := 27) (v := .int (x 27 0)) C hW.1 rfl wu_X8 (by decide) wf_X8_133 rfl rfl dX8_nextOf_7 ?_
    refine lv_icmp_ge (tgt := 83) C.hx C.hb dX8_nextOf_10 (by decide) (fun c1 => ?_) (fun c1 => ?_)
    · exact absurd c1 (lt_nle eC hi1 (by omega))
    · refine lv_aload_n C.hx C.hb dX8_nextOf_13 rfl (lv_at hl 2 rfl) ?_
      refine lv_iload_n C.hx C.hb dX8_nextOf_14 rfl (lv_at hl 3 rfl) ?_
      refine lv_iload_n C.hx C.hb dX8_nextOf_15 rfl (lv_at hl 0 rfl) ?_
      refine kVR (As := [.int (nI jN), .int (nI i1)]) (rest := []) (v := .int (s_X8_mayHave x z jN i1)) C (cM_mayHave l G m0 x z hI jN i1 (show jN < 20 by omega) (show i1 < nC x by omega)) lk_X8_177 (g_recv C hW.1 rfl) hW rfl rfl hl (Nat.le_of_ble_eq_true rfl) dX8_nextOf_16 ⟨⟨by decide, by decide⟩, by decide, by decide⟩ ?_
      refine W.joinL (P := fun ls => lv_has ls 4 [(3, .int (nI i1)), (2, .int ((if (s_X8_mayHave x z jN i1) = 0 then itr (f_X8_nextOf_5_2 x z jN) (-4) i1 else (if (itr (f_X8_nextOf_5_2 x z jN) (-4) i1) < 0 then nI i1 else (if ((x 2 (tn (x 14 i1))) * (x 10 (tn (x 13 i1)))) ≤ ((x 2 (tn (x 14 (tn (itr (f_X8_nextOf_5_2 x z jN) (-4) i1))))) * (x 10 (tn (x 13 (tn (itr (f_X8_nextOf_5_2 x z jN) (-4) i1)))))) then itr (f_X8_nextOf_5_2 x z jN) (-4) i1 else nI i1 : Int32) : Int32) : Int32))), (0, .ref m0), (1, .int (nI jN))]) 77 [] (fun J10 => ?_) (fun ls hl => ?_)
      · refine lv_if_eq (tgt := 77) C.hx C.hb dX8_nextOf_19 (by decide) (fun c2 => ?_) (fun c2 => ?_)
        · exact J10 _ (by rw [show (if (s_X8_mayHave x z jN i1) = 0 then itr (f_X8_nextOf_5_2 x z jN) (-4) i1 else (if (itr (f_X8_nextOf_5_2 x z jN) (-4) i1) < 0 then nI i1 else (if ((x 2 (tn (x 14 i1))) * (x 10 (tn (x 13 i1)))) ≤ ((x 2 (tn (x 14 (tn (itr (f_X8_nextOf_5_2 x z jN) (-4) i1))))) * (x 10 (tn (x 13 (tn (itr (f_X8_nextOf_5_2 x z jN) (-4) i1)))))) then itr (f_X8_nextOf_5_2 x z jN) (-4) i1 else nI i1 : Int32) : Int32) : Int32) = itr (f_X8_nextOf_5_2 x z jN) (-4) i1 from by rw [if_pos c2]]; exact lv_sub hl [0, 1, 2, 3] rfl)
        · refine lv_iload_n C.hx C.hb dX8_nextOf_22 rfl (lv_at hl 1 rfl) ?_
          refine lv_if_lt (tgt := 75) C.hx C.hb dX8_nextOf_23 (by decide) (fun c3 => ?_) (fun c3 => ?_)
          · refine lv_iload_n C.hx C.hb dX8_nextOf_75 rfl (lv_at hl 0 rfl) ?_
            refine lv_istore_n (lv' := [(2, .int (nI i1)), (3, .int (nI i1)), (0, .ref m0), (1, .int (nI jN))]) C.hx C.hb dX8_nextOf_76 rfl hl (by decide) rfl (fun ls hl => ?_)
            exact J10 _ (by rw [show (if (s_X8_mayHave x z jN i1) = 0 then itr (f_X8_nextOf_5_2 x z jN) (-4) i1 else (if (itr (f_X8_nextOf_5_2 x z jN) (-4) i1) < 0 then nI i1 else (if ((x 2 (tn (x 14 i1))) * (x 10 (tn (x 13 i1)))) ≤ ((x 2 (tn (x 14 (tn (itr (f_X8_nextOf_5_2 x z jN) (-4) i1))))) * (x 10 (tn (x 13 (tn (itr (f_X8_nextOf_5_2 x z jN) (-4) i1)))))) then itr (f_X8_nextOf_5_2 x z jN) (-4) i1 else nI i1 : Int32) : Int32) : Int32) = nI i1 from by rw [if_neg c2, if_pos c3]]; exact lv_sub hl [1, 0, 2, 3] rfl)
          · have b4 := best_nn hbo c3
            have b4b : tn (itr (f_X8_nextOf_5_2 x z jN) (-4) i1) < i1 := b4.2
            refine lv_aload_n C.hx C.hb dX8_nextOf_26 rfl (lv_at hl 2 rfl) ?_
            refine g_get (k := 2) (v := .ref (am m0 2)) C hW.1 rfl wu_X8 (by decide) wf_X8_13 rfl rfl dX8_nextOf_27 ?_
            refine lv_aload_n C.hx C.hb dX8_nextOf_30 rfl (lv_at hl 2 rfl) ?_
            refine g_get (k := 14) (v := .ref (am m0 14)) C hW.1 rfl wu_X8 (by decide) wf_X8_47 rfl rfl dX8_nextOf_31 ?_
            refine lv_iload_n C.hx C.hb dX8_nextOf_34 rfl (lv_at hl 0 rfl) ?_
            refine g_iald (f := x 14) (k := i1) C (hW.2.1 14 rfl) rfl (show i1 < 400 by omega) (by decide) dX8_nextOf_35 ?_
            have f5 := MI.ru hI (show i1 < nC x by omega)
            have f5b : tn (x 14 i1) < 8 := f5.2
            refine g_iald (f := x 2) (k := (tn (x 14 i1))) C (hW.2.1 2 rfl) f5.1 (show (tn (x 14 i1)) < 8 by omega) (by decide) dX8_nextOf_36 ?_
            refine lv_aload_n C.hx C.hb dX8_nextOf_37 rfl (lv_at hl 2 rfl) ?_
            refine g_get (k := 10) (v := .ref (am m0 10)) C hW.1 rfl wu_X8 (by decide) wf_X8_38 rfl rfl dX8_nextOf_38 ?_
            refine lv_aload_n C.hx C.hb dX8_nextOf_41 rfl (lv_at hl 2 rfl) ?_
            refine g_get (k := 13) (v := .ref (am m0 13)) C hW.1 rfl wu_X8 (by decide) wf_X8_44 rfl rfl dX8_nextOf_42 ?_
            refine lv_iload_n C.hx C.hb dX8_nextOf_45 rfl (lv_at hl 0 rfl) ?_
            refine g_iald (f := x 13) (k := i1) C (hW.2.1 13 rfl) rfl (show i1 < 400 by omega) (by decide) dX8_nextOf_46 ?_
            have f6 := MI.po hI (show i1 < nC x by omega)
            have f6b : tn (x 13 i1) < nP x := f6.2
            refine g_iald (f := x 10) (k := (tn (x 13 i1))) C (hW.2.1 10 rfl) f6.1 (show (tn (x 13 i1)) < 300 by omega) (by decide) dX8_nextOf_47 ?_
            refine lv_imul C.hx C.hb dX8_nextOf_48 ?_
            refine lv_aload_n C.hx C.hb dX8_nextOf_49 rfl (lv_at hl 2 rfl) ?_
            refine g_get (k := 2) (v := .ref (am m0 2)) C hW.1 rfl wu_X8 (by decide) wf_X8_13 rfl rfl dX8_nextOf_50 ?_
            refine lv_aload_n C.hx C.hb dX8_nextOf_53 rfl (lv_at hl 2 rfl) ?_
            refine g_get (k := 14) (v := .ref (am m0 14)) C hW.1 rfl wu_X8 (by decide) wf_X8_47 rfl rfl dX8_nextOf_54 ?_
            refine lv_iload_n C.hx C.hb dX8_nextOf_57 rfl (lv_at hl 1 rfl) ?_
            refine g_iald (f := x 14) (k := (tn (itr (f_X8_nextOf_5_2 x z jN) (-4) i1))) C (hW.2.1 14 rfl) b4.1 (show (tn (itr (f_X8_nextOf_5_2 x z jN) (-4) i1)) < 400 by omega) (by decide) dX8_nextOf_58 ?_
            have f7 := MI.ru hI (show (tn (itr (f_X8_nextOf_5_2 x z jN) (-4) i1)) < nC x by omega)
            have f7b : tn (x 14 (tn (itr (f_X8_nextOf_5_2 x z jN) (-4) i1))) < 8 := f7.2
            refine g_iald (f := x 2) (k := (tn (x 14 (tn (itr (f_X8_nextOf_5_2 x z jN) (-4) i1))))) C (hW.2.1 2 rfl) f7.1 (show (tn (x 14 (tn (itr (f_X8_nextOf_5_2 x z jN) (-4) i1)))) < 8 by omega) (by decide) dX8_nextOf_59 ?_
            refine lv_aload_n C.hx C.hb dX8_nextOf_60 rfl (lv_at hl 2 rfl) ?_
            refine g_get (k := 10) (v := .ref (am m0 10)) C hW.1 rfl wu_X8 (by decide) wf_X8_38 rfl rfl dX8_nextOf_61 ?_
            refine lv_aload_n C.hx C.hb dX8_nextOf_64 rfl (lv_at hl 2 rfl) ?_
            refine g_get (k := 13) (v := .ref (am m0 13)) C hW.1 rfl wu_X8 (by decide) wf_X8_44 rfl rfl dX8_nextOf_65 ?_
            refine lv_iload_n C.hx C.hb dX8_nextOf_68 rfl (lv_at hl 1 rfl) ?_
            refine g_iald (f := x 13) (k := (tn (itr (f_X8_nextOf_5_2 x z jN) (-4) i1))) C (hW.2.1 13 rfl) b4.1 (show (tn (itr (f_X8_nextOf_5_2 x z jN) (-4) i1)) < 400 by omega) (by decide) dX8_nextOf_69 ?_
            have f8 := MI.po hI (show (tn (itr (f_X8_nextOf_5_2 x z jN) (-4) i1)) < nC x by omega)
            have f8b : tn (x 13 (tn (itr (f_X8_nextOf_5_2 x z jN) (-4) i1))) < nP x := f8.2
            refine g_iald (f := x 10) (k := (tn (x 13 (tn (itr (f_X8_nextOf_5_2 x z jN) (-4) i1))))) C (hW.2.1 10 rfl) f8.1 (show (tn (x 13 (tn (itr (f_X8_nextOf_5_2 x z jN) (-4) i1)))) < 300 by omega) (by decide) dX8_nextOf_70 ?_
            refine lv_imul C.hx C.hb dX8_nextOf_71 ?_
            refine lv_icmp_le (tgt := 77) C.hx C.hb dX8_nextOf_72 (by decide) (fun c9 => ?_) (fun c9 => ?_)
            · exact J10 _ (by rw [show (if (s_X8_mayHave x z jN i1) = 0 then itr (f_X8_nextOf_5_2 x z jN) (-4) i1 else (if (itr (f_X8_nextOf_5_2 x z jN) (-4) i1) < 0 then nI i1 else (if ((x 2 (tn (x 14 i1))) * (x 10 (tn (x 13 i1)))) ≤ ((x 2 (tn (x 14 (tn (itr (f_X8_nextOf_5_2 x z jN) (-4) i1))))) * (x 10 (tn (x 13 (tn (itr (f_X8_nextOf_5_2 x z jN) (-4) i1)))))) then itr (f_X8_nextOf_5_2 x z jN) (-4) i1 else nI i1 : Int32) : Int32) : Int32) = itr (f_X8_nextOf_5_2 x z jN) (-4) i1 from by rw [if_neg c2, if_neg c3, if_pos c9]]; exact lv_sub hl [0, 1, 2, 3] rfl)
            · refine lv_iload_n C.hx C.hb dX8_nextOf_75 rfl (lv_at hl 0 rfl) ?_
              refine lv_istore_n (lv' := [(2, .int (nI i1)), (3, .int (nI i1)), (0, .ref m0), (1, .int (nI jN))]) C.hx C.hb dX8_nextOf_76 rfl hl (by decide) rfl (fun ls hl => ?_)
              exact J10 _ (by rw [show (if (s_X8_mayHave x z jN i1) = 0 then itr (f_X8_nextOf_5_2 x z jN) (-4) i1 else (if (itr (f_X8_nextOf_5_2 x z jN) (-4) i1) < 0 then nI i1 else (if ((x 2 (tn (x 14 i1))) * (x 10 (tn (x 13 i1)))) ≤ ((x 2 (tn (x 14 (tn (itr (f_X8_nextOf_5_2 x z jN) (-4) i1))))) * (x 10 (tn (x 13 (tn (itr (f_X8_nextOf_5_2 x z jN) (-4) i1)))))) then itr (f_X8_nextOf_5_2 x z jN) (-4) i1 else nI i1 : Int32) : Int32) : Int32) = nI i1 from by rw [if_neg c2, if_neg c3, if_neg c9]]; exact lv_sub hl [1, 0, 2, 3] rfl)
      · refine lv_iinc (v := (nI i1) + 1) (lv' := [(3, .int ((nI i1) + 1)), (2, .int ((if (s_X8_mayHave x z jN i1) = 0 then itr (f_X8_nextOf_5_2 x z jN) (-4) i1 else (if (itr (f_X8_nextOf_5_2 x z jN) (-4) i1) < 0 then nI i1 else (if ((x 2 (tn (x 14 i1))) * (x 10 (tn (x 13 i1)))) ≤ ((x 2 (tn (x 14 (tn (itr (f_X8_nextOf_5_2 x z jN) (-4) i1))))) * (x 10 (tn (x 13 (tn (itr (f_X8_nextOf_5_2 x z jN) (-4) i1)))))) then itr (f_X8_nextOf_5_2 x z jN) (-4) i1 else nI i1 : Int32) : Int32) : Int32))), (0, .ref m0), (1, .int (nI jN))]) C.hx C.hb dX8_nextOf_77 hl (k := 0) rfl rfl (by decide) rfl (fun ls hl => ?_)
        refine lv_goto (tgt := 5) C.hx C.hb dX8_nextOf_80 (by decide) ?_
        rw [nI_1 i1] at hl
        exact K1 _ ⟨lv_sub hl [0, 1, 2, 3] rfl, by show best_ok ((f_X8_nextOf_5_2 x z jN) _ _) _; unfold f_X8_nextOf_5_2; (repeat' split) <;> first | exact best_newN (by omega) | exact best_old hbo⟩
  · obtain ⟨hl, hbo⟩ := hq
    refine lv_iload_n C.hx C.hb dX8_nextOf_5 rfl (lv_at hl 0 rfl) ?_
    refine lv_aload_n C.hx C.hb dX8_nextOf_6 rfl (lv_at hl 2 rfl) ?_
    refine g_get (k := 27) (v := .int (x 27 0)) C hW.1 rfl wu_X8 (by decide) wf_X8_133 rfl rfl dX8_nextOf_7 ?_
    refine lv_icmp_ge (tgt := 83) C.hx C.hb dX8_nextOf_10 (by decide) (fun c11 => ?_) (fun c11 => ?_)
    · refine lv_iload_n C.hx C.hb dX8_nextOf_83 rfl (lv_at hl 1 rfl) ?_
      exact rI C hr dX8_nextOf_84 (by unfold s_X8_nextOf; with_reducible rfl)
    · exact absurd (le_eqn eC) c11
def s_X8_next (x : Nat → Nat → Int32) (z : Nat → Int64) (j : Int32) : Int32 := (if (s_X8_isJudge j) = 0 then (-1) else s_X8_nextOf x z (tn j))
set_option maxRecDepth 100000 in
set_option maxHeartbeats 400000 in
theorem cM_next (l : Launch) (G : GG) (m0 : Nat) (x : Nat → Nat → Int32) (z : Nat → Int64) (hI : MI x) (j : Int32) : MR l G yX8_next cX8_next 2 (some .int) 4 [.ref m0, .int j] (MWd G m0 x z) (some (.int (s_X8_next x z j))) := by
  refine MR.of RX8 rfl (by decide) (Nat.le_of_ble_eq_true rfl) ?_
  intro p_ e_ s_ m_ args_ below_ meth_ c_ ls hargs C hr hnm hW hl
  obtain ⟨⟨eP, bP⟩, ⟨eC, bC⟩, ⟨eG, bG⟩, ⟨eV, bV⟩, -, -⟩ := id hI
  have hl : lv_has ls 2 [(0, .ref m0), (1, .int j)] := hl
  refine lv_iload_n C.hx C.hb dX8_next_0 rfl (lv_at hl 1 rfl) ?_
  refine kSR (As := [.int j]) (rest := []) (v := .int (s_X8_isJudge j)) C (cM_isJudge l G j) lk_X8_147 trivial rfl rfl hl (Nat.le_of_ble_eq_true rfl) dX8_next_1 ⟨⟨by decide, by decide⟩, by decide, by decide⟩ ?_
  refine lv_if_eq (tgt := 15) C.hx C.hb dX8_next_4 (by decide) (fun c1 => ?_) (fun c1 => ?_)
  · refine lv_iconst (v := (-1)) C.hx C.hb dX8_next_15 (by decide) ?_
    exact rI C hr dX8_next_16 (by unfold s_X8_next; rw [if_pos c1])
  · obtain ⟨jN, hjN, rfl⟩ := isJudge_nz c1
    have tjN : tn (nI jN) = jN := nI_clamp (by omega)
    refine lv_aload_n C.hx C.hb dX8_next_7 rfl (lv_at hl 0 rfl) ?_
    refine lv_iload_n C.hx C.hb dX8_next_8 rfl (lv_at hl 1 rfl) ?_
    refine kVR (As := [.int (nI jN)]) (rest := []) (v := .int (s_X8_nextOf x z jN)) C (cM_nextOf l G m0 x z hI jN (show jN < 20 by omega)) lk_X8_181 (g_recv C hW.1 rfl) hW rfl rfl hl (Nat.le_of_ble_eq_true rfl) dX8_next_9 ⟨⟨by decide, by decide⟩, by decide, by decide⟩ ?_
    refine lv_goto (tgt := 16) C.hx C.hb dX8_next_12 (by decide) ?_
    exact rI C hr dX8_next_16 (by unfold s_X8_next; (try simp only [tjN]); rw [if_neg c1])
def f_X8_late_5_1 (x : Nat → Nat → Int32) : Nat → Int32 → Int32 := fun i1 a => (if (s_X8_lateBy x i1) ≤ 0 then a else (if (a) < 0 then nI i1 else (if (s_X8_lateBy x i1) ≤ (s_X8_lateBy x (tn (a))) then a else nI i1 : Int32) : Int32) : Int32)
def s_X8_late (x : Nat → Nat → Int32) : Int32 := itr (f_X8_late_5_1 x) (-4) (nC x)
set_option maxRecDepth 100000 in
set_option maxHeartbeats 400000 in
theorem cM_late (l : Launch) (G : GG) (m0 : Nat) (x : Nat → Nat → Int32) (z : Nat → Int64) (hI : MI x) : MR l G yX8_late cX8_late 3 (some .int) 2 [.ref m0] (MWd G m0 x z) (some (.int (s_X8_late x))) := by
  refine MR.of RX8 rfl (by decide) (Nat.le_of_ble_eq_true rfl) ?_
  intro p_ e_ s_ m_ args_ below_ meth_ c_ ls hargs C hr hnm hW hl
  obtain ⟨⟨eP, bP⟩, ⟨eC, bC⟩, ⟨eG, bG⟩, ⟨eV, bV⟩, -, -⟩ := id hI
  have hl : lv_has ls 3 [(0, .ref m0)] := hl
  refine lv_bipush (v := (-4)) C.hx C.hb dX8_late_0 (by decide) ?_
  refine lv_istore_n (lv' := [(1, .int ((-4))), (0, .ref m0)]) C.hx C.hb dX8_late_2 rfl hl (by decide) rfl (fun ls hl => ?_)
  refine lv_iconst (v := 0) C.hx C.hb dX8_late_3 (by decide) ?_
  refine lv_istore_n (lv' := [(2, .int 0), (1, .int ((-4))), (0, .ref m0)]) C.hx C.hb dX8_late_4 rfl hl (by decide) rfl (fun ls hl => ?_)
  refine W.loopR (N := nC x) (Inv := fun i ls => lv_has ls 3 [(2, .int (nI i)), (1, .int (itr (f_X8_late_5_1 x) (-4) i)), (0, .ref m0)] ∧ best_ok (itr (f_X8_late_5_1 x) (-4) i) i) 5 [] (fun i1 ls hi1 hq K1 => ?_) (fun ls hq => ?_) 0 ls (Nat.zero_le _) ⟨lv_sub hl [0, 1, 2] rfl, Or.inl rfl⟩
  · obtain ⟨hl, hbo⟩ := hq
    refine lv_iload_n C.hx C.hb dX8_late_5 rfl (lv_at hl 0 rfl) ?_
    refine lv_aload_n C.hx C.hb dX8_late_6 rfl (lv_at hl 2 rfl) ?_
    refine g_get (k := 27) (v := .int (x 27 0)) C hW.1 rfl wu_X8 (by decide) wf_X8_133 rfl rfl dX8_late_7 ?_
    refine lv_icmp_ge (tgt := 46) C.hx C.hb dX8_late_10 (by decide) (fun c1 => ?_) (fun c1 => ?_)
    · exact absurd c1 (lt_nle eC hi1 (by omega))
    · refine lv_aload_n C.hx C.hb dX8_late_13 rfl (lv_at hl 2 rfl) ?_
      refine lv_iload_n C.hx C.hb dX8_late_14 rfl (lv_at hl 0 rfl) ?_
      refine kVR (As := [.int (nI i1)]) (rest := []) (v := .int (s_X8_lateBy x i1)) C (cM_lateBy l G m0 x z hI i1 (show i1 < nC x by omega)) lk_X8_203 (g_recv C hW.1 rfl) hW rfl rfl hl (Nat.le_of_ble_eq_true rfl) dX8_late_15 ⟨⟨by decide, by decide⟩, by decide, by decide⟩ ?_
      refine W.joinL (P := fun ls => lv_has ls 3 [(2, .int (nI i1)), (1, .int ((if (s_X8_lateBy x i1) ≤ 0 then itr (f_X8_late_5_1 x) (-4) i1 else (if (itr (f_X8_late_5_1 x) (-4) i1) < 0 then nI i1 else (if (s_X8_lateBy x i1) ≤ (s_X8_lateBy x (tn (itr (f_X8_late_5_1 x) (-4) i1))) then itr (f_X8_late_5_1 x) (-4) i1 else nI i1 : Int32) : Int32) : Int32))), (0, .ref m0)]) 40 [] (fun J6 => ?_) (fun ls hl => ?_)
      · refine lv_if_le (tgt := 40) C.hx C.hb dX8_late_18 (by decide) (fun c2 => ?_) (fun c2 => ?_)
        · exact J6 _ (by rw [show (if (s_X8_lateBy x i1) ≤ 0 then itr (f_X8_late_5_1 x) (-4) i1 else (if (itr (f_X8_late_5_1 x) (-4) i1) < 0 then nI i1 else (if (s_X8_lateBy x i1) ≤ (s_X8_lateBy x (tn (itr (f_X8_late_5_1 x) (-4) i1))) then itr (f_X8_late_5_1 x) (-4) i1 else nI i1 : Int32) : Int32) : Int32) = itr (f_X8_late_5_1 x) (-4) i1 from by rw [if_pos c2]]; exact lv_sub hl [0, 1, 2] rfl)
        · refine lv_iload_n C.hx C.hb dX8_late_21 rfl (lv_at hl 1 rfl) ?_
          refine lv_if_lt (tgt := 38) C.hx C.hb dX8_late_22 (by decide) (fun c3 => ?_) (fun c3 => ?_)
          · refine lv_iload_n C.hx C.hb dX8_late_38 rfl (lv_at hl 0 rfl) ?_
            refine lv_istore_n (lv' := [(1, .int (nI i1)), (2, .int (nI i1)), (0, .ref m0)]) C.hx C.hb dX8_late_39 rfl hl (by decide) rfl (fun ls hl => ?_)
            exact J6 _ (by rw [show (if (s_X8_lateBy x i1) ≤ 0 then itr (f_X8_late_5_1 x) (-4) i1 else (if (itr (f_X8_late_5_1 x) (-4) i1) < 0 then nI i1 else (if (s_X8_lateBy x i1) ≤ (s_X8_lateBy x (tn (itr (f_X8_late_5_1 x) (-4) i1))) then itr (f_X8_late_5_1 x) (-4) i1 else nI i1 : Int32) : Int32) : Int32) = nI i1 from by rw [if_neg c2, if_pos c3]]; exact lv_sub hl [1, 0, 2] rfl)
          · have b4 := best_nn hbo c3
            have b4b : tn (itr (f_X8_late_5_1 x) (-4) i1) < i1 := b4.2
            refine lv_aload_n C.hx C.hb dX8_late_25 rfl (lv_at hl 2 rfl) ?_
            refine lv_iload_n C.hx C.hb dX8_late_26 rfl (lv_at hl 0 rfl) ?_
            refine kVR (As := [.int (nI i1)]) (rest := []) (v := .int (s_X8_lateBy x i1)) C (cM_lateBy l G m0 x z hI i1 (show i1 < nC x by omega)) lk_X8_203 (g_recv C hW.1 rfl) hW rfl rfl hl (Nat.le_of_ble_eq_true rfl) dX8_late_27 ⟨⟨by decide, by decide⟩, by decide, by decide⟩ ?_
            refine lv_aload_n C.hx C.hb dX8_late_30 rfl (lv_at hl 2 rfl) ?_
            refine lv_iload_n C.hx C.hb dX8_late_31 rfl (lv_at hl 1 rfl) ?_
            refine W.eq (g2 := F0 m_ 32 ls [.int (nI (tn (itr (f_X8_late_5_1 x) (-4) i1))), .ref m0, .int (s_X8_lateBy x i1)]) (congrArg (fun jq => F0 m_ 32 ls [.int jq, .ref m0, .int (s_X8_lateBy x i1)]) b4.1) ?_
            refine kVR (As := [.int (nI (tn (itr (f_X8_late_5_1 x) (-4) i1)))]) (rest := [.int (s_X8_lateBy x i1)]) (v := .int (s_X8_lateBy x (tn (itr (f_X8_late_5_1 x) (-4) i1)))) C (cM_lateBy l G m0 x z hI (tn (itr (f_X8_late_5_1 x) (-4) i1)) (show (tn (itr (f_X8_late_5_1 x) (-4) i1)) < nC x by omega)) lk_X8_203 (g_recv C hW.1 rfl) hW rfl rfl hl (Nat.le_of_ble_eq_true rfl) dX8_late_32 ⟨⟨by decide, by decide⟩, by decide, by decide⟩ ?_
            refine lv_icmp_le (tgt := 40) C.hx C.hb dX8_late_35 (by decide) (fun c5 => ?_) (fun c5 => ?_)
            · exact J6 _ (by rw [show (if (s_X8_lateBy x i1) ≤ 0 then itr (f_X8_late_5_1 x) (-4) i1 else (if (itr (f_X8_late_5_1 x) (-4) i1) < 0 then nI i1 else (if (s_X8_lateBy x i1) ≤ (s_X8_lateBy x (tn (itr (f_X8_late_5_1 x) (-4) i1))) then itr (f_X8_late_5_1 x) (-4) i1 else nI i1 : Int32) : Int32) : Int32) = itr (f_X8_late_5_1 x) (-4) i1 from by rw [if_neg c2, if_neg c3, if_pos c5]]; exact lv_sub hl [0, 1, 2] rfl)
            · refine lv_iload_n C.hx C.hb dX8_late_38 rfl (lv_at hl 0 rfl) ?_
              refine lv_istore_n (lv' := [(1, .int (nI i1)), (2, .int (nI i1)), (0, .ref m0)]) C.hx C.hb dX8_late_39 rfl hl (by decide) rfl (fun ls hl => ?_)
              exact J6 _ (by rw [show (if (s_X8_lateBy x i1) ≤ 0 then itr (f_X8_late_5_1 x) (-4) i1 else (if (itr (f_X8_late_5_1 x) (-4) i1) < 0 then nI i1 else (if (s_X8_lateBy x i1) ≤ (s_X8_lateBy x (tn (itr (f_X8_late_5_1 x) (-4) i1))) then itr (f_X8_late_5_1 x) (-4) i1 else nI i1 : Int32) : Int32) : Int32) = nI i1 from by rw [if_neg c2, if_neg c3, if_neg c5]]; exact lv_sub hl [1, 0, 2] rfl)
      · refine lv_iinc (v := (nI i1) + 1) (lv' := [(2, .int ((nI i1) + 1)), (1, .int ((if (s_X8_lateBy x i1) ≤ 0 then itr (f_X8_late_5_1 x) (-4) i1 else (if (itr (f_X8_late_5_1 x) (-4) i1) < 0 then nI i1 else (if (s_X8_lateBy x i1) ≤ (s_X8_lateBy x (tn (itr (f_X8_late_5_1 x) (-4) i1))) then itr (f_X8_late_5_1 x) (-4) i1 else nI i1 : Int32) : Int32) : Int32))), (0, .ref m0)]) C.hx C.hb dX8_late_40 hl (k := 0) rfl rfl (by decide) rfl (fun ls hl => ?_)
        refine lv_goto (tgt := 5) C.hx C.hb dX8_late_43 (by decide) ?_
        rw [nI_1 i1] at hl
        exact K1 _ ⟨lv_sub hl [0, 1, 2] rfl, by show best_ok ((f_X8_late_5_1 x) _ _) _; unfold f_X8_late_5_1; (repeat' split) <;> first | exact best_newN (by omega) | exact best_old hbo⟩
  · obtain ⟨hl, hbo⟩ := hq
    refine lv_iload_n C.hx C.hb dX8_late_5 rfl (lv_at hl 0 rfl) ?_
    refine lv_aload_n C.hx C.hb dX8_late_6 rfl (lv_at hl 2 rfl) ?_
    refine g_get (k := 27) (v := .int (x 27 0)) C hW.1 rfl wu_X8 (by decide) wf_X8_133 rfl rfl dX8_late_7 ?_
    refine lv_icmp_ge (tgt := 46) C.hx C.hb dX8_late_10 (by decide) (fun c7 => ?_) (fun c7 => ?_)
    · refine lv_iload_n C.hx C.hb dX8_late_46 rfl (lv_at hl 1 rfl) ?_
      exact rI C hr dX8_late_47 (by unfold s_X8_late; with_reducible rfl)
    · exact absurd (le_eqn eC) c7
def f_X8_check_4_1 (x : Nat → Nat → Int32) : Nat → Int32 → Int32 := fun i1 a => (if (a) = 0 then (if (s_X8_isAsking x i1) = 0 then 0 else (if ((s_X8_votesOf x i1) + (s_X8_giftsOf x (-1) (nI i1))) ≤ (x 19 i1) then 0 else 1 : Int32) : Int32) else 1 : Int32)
def f_X8_check_61_2 (x : Nat → Nat → Int32) : Nat → Int32 → Int32 := fun i2 a => (if (a) = 0 then (if (s_X8_giftsOf x (nI i2) (-1)) ≤ 20 then 0 else 1 : Int32) else 1 : Int32)
def f_X8_check_142_3 (x : Nat → Nat → Int32) (i3 : Nat) : Nat → Int32 → Int32 := fun i4 a => (if (a) = 0 then (if (x 37 i4) = (x 37 i3) then (if (x 38 i4) = (x 38 i3) then 1 else 0 : Int32) else 0 : Int32) else 1 : Int32)
def f_X8_check_99_3 (x : Nat → Nat → Int32) : Nat → Int32 → Int32 := fun i3 a => itr (f_X8_check_142_3 x i3) (if (a) = 0 then (if (s_X8_giftsOf x (x 37 i3) (x 38 i3)) ≤ 0 then 0 else 1 : Int32) else 1 : Int32) i3
def s_X8_check (x : Nat → Nat → Int32) : Int32 := ((if (itr (f_X8_check_4_1 x) 0 (nC x)) = 0 then 0 else 1 : Int32) + (if (itr (f_X8_check_61_2 x) 0 20) = 0 then 0 else 1 : Int32)) + (if (itr (f_X8_check_99_3 x) 0 (nV x)) = 0 then 0 else 1 : Int32)
set_option maxRecDepth 100000 in
set_option maxHeartbeats 400000 in
theorem cM_check (l : Launch) (G : GG) (m0 : Nat) (x : Nat → Nat → Int32) (z : Nat → Int64) (hI : MI x) : MR l G yX8_check cX8_check 6 (some .int) 2 [.ref m0] (MWd G m0 x z) (some (.int (s_X8_check x))) := by
  refine MR.of RX8 rfl (by decide) (Nat.le_of_ble_eq_true rfl) ?_
  intro p_ e_ s_ m_ args_ below_ meth_ c_ ls hargs C hr hnm hW hl
  obtain ⟨⟨eP, bP⟩, ⟨eC, bC⟩, ⟨eG, bG⟩, ⟨eV, bV⟩, -, -⟩ := id hI
  have hl : lv_has ls 6 [(0, .ref m0)] := hl
  refine lv_iconst (v := 0) C.hx C.hb dX8_check_0 (by decide) ?_
  refine lv_istore_n (lv' := [(1, .int 0), (0, .ref m0)]) C.hx C.hb dX8_check_1 rfl hl (by decide) rfl (fun ls hl => ?_)
  refine lv_iconst (v := 0) C.hx C.hb dX8_check_2 (by decide) ?_
  refine lv_istore_n (lv' := [(2, .int 0), (1, .int 0), (0, .ref m0)]) C.hx C.hb dX8_check_3 rfl hl (by decide) rfl (fun ls hl => ?_)
  refine W.loopR (N := nC x) (Inv := fun i ls => lv_has ls 6 [(2, .int (nI i)), (1, .int (itr (f_X8_check_4_1 x) 0 i)), (0, .ref m0)]) 4 [] (fun i1 ls hi1 hl K1 => ?_) (fun ls hl => ?_) 0 ls (Nat.zero_le _) (lv_sub hl [0, 1, 2] rfl)
  · refine lv_iload_n C.hx C.hb dX8_check_4 rfl (lv_at hl 0 rfl) ?_
    refine lv_aload_n C.hx C.hb dX8_check_5 rfl (lv_at hl 2 rfl) ?_
    refine g_get (k := 27) (v := .int (x 27 0)) C hW.1 rfl wu_X8 (by decide) wf_X8_133 rfl rfl dX8_check_6 ?_
    refine lv_icmp_ge (tgt := 57) C.hx C.hb dX8_check_9 (by decide) (fun c1 => ?_) (fun c1 => ?_)
    · exact absurd c1 (lt_nle eC hi1 (by omega))
    · refine lv_iload_n C.hx C.hb dX8_check_12 rfl (lv_at hl 1 rfl) ?_
      refine W.joinI (P := fun jv => jv = (if (itr (f_X8_check_4_1 x) 0 i1) = 0 then (if (s_X8_isAsking x i1) = 0 then 0 else (if ((s_X8_votesOf x i1) + (s_X8_giftsOf x (-1) (nI i1))) ≤ (x 19 i1) then 0 else 1 : Int32) : Int32) else 1 : Int32)) 50 ls [] (fun J5 => ?_) (fun v6 hv6 => ?_)
      · refine lv_if_ne (tgt := 45) C.hx C.hb dX8_check_13 (by decide) (fun c2 => ?_) (fun c2 => ?_)
        · refine lv_iconst (v := 1) C.hx C.hb dX8_check_45 (by decide) ?_
          refine lv_goto (tgt := 50) C.hx C.hb dX8_check_46 (by decide) ?_
          exact J5 _ (by rw [if_neg c2])
        · refine lv_aload_n C.hx C.hb dX8_check_16 rfl (lv_at hl 2 rfl) ?_
          refine lv_iload_n C.hx C.hb dX8_check_17 rfl (lv_at hl 0 rfl) ?_
          refine kVR (As := [.int (nI i1)]) (rest := []) (v := .int (s_X8_isAsking x i1)) C (cM_isAsking l G m0 x z hI i1 (show i1 < nC x by omega)) lk_X8_167 (g_recv C hW.1 rfl) hW rfl rfl hl (Nat.le_of_ble_eq_true rfl) dX8_check_18 ⟨⟨by decide, by decide⟩, by decide, by decide⟩ ?_
          refine lv_if_eq (tgt := 49) C.hx C.hb dX8_check_21 (by decide) (fun c3 => ?_) (fun c3 => ?_)
          · refine lv_iconst (v := 0) C.hx C.hb dX8_check_49 (by decide) ?_
            exact J5 _ (by rw [if_pos c2, if_pos c3])
          · refine lv_aload_n C.hx C.hb dX8_check_24 rfl (lv_at hl 2 rfl) ?_
            refine lv_iload_n C.hx C.hb dX8_check_25 rfl (lv_at hl 0 rfl) ?_
            refine kVR (As := [.int (nI i1)]) (rest := []) (v := .int (s_X8_votesOf x i1)) C (cM_votesOf l G m0 x z hI i1 (show i1 < nC x by omega)) lk_X8_174 (g_recv C hW.1 rfl) hW rfl rfl hl (Nat.le_of_ble_eq_true rfl) dX8_check_26 ⟨⟨by decide, by decide⟩, by decide, by decide⟩ ?_
            refine lv_aload_n C.hx C.hb dX8_check_29 rfl (lv_at hl 2 rfl) ?_
            refine lv_iconst (v := (-1)) C.hx C.hb dX8_check_30 (by decide) ?_
            refine lv_iload_n C.hx C.hb dX8_check_31 rfl (lv_at hl 0 rfl) ?_
            refine kVR (As := [.int ((-1)), .int (nI i1)]) (rest := [.int (s_X8_votesOf x i1)]) (v := .int (s_X8_giftsOf x (-1) (nI i1))) C (cM_giftsOf l G m0 x z hI (-1) (nI i1)) lk_X8_170 (g_recv C hW.1 rfl) hW rfl rfl hl (Nat.le_of_ble_eq_true rfl) dX8_check_32 ⟨⟨by decide, by decide⟩, by decide, by decide⟩ ?_
            refine lv_iadd C.hx C.hb dX8_check_35 ?_
            refine lv_aload_n C.hx C.hb dX8_check_36 rfl (lv_at hl 2 rfl) ?_
            refine g_get (k := 19) (v := .ref (am m0 19)) C hW.1 rfl wu_X8 (by decide) wf_X8_62 rfl rfl dX8_check_37 ?_
            refine lv_iload_n C.hx C.hb dX8_check_40 rfl (lv_at hl 0 rfl) ?_
            refine g_iald (f := x 19) (k := i1) C (hW.2.1 19 rfl) rfl (show i1 < 400 by omega) (by decide) dX8_check_41 ?_
            refine lv_icmp_le (tgt := 49) C.hx C.hb dX8_check_42 (by decide) (fun c4 => ?_) (fun c4 => ?_)
            · refine lv_iconst (v := 0) C.hx C.hb dX8_check_49 (by decide) ?_
              exact J5 _ (by rw [if_pos c2, if_neg c3, if_pos c4])
            · refine lv_iconst (v := 1) C.hx C.hb dX8_check_45 (by decide) ?_
              refine lv_goto (tgt := 50) C.hx C.hb dX8_check_46 (by decide) ?_
              exact J5 _ (by rw [if_pos c2, if_neg c3, if_neg c4])
      · refine lv_istore_n (lv' := [(1, .int v6), (2, .int (nI i1)), (0, .ref m0)]) C.hx C.hb dX8_check_50 rfl hl (by decide) rfl (fun ls hl => ?_)
        refine lv_iinc (v := (nI i1) + 1) (lv' := [(2, .int ((nI i1) + 1)), (1, .int v6), (0, .ref m0)]) C.hx C.hb dX8_check_51 hl (k := 1) rfl rfl (by decide) rfl (fun ls hl => ?_)
        refine lv_goto (tgt := 4) C.hx C.hb dX8_check_54 (by decide) ?_
        rw [hv6] at hl
        rw [nI_1 i1] at hl
        exact K1 _ (lv_sub hl [0, 1, 2] rfl)
  · refine lv_iload_n C.hx C.hb dX8_check_4 rfl (lv_at hl 0 rfl) ?_
    refine lv_aload_n C.hx C.hb dX8_check_5 rfl (lv_at hl 2 rfl) ?_
    refine g_get (k := 27) (v := .int (x 27 0)) C hW.1 rfl wu_X8 (by decide) wf_X8_133 rfl rfl dX8_check_6 ?_
    refine lv_icmp_ge (tgt := 57) C.hx C.hb dX8_check_9 (by decide) (fun c7 => ?_) (fun c7 => ?_)
    · refine lv_iconst (v := 0) C.hx C.hb dX8_check_57 (by decide) ?_
      refine lv_istore_n (lv' := [(2, .int 0), (1, .int (itr (f_X8_check_4_1 x) 0 (nC x))), (0, .ref m0)]) C.hx C.hb dX8_check_58 rfl hl (by decide) rfl (fun ls hl => ?_)
      refine lv_iconst (v := 0) C.hx C.hb dX8_check_59 (by decide) ?_
      refine lv_istore_n (lv' := [(3, .int 0), (2, .int 0), (1, .int (itr (f_X8_check_4_1 x) 0 (nC x))), (0, .ref m0)]) C.hx C.hb dX8_check_60 rfl hl (by decide) rfl (fun ls hl => ?_)
      refine W.loopR (N := 20) (Inv := fun i ls => lv_has ls 6 [(3, .int (nI i)), (2, .int (itr (f_X8_check_61_2 x) 0 i)), (1, .int (itr (f_X8_check_4_1 x) 0 (nC x))), (0, .ref m0)]) 61 [] (fun i2 ls hi2 hl K2 => ?_) (fun ls hl => ?_) 0 ls (Nat.zero_le _) (lv_sub hl [0, 1, 2, 3] rfl)
      · refine lv_iload_n C.hx C.hb dX8_check_61 rfl (lv_at hl 0 rfl) ?_
        refine lv_bipush (v := 20) C.hx C.hb dX8_check_62 (by decide) ?_
        refine lv_icmp_ge (tgt := 94) C.hx C.hb dX8_check_64 (by decide) (fun c8 => ?_) (fun c8 => ?_)
        · exact absurd c8 (lt_nle (by decide) hi2 (by omega))
        · refine lv_iload_n C.hx C.hb dX8_check_67 rfl (lv_at hl 1 rfl) ?_
          refine W.joinI (P := fun jv => jv = (if (itr (f_X8_check_61_2 x) 0 i2) = 0 then (if (s_X8_giftsOf x (nI i2) (-1)) ≤ 20 then 0 else 1 : Int32) else 1 : Int32)) 87 ls [] (fun J11 => ?_) (fun v12 hv12 => ?_)
          · refine lv_if_ne (tgt := 82) C.hx C.hb dX8_check_68 (by decide) (fun c9 => ?_) (fun c9 => ?_)
            · refine lv_iconst (v := 1) C.hx C.hb dX8_check_82 (by decide) ?_
              refine lv_goto (tgt := 87) C.hx C.hb dX8_check_83 (by decide) ?_
              exact J11 _ (by rw [if_neg c9])
            · refine lv_aload_n C.hx C.hb dX8_check_71 rfl (lv_at hl 3 rfl) ?_
              refine lv_iload_n C.hx C.hb dX8_check_72 rfl (lv_at hl 0 rfl) ?_
              refine lv_iconst (v := (-1)) C.hx C.hb dX8_check_73 (by decide) ?_
              refine kVR (As := [.int (nI i2), .int ((-1))]) (rest := []) (v := .int (s_X8_giftsOf x (nI i2) (-1))) C (cM_giftsOf l G m0 x z hI (nI i2) (-1)) lk_X8_170 (g_recv C hW.1 rfl) hW rfl rfl hl (Nat.le_of_ble_eq_true rfl) dX8_check_74 ⟨⟨by decide, by decide⟩, by decide, by decide⟩ ?_
              refine lv_bipush (v := 20) C.hx C.hb dX8_check_77 (by decide) ?_
              refine lv_icmp_le (tgt := 86) C.hx C.hb dX8_check_79 (by decide) (fun c10 => ?_) (fun c10 => ?_)
              · refine lv_iconst (v := 0) C.hx C.hb dX8_check_86 (by decide) ?_
                exact J11 _ (by rw [if_pos c9, if_pos c10])
              · refine lv_iconst (v := 1) C.hx C.hb dX8_check_82 (by decide) ?_
                refine lv_goto (tgt := 87) C.hx C.hb dX8_check_83 (by decide) ?_
                exact J11 _ (by rw [if_pos c9, if_neg c10])
          · refine lv_istore_n (lv' := [(2, .int v12), (3, .int (nI i2)), (1, .int (itr (f_X8_check_4_1 x) 0 (nC x))), (0, .ref m0)]) C.hx C.hb dX8_check_87 rfl hl (by decide) rfl (fun ls hl => ?_)
            refine lv_iinc (v := (nI i2) + 1) (lv' := [(3, .int ((nI i2) + 1)), (2, .int v12), (1, .int (itr (f_X8_check_4_1 x) 0 (nC x))), (0, .ref m0)]) C.hx C.hb dX8_check_88 hl (k := 1) rfl rfl (by decide) rfl (fun ls hl => ?_)
            refine lv_goto (tgt := 61) C.hx C.hb dX8_check_91 (by decide) ?_
            rw [hv12] at hl
            rw [nI_1 i2] at hl
            exact K2 _ (lv_sub hl [0, 1, 2, 3] rfl)
      · refine lv_iload_n C.hx C.hb dX8_check_61 rfl (lv_at hl 0 rfl) ?_
        refine lv_bipush (v := 20) C.hx C.hb dX8_check_62 (by decide) ?_
        refine lv_icmp_ge (tgt := 94) C.hx C.hb dX8_check_64 (by decide) (fun c13 => ?_) (fun c13 => ?_)
        · refine lv_iconst (v := 0) C.hx C.hb dX8_check_94 (by decide) ?_
          refine lv_istore_n (lv' := [(3, .int 0), (2, .int (itr (f_X8_check_61_2 x) 0 20)), (1, .int (itr (f_X8_check_4_1 x) 0 (nC x))), (0, .ref m0)]) C.hx C.hb dX8_check_95 rfl hl (by decide) rfl (fun ls hl => ?_)
          refine lv_iconst (v := 0) C.hx C.hb dX8_check_96 (by decide) ?_
          refine lv_istore (lv' := [(4, .int 0), (3, .int 0), (2, .int (itr (f_X8_check_61_2 x) 0 20)), (1, .int (itr (f_X8_check_4_1 x) 0 (nC x))), (0, .ref m0)]) C.hx C.hb dX8_check_97 hl (by decide) rfl (fun ls hl => ?_)
          refine W.loopR (N := nV x) (Inv := fun i ls => lv_has ls 6 [(4, .int (nI i)), (3, .int (itr (f_X8_check_99_3 x) 0 i)), (2, .int (itr (f_X8_check_61_2 x) 0 20)), (1, .int (itr (f_X8_check_4_1 x) 0 (nC x))), (0, .ref m0)]) 99 [] (fun i3 ls hi3 hl K3 => ?_) (fun ls hl => ?_) 0 ls (Nat.zero_le _) (lv_sub hl [0, 1, 2, 3, 4] rfl)
          · refine lv_iload C.hx C.hb dX8_check_99 (lv_at hl 0 rfl) ?_
            refine lv_aload_n C.hx C.hb dX8_check_101 rfl (lv_at hl 4 rfl) ?_
            refine g_get (k := 42) (v := .int (x 42 0)) C hW.1 rfl wu_X8 (by decide) wf_X8_160 rfl rfl dX8_check_102 ?_
            refine lv_icmp_ge (tgt := 205) C.hx C.hb dX8_check_105 (by decide) (fun c14 => ?_) (fun c14 => ?_)
            · exact absurd c14 (lt_nle eV hi3 (by omega))
            · refine lv_iload_n C.hx C.hb dX8_check_108 rfl (lv_at hl 1 rfl) ?_
              refine W.joinI (P := fun jv => jv = (if (itr (f_X8_check_99_3 x) 0 i3) = 0 then (if (s_X8_giftsOf x (x 37 i3) (x 38 i3)) ≤ 0 then 0 else 1 : Int32) else 1 : Int32)) 138 ls [] (fun J18 => ?_) (fun v19 hv19 => ?_)
              · refine lv_if_ne (tgt := 133) C.hx C.hb dX8_check_109 (by decide) (fun c15 => ?_) (fun c15 => ?_)
                · refine lv_iconst (v := 1) C.hx C.hb dX8_check_133 (by decide) ?_
                  refine lv_goto (tgt := 138) C.hx C.hb dX8_check_134 (by decide) ?_
                  exact J18 _ (by rw [if_neg c15])
                · refine lv_aload_n C.hx C.hb dX8_check_112 rfl (lv_at hl 4 rfl) ?_
                  refine lv_aload_n C.hx C.hb dX8_check_113 rfl (lv_at hl 4 rfl) ?_
                  refine g_get (k := 37) (v := .ref (am m0 37)) C hW.1 rfl wu_X8 (by decide) wf_X8_109 rfl rfl dX8_check_114 ?_
                  refine lv_iload C.hx C.hb dX8_check_117 (lv_at hl 0 rfl) ?_
                  refine g_iald (f := x 37) (k := i3) C (hW.2.1 37 rfl) rfl (show i3 < 8000 by omega) (by decide) dX8_check_119 ?_
                  refine lv_aload_n C.hx C.hb dX8_check_120 rfl (lv_at hl 4 rfl) ?_
                  refine g_get (k := 38) (v := .ref (am m0 38)) C hW.1 rfl wu_X8 (by decide) wf_X8_112 rfl rfl dX8_check_121 ?_
                  refine lv_iload C.hx C.hb dX8_check_124 (lv_at hl 0 rfl) ?_
                  refine g_iald (f := x 38) (k := i3) C (hW.2.1 38 rfl) rfl (show i3 < 8000 by omega) (by decide) dX8_check_126 ?_
                  have f16 := MI.vc hI (show i3 < nV x by omega)
                  have f16b : tn (x 38 i3) < nC x := f16.2
                  refine kVR (As := [.int (x 37 i3), .int (x 38 i3)]) (rest := []) (v := .int (s_X8_giftsOf x (x 37 i3) (x 38 i3))) C (cM_giftsOf l G m0 x z hI (x 37 i3) (x 38 i3)) lk_X8_170 (g_recv C hW.1 rfl) hW rfl rfl hl (Nat.le_of_ble_eq_true rfl) dX8_check_127 ⟨⟨by decide, by decide⟩, by decide, by decide⟩ ?_
                  refine lv_if_le (tgt := 137) C.hx C.hb dX8_check_130 (by decide) (fun c17 => ?_) (fun c17 => ?_)
                  · refine lv_iconst (v := 0) C.hx C.hb dX8_check_137 (by decide) ?_
                    exact J18 _ (by rw [if_pos c15, if_pos c17])
                  · refine lv_iconst (v := 1) C.hx C.hb dX8_check_133 (by decide) ?_
                    refine lv_goto (tgt := 138) C.hx C.hb dX8_check_134 (by decide) ?_
                    exact J18 _ (by rw [if_pos c15, if_neg c17])
              · refine lv_istore_n (lv' := [(3, .int v19), (4, .int (nI i3)), (2, .int (itr (f_X8_check_61_2 x) 0 20)), (1, .int (itr (f_X8_check_4_1 x) 0 (nC x))), (0, .ref m0)]) C.hx C.hb dX8_check_138 rfl hl (by decide) rfl (fun ls hl => ?_)
                refine lv_iconst (v := 0) C.hx C.hb dX8_check_139 (by decide) ?_
                refine lv_istore (lv' := [(5, .int 0), (3, .int v19), (4, .int (nI i3)), (2, .int (itr (f_X8_check_61_2 x) 0 20)), (1, .int (itr (f_X8_check_4_1 x) 0 (nC x))), (0, .ref m0)]) C.hx C.hb dX8_check_140 hl (by decide) rfl (fun ls hl => ?_)
                refine W.loopR (N := i3) (Inv := fun i ls => lv_has ls 6 [(5, .int (nI i)), (3, .int (itr (f_X8_check_142_3 x i3) v19 i)), (4, .int (nI i3)), (2, .int (itr (f_X8_check_61_2 x) 0 20)), (1, .int (itr (f_X8_check_4_1 x) 0 (nC x))), (0, .ref m0)]) 142 [] (fun i4 ls hi4 hl K4 => ?_) (fun ls hl => ?_) 0 ls (Nat.zero_le _) (lv_sub hl [0, 1, 2, 3, 4, 5] rfl)
                · refine lv_iload C.hx C.hb dX8_check_142 (lv_at hl 0 rfl) ?_
                  refine lv_iload C.hx C.hb dX8_check_144 (lv_at hl 2 rfl) ?_
                  refine lv_icmp_ge (tgt := 199) C.hx C.hb dX8_check_146 (by decide) (fun c20 => ?_) (fun c20 => ?_)
                  · exact absurd c20 (lt_nle rfl hi4 (by omega))
                  · refine lv_iload_n C.hx C.hb dX8_check_149 rfl (lv_at hl 1 rfl) ?_
                    refine W.joinI (P := fun jv => jv = (if (itr (f_X8_check_142_3 x i3) v19 i4) = 0 then (if (x 37 i4) = (x 37 i3) then (if (x 38 i4) = (x 38 i3) then 1 else 0 : Int32) else 0 : Int32) else 1 : Int32)) 192 ls [] (fun J26 => ?_) (fun v27 hv27 => ?_)
                    · refine lv_if_ne (tgt := 187) C.hx C.hb dX8_check_150 (by decide) (fun c21 => ?_) (fun c21 => ?_)
                      · refine lv_iconst (v := 1) C.hx C.hb dX8_check_187 (by decide) ?_
                        refine lv_goto (tgt := 192) C.hx C.hb dX8_check_188 (by decide) ?_
                        exact J26 _ (by rw [if_neg c21])
                      · refine lv_aload_n C.hx C.hb dX8_check_153 rfl (lv_at hl 5 rfl) ?_
                        refine g_get (k := 37) (v := .ref (am m0 37)) C hW.1 rfl wu_X8 (by decide) wf_X8_109 rfl rfl dX8_check_154 ?_
                        refine lv_iload C.hx C.hb dX8_check_157 (lv_at hl 0 rfl) ?_
                        refine g_iald (f := x 37) (k := i4) C (hW.2.1 37 rfl) rfl (show i4 < 8000 by omega) (by decide) dX8_check_159 ?_
                        refine lv_aload_n C.hx C.hb dX8_check_160 rfl (lv_at hl 5 rfl) ?_
                        refine g_get (k := 37) (v := .ref (am m0 37)) C hW.1 rfl wu_X8 (by decide) wf_X8_109 rfl rfl dX8_check_161 ?_
                        refine lv_iload C.hx C.hb dX8_check_164 (lv_at hl 2 rfl) ?_
                        refine g_iald (f := x 37) (k := i3) C (hW.2.1 37 rfl) rfl (show i3 < 8000 by omega) (by decide) dX8_check_166 ?_
                        refine lv_icmp_ne (tgt := 191) C.hx C.hb dX8_check_167 (by decide) (fun c22 => ?_) (fun c22 => ?_)
                        · refine lv_iconst (v := 0) C.hx C.hb dX8_check_191 (by decide) ?_
                          exact J26 _ (by rw [if_pos c21, if_neg c22])
                        · refine lv_aload_n C.hx C.hb dX8_check_170 rfl (lv_at hl 5 rfl) ?_
                          refine g_get (k := 38) (v := .ref (am m0 38)) C hW.1 rfl wu_X8 (by decide) wf_X8_112 rfl rfl dX8_check_171 ?_
                          refine lv_iload C.hx C.hb dX8_check_174 (lv_at hl 0 rfl) ?_
                          refine g_iald (f := x 38) (k := i4) C (hW.2.1 38 rfl) rfl (show i4 < 8000 by omega) (by decide) dX8_check_176 ?_
                          have f23 := MI.vc hI (show i4 < nV x by omega)
                          have f23b : tn (x 38 i4) < nC x := f23.2
                          refine lv_aload_n C.hx C.hb dX8_check_177 rfl (lv_at hl 5 rfl) ?_
                          refine g_get (k := 38) (v := .ref (am m0 38)) C hW.1 rfl wu_X8 (by decide) wf_X8_112 rfl rfl dX8_check_178 ?_
                          refine lv_iload C.hx C.hb dX8_check_181 (lv_at hl 2 rfl) ?_
                          refine g_iald (f := x 38) (k := i3) C (hW.2.1 38 rfl) rfl (show i3 < 8000 by omega) (by decide) dX8_check_183 ?_
                          have f24 := MI.vc hI (show i3 < nV x by omega)
                          have f24b : tn (x 38 i3) < nC x := f24.2
                          refine lv_icmp_ne (tgt := 191) C.hx C.hb dX8_check_184 (by decide) (fun c25 => ?_) (fun c25 => ?_)
                          · refine lv_iconst (v := 0) C.hx C.hb dX8_check_191 (by decide) ?_
                            exact J26 _ (by rw [if_pos c21, if_pos c22, if_neg c25])
                          · refine lv_iconst (v := 1) C.hx C.hb dX8_check_187 (by decide) ?_
                            refine lv_goto (tgt := 192) C.hx C.hb dX8_check_188 (by decide) ?_
                            exact J26 _ (by rw [if_pos c21, if_pos c22, if_pos c25])
                    · refine lv_istore_n (lv' := [(3, .int v27), (5, .int (nI i4)), (4, .int (nI i3)), (2, .int (itr (f_X8_check_61_2 x) 0 20)), (1, .int (itr (f_X8_check_4_1 x) 0 (nC x))), (0, .ref m0)]) C.hx C.hb dX8_check_192 rfl hl (by decide) rfl (fun ls hl => ?_)
                      refine lv_iinc (v := (nI i4) + 1) (lv' := [(5, .int ((nI i4) + 1)), (3, .int v27), (4, .int (nI i3)), (2, .int (itr (f_X8_check_61_2 x) 0 20)), (1, .int (itr (f_X8_check_4_1 x) 0 (nC x))), (0, .ref m0)]) C.hx C.hb dX8_check_193 hl (k := 1) rfl rfl (by decide) rfl (fun ls hl => ?_)
                      refine lv_goto (tgt := 142) C.hx C.hb dX8_check_196 (by decide) ?_
                      rw [hv27] at hl
                      rw [nI_1 i4] at hl
                      exact K4 _ (lv_sub hl [0, 1, 2, 3, 4, 5] rfl)
                · refine lv_iload C.hx C.hb dX8_check_142 (lv_at hl 0 rfl) ?_
                  refine lv_iload C.hx C.hb dX8_check_144 (lv_at hl 2 rfl) ?_
                  refine lv_icmp_ge (tgt := 199) C.hx C.hb dX8_check_146 (by decide) (fun c28 => ?_) (fun c28 => ?_)
                  · refine lv_iinc (v := (nI i3) + 1) (lv' := [(4, .int ((nI i3) + 1)), (5, .int (nI i3)), (3, .int (itr (f_X8_check_142_3 x i3) v19 i3)), (2, .int (itr (f_X8_check_61_2 x) 0 20)), (1, .int (itr (f_X8_check_4_1 x) 0 (nC x))), (0, .ref m0)]) C.hx C.hb dX8_check_199 hl (k := 2) rfl rfl (by decide) rfl (fun ls hl => ?_)
                    refine lv_goto (tgt := 99) C.hx C.hb dX8_check_202 (by decide) ?_
                    rw [hv19] at hl
                    rw [nI_1 i3] at hl
                    exact K3 _ (lv_sub hl [0, 2, 3, 4, 5] rfl)
                  · exact absurd (le_eqn rfl) c28
          · refine lv_iload C.hx C.hb dX8_check_99 (lv_at hl 0 rfl) ?_
            refine lv_aload_n C.hx C.hb dX8_check_101 rfl (lv_at hl 4 rfl) ?_
            refine g_get (k := 42) (v := .int (x 42 0)) C hW.1 rfl wu_X8 (by decide) wf_X8_160 rfl rfl dX8_check_102 ?_
            refine lv_icmp_ge (tgt := 205) C.hx C.hb dX8_check_105 (by decide) (fun c29 => ?_) (fun c29 => ?_)
            · refine lv_iload_n C.hx C.hb dX8_check_205 rfl (lv_at hl 3 rfl) ?_
              refine W.joinI (P := fun jv => jv = (if (itr (f_X8_check_4_1 x) 0 (nC x)) = 0 then 0 else 1 : Int32)) 214 ls [] (fun J31 => ?_) (fun v32 hv32 => ?_)
              · refine lv_if_eq (tgt := 213) C.hx C.hb dX8_check_206 (by decide) (fun c30 => ?_) (fun c30 => ?_)
                · refine lv_iconst (v := 0) C.hx C.hb dX8_check_213 (by decide) ?_
                  exact J31 _ (by rw [if_pos c30])
                · refine lv_iconst (v := 1) C.hx C.hb dX8_check_209 (by decide) ?_
                  refine lv_goto (tgt := 214) C.hx C.hb dX8_check_210 (by decide) ?_
                  exact J31 _ (by rw [if_neg c30])
              · refine lv_iload_n C.hx C.hb dX8_check_214 rfl (lv_at hl 2 rfl) ?_
                refine W.joinI (P := fun jv => jv = (if (itr (f_X8_check_61_2 x) 0 20) = 0 then 0 else 1 : Int32)) 223 ls [.int v32] (fun J34 => ?_) (fun v35 hv35 => ?_)
                · refine lv_if_eq (tgt := 222) C.hx C.hb dX8_check_215 (by decide) (fun c33 => ?_) (fun c33 => ?_)
                  · refine lv_iconst (v := 0) C.hx C.hb dX8_check_222 (by decide) ?_
                    exact J34 _ (by rw [if_pos c33])
                  · refine lv_iconst (v := 1) C.hx C.hb dX8_check_218 (by decide) ?_
                    refine lv_goto (tgt := 223) C.hx C.hb dX8_check_219 (by decide) ?_
                    exact J34 _ (by rw [if_neg c33])
                · refine lv_iadd C.hx C.hb dX8_check_223 ?_
                  refine lv_iload_n C.hx C.hb dX8_check_224 rfl (lv_at hl 1 rfl) ?_
                  refine W.joinI (P := fun jv => jv = (if (itr (f_X8_check_99_3 x) 0 (nV x)) = 0 then 0 else 1 : Int32)) 233 ls [.int (v32 + v35)] (fun J37 => ?_) (fun v38 hv38 => ?_)
                  · refine lv_if_eq (tgt := 232) C.hx C.hb dX8_check_225 (by decide) (fun c36 => ?_) (fun c36 => ?_)
                    · refine lv_iconst (v := 0) C.hx C.hb dX8_check_232 (by decide) ?_
                      exact J37 _ (by rw [if_pos c36])
                    · refine lv_iconst (v := 1) C.hx C.hb dX8_check_228 (by decide) ?_
                      refine lv_goto (tgt := 233) C.hx C.hb dX8_check_229 (by decide) ?_
                      exact J37 _ (by rw [if_neg c36])
                  · refine lv_iadd C.hx C.hb dX8_check_233 ?_
                    exact rI C hr dX8_check_234 (by rw [hv38]; rw [hv35]; rw [hv32]; unfold s_X8_check; with_reducible rfl)
            · exact absurd (le_eqn eV) c29
        · exact absurd (le_eqn (by decide)) c13
    · exact absurd (le_eqn eC) c7
def q_X8_complain_26 (x : Nat → Nat → Int32) (pp : Int32) (rN : Nat) : Nat → Bool := fun i1 => (if (x 13 i1) = pp then (if (x 14 i1) = (nI rN) then true else false) else false)
def s_X8_complain (x : Nat → Nat → Int32) (pp : Int32) (r : Int32) : Int32 := (if pp < 0 then (-1) else (if (x 12 0) ≤ pp then (-1) else (if (s_X8_within r 0 7) = 0 then (-1) else (if hasv (q_X8_complain_26 x pp (tn r)) (nC x) = true then nI (fstv (q_X8_complain_26 x pp (tn r)) (nC x)) else (if (x 27 0) = 400 then (-2) else x 27 0)))))
def sx_X8_complain (x : Nat → Nat → Int32) (pp : Int32) (r : Int32) : Nat → Nat → Int32 := (if pp < 0 then x else (if (x 12 0) ≤ pp then x else (if (s_X8_within r 0 7) = 0 then x else (if hasv (q_X8_complain_26 x pp (tn r)) (nC x) = true then (up2 x 16 (fstv (q_X8_complain_26 x pp (tn r)) (nC x)) ((x 16 (fstv (q_X8_complain_26 x pp (tn r)) (nC x))) + 1)) else (if (x 27 0) = 400 then x else (up2 (up2 (up2 (up2 (up2 (up2 (up2 (up2 (up2 (up2 (up2 (up2 (up2 x 13 (nC x) pp) 14 (nC x) r) 15 (nC x) 0) 16 (nC x) 1) 17 (nC x) (x 1 (tn r))) 18 (nC x) (x 0 0)) 19 (nC x) ((2 * (x 1 (tn r))) + 1)) 20 (nC x) 0) 21 (nC x) 0) 22 (nC x) (-1)) 23 (2 * nC x) (-1)) 23 ((2 * nC x) + 1) (-1)) 27 0 ((x 27 0) + 1)))))))
set_option maxRecDepth 100000 in
set_option maxHeartbeats 400000 in
theorem cM_complain (l : Launch) (G : GG) (m0 : Nat) (x : Nat → Nat → Int32) (z : Nat → Int64) (hI : MI x) (pp : Int32) (r : Int32) : MW l G yX8_complain cX8_complain 4 (some .int) 1 [.ref m0, .int pp, .int r] (MWd G m0 x z) (some (.int (s_X8_complain x pp r))) (MWd G m0 (sx_X8_complain x pp r) z) (MA m0) 0 0 := by
  refine MW.of RX8 rfl (by decide) (Nat.le_of_ble_eq_true rfl) ?_
  intro p_ e_ s_ m_ args_ below_ meth_ c_ ls hargs C hr hnm hW hS hl
  obtain ⟨⟨eP, bP⟩, ⟨eC, bC⟩, ⟨eG, bG⟩, ⟨eV, bV⟩, -, -⟩ := id hI
  have hl : lv_has ls 4 [(0, .ref m0), (1, .int pp), (2, .int r)] := hl
  refine lv_iload_n C.hx C.hb dX8_complain_0 rfl (lv_at hl 1 rfl) ?_
  refine lv_if_lt (tgt := 22) C.hx C.hb dX8_complain_1 (by decide) (fun c1 => ?_) (fun c1 => ?_)
  · refine lv_iconst (v := (-1)) C.hx C.hb dX8_complain_22 (by decide) ?_
    exact wI C hr dX8_complain_23 hS (by unfold s_X8_complain; rw [if_pos c1]) (by unfold sx_X8_complain; rw [if_pos c1]; exact hW)
  · refine lv_iload_n C.hx C.hb dX8_complain_4 rfl (lv_at hl 1 rfl) ?_
    refine lv_aload_n C.hx C.hb dX8_complain_5 rfl (lv_at hl 0 rfl) ?_
    refine g_get (k := 12) (v := .int (x 12 0)) C hW.1 rfl wu_X8 (by decide) wf_X8_144 rfl rfl dX8_complain_6 ?_
    refine lv_icmp_ge (tgt := 22) C.hx C.hb dX8_complain_9 (by decide) (fun c2 => ?_) (fun c2 => ?_)
    · refine lv_iconst (v := (-1)) C.hx C.hb dX8_complain_22 (by decide) ?_
      exact wI C hr dX8_complain_23 hS (by unfold s_X8_complain; rw [if_neg c1, if_pos c2]) (by unfold sx_X8_complain; rw [if_neg c1, if_pos c2]; exact hW)
    · refine lv_iload_n C.hx C.hb dX8_complain_12 rfl (lv_at hl 2 rfl) ?_
      refine lv_iconst (v := 0) C.hx C.hb dX8_complain_13 (by decide) ?_
      refine lv_bipush (v := 7) C.hx C.hb dX8_complain_14 (by decide) ?_
      refine kSR (As := [.int r, .int 0, .int 7]) (rest := []) (v := .int (s_X8_within r 0 7)) C (cM_within l G r 0 7) lk_X8_136 trivial rfl rfl hl (Nat.le_of_ble_eq_true rfl) dX8_complain_16 ⟨⟨by decide, by decide⟩, by decide, by decide⟩ ?_
      refine lv_if_ne (tgt := 24) C.hx C.hb dX8_complain_19 (by decide) (fun c3 => ?_) (fun c3 => ?_)
      · obtain ⟨rN, hrN, rfl⟩ := within_nz (n := 7) c3 (by decide)
        have trN : tn (nI rN) = rN := nI_clamp (by omega)
        refine lv_iconst (v := 0) C.hx C.hb dX8_complain_24 (by decide) ?_
        refine lv_istore_n (lv' := [(3, .int 0), (0, .ref m0), (1, .int pp), (2, .int (nI rN))]) C.hx C.hb dX8_complain_25 rfl hl (by decide) rfl (fun ls hl => ?_)
        refine W.loopR (N := nC x) (Inv := fun i ls => lv_has ls 4 [(3, .int (nI i)), (0, .ref m0), (1, .int pp), (2, .int (nI rN))] ∧ hasv (q_X8_complain_26 x pp rN) i = false) 26 [] (fun i1 ls hi1 hq K1 => ?_) (fun ls hq => ?_) 0 ls (Nat.zero_le _) ⟨lv_sub hl [0, 1, 2, 3] rfl, rfl⟩
        · obtain ⟨hl, hno⟩ := hq
          refine lv_iload_n C.hx C.hb dX8_complain_26 rfl (lv_at hl 0 rfl) ?_
          refine lv_aload_n C.hx C.hb dX8_complain_27 rfl (lv_at hl 1 rfl) ?_
          refine g_get (k := 27) (v := .int (x 27 0)) C hW.1 rfl wu_X8 (by decide) wf_X8_133 rfl rfl dX8_complain_28 ?_
          refine lv_icmp_ge (tgt := 72) C.hx C.hb dX8_complain_31 (by decide) (fun c4 => ?_) (fun c4 => ?_)
          · exact absurd c4 (lt_nle eC hi1 (by omega))
          · refine lv_aload_n C.hx C.hb dX8_complain_34 rfl (lv_at hl 1 rfl) ?_
            refine g_get (k := 13) (v := .ref (am m0 13)) C hW.1 rfl wu_X8 (by decide) wf_X8_44 rfl rfl dX8_complain_35 ?_
            refine lv_iload_n C.hx C.hb dX8_complain_38 rfl (lv_at hl 0 rfl) ?_
            refine g_iald (f := x 13) (k := i1) C (hW.2.1 13 rfl) rfl (show i1 < 400 by omega) (by decide) dX8_complain_39 ?_
            have f5 := MI.po hI (show i1 < nC x by omega)
            have f5b : tn (x 13 i1) < nP x := f5.2
            refine lv_iload_n C.hx C.hb dX8_complain_40 rfl (lv_at hl 2 rfl) ?_
            refine lv_icmp_ne (tgt := 66) C.hx C.hb dX8_complain_41 (by decide) (fun c6 => ?_) (fun c6 => ?_)
            · refine lv_iinc (v := (nI i1) + 1) (lv' := [(3, .int ((nI i1) + 1)), (0, .ref m0), (1, .int pp), (2, .int (nI rN))]) C.hx C.hb dX8_complain_66 hl (k := 0) rfl rfl (by decide) rfl (fun ls hl => ?_)
              refine lv_goto (tgt := 26) C.hx C.hb dX8_complain_69 (by decide) ?_
              rw [nI_1 i1] at hl
              exact K1 _ ⟨lv_sub hl [0, 1, 2, 3] rfl, hasv_no hno (by unfold q_X8_complain_26; rw [if_neg c6])⟩
            · refine lv_aload_n C.hx C.hb dX8_complain_44 rfl (lv_at hl 1 rfl) ?_
              refine g_get (k := 14) (v := .ref (am m0 14)) C hW.1 rfl wu_X8 (by decide) wf_X8_47 rfl rfl dX8_complain_45 ?_
              refine lv_iload_n C.hx C.hb dX8_complain_48 rfl (lv_at hl 0 rfl) ?_
              refine g_iald (f := x 14) (k := i1) C (hW.2.1 14 rfl) rfl (show i1 < 400 by omega) (by decide) dX8_complain_49 ?_
              have f7 := MI.ru hI (show i1 < nC x by omega)
              have f7b : tn (x 14 i1) < 8 := f7.2
              refine lv_iload_n C.hx C.hb dX8_complain_50 rfl (lv_at hl 3 rfl) ?_
              refine lv_icmp_ne (tgt := 66) C.hx C.hb dX8_complain_51 (by decide) (fun c8 => ?_) (fun c8 => ?_)
              · refine lv_iinc (v := (nI i1) + 1) (lv' := [(3, .int ((nI i1) + 1)), (0, .ref m0), (1, .int pp), (2, .int (nI rN))]) C.hx C.hb dX8_complain_66 hl (k := 0) rfl rfl (by decide) rfl (fun ls hl => ?_)
                refine lv_goto (tgt := 26) C.hx C.hb dX8_complain_69 (by decide) ?_
                rw [nI_1 i1] at hl
                exact K1 _ ⟨lv_sub hl [0, 1, 2, 3] rfl, hasv_no hno (by unfold q_X8_complain_26; rw [if_pos c6, if_neg c8])⟩
              · refine lv_aload_n C.hx C.hb dX8_complain_54 rfl (lv_at hl 1 rfl) ?_
                refine g_get (k := 16) (v := .ref (am m0 16)) C hW.1 rfl wu_X8 (by decide) wf_X8_53 rfl rfl dX8_complain_55 ?_
                refine lv_iload_n C.hx C.hb dX8_complain_58 rfl (lv_at hl 0 rfl) ?_
                refine lv_dup2_11 C.hx C.hb dX8_complain_59 rfl rfl ?_
                refine g_iald (f := x 16) (k := i1) C (hW.2.1 16 rfl) rfl (show i1 < 400 by omega) (by decide) dX8_complain_60 ?_
                refine lv_iconst (v := 1) C.hx C.hb dX8_complain_61 (by decide) ?_
                refine lv_iadd C.hx C.hb dX8_complain_62 ?_
                refine g_iast (f := x 16) (k := i1) C hS (hW.2.1 16 rfl) (am_A (Or.inl rfl)) rfl (show i1 < 400 by omega) (by decide) dX8_complain_63 (fun H locs e1 o1 z1 hS => ?_)
                have hW : MWd G m0 (up2 x 16 i1 ((x 16 i1) + 1)) z H := MWd.putA 16 hW rfl e1 o1 (mfs_up rfl) (by decide) (by decide)
                refine lv_iload_n C.hx C.hb dX8_complain_64 rfl (lv_at hl 0 rfl) ?_
                have hk1 : hasv (q_X8_complain_26 x pp rN) (nC x) = true := hasv_yes hi1 (by unfold q_X8_complain_26; rw [if_pos c6, if_pos c8])
                have ei1 : fstv (q_X8_complain_26 x pp rN) (nC x) = i1 := fstv_eq hi1 hno (by unfold q_X8_complain_26; rw [if_pos c6, if_pos c8])
                exact wI C hr dX8_complain_65 hS (by unfold s_X8_complain; (try simp only [trN, ei1]); rw [if_neg c1, if_neg c2, if_neg c3, if_pos hk1]) (by unfold sx_X8_complain; (try simp only [trN, ei1]); rw [if_neg c1, if_neg c2, if_neg c3, if_pos hk1]; exact hW)
        · obtain ⟨hl, hno⟩ := hq
          have hk1 : ¬ hasv (q_X8_complain_26 x pp rN) (nC x) = true := by rw [hno]; decide
          refine lv_iload_n C.hx C.hb dX8_complain_26 rfl (lv_at hl 0 rfl) ?_
          refine lv_aload_n C.hx C.hb dX8_complain_27 rfl (lv_at hl 1 rfl) ?_
          refine g_get (k := 27) (v := .int (x 27 0)) C hW.1 rfl wu_X8 (by decide) wf_X8_133 rfl rfl dX8_complain_28 ?_
          refine lv_icmp_ge (tgt := 72) C.hx C.hb dX8_complain_31 (by decide) (fun c9 => ?_) (fun c9 => ?_)
          · refine lv_aload_n C.hx C.hb dX8_complain_72 rfl (lv_at hl 1 rfl) ?_
            refine g_get (k := 27) (v := .int (x 27 0)) C hW.1 rfl wu_X8 (by decide) wf_X8_133 rfl rfl dX8_complain_73 ?_
            refine lv_sipush (v := 400) C.hx C.hb dX8_complain_76 (by decide) ?_
            refine lv_icmp_ne (tgt := 85) C.hx C.hb dX8_complain_79 (by decide) (fun c10 => ?_) (fun c10 => ?_)
            · have gc10 : nC x < 400 := ne_lt (M := 400) eC c10 (by omega)
              refine lv_aload_n C.hx C.hb dX8_complain_85 rfl (lv_at hl 1 rfl) ?_
              refine g_get (k := 27) (v := .int (x 27 0)) C hW.1 rfl wu_X8 (by decide) wf_X8_133 rfl rfl dX8_complain_86 ?_
              refine lv_istore_n (lv' := [(3, .int (x 27 0)), (0, .ref m0), (1, .int pp), (2, .int (nI rN))]) C.hx C.hb dX8_complain_89 rfl hl (by decide) rfl (fun ls hl => ?_)
              refine lv_aload_n C.hx C.hb dX8_complain_90 rfl (lv_at hl 1 rfl) ?_
              refine g_get (k := 13) (v := .ref (am m0 13)) C hW.1 rfl wu_X8 (by decide) wf_X8_44 rfl rfl dX8_complain_91 ?_
              refine lv_iload_n C.hx C.hb dX8_complain_94 rfl (lv_at hl 0 rfl) ?_
              refine lv_iload_n C.hx C.hb dX8_complain_95 rfl (lv_at hl 2 rfl) ?_
              refine g_iast (f := x 13) (k := (nC x)) C hS (hW.2.1 13 rfl) (am_A (Or.inl rfl)) eC (show nC x < 400 by omega) (by decide) dX8_complain_96 (fun H locs e1 o1 z1 hS => ?_)
              have hW : MWd G m0 (up2 x 13 (nC x) pp) z H := MWd.putA 13 hW rfl e1 o1 (mfs_up rfl) (by decide) (by decide)
              refine lv_aload_n C.hx C.hb dX8_complain_97 rfl (lv_at hl 1 rfl) ?_
              refine g_get (k := 14) (v := .ref (am m0 14)) C hW.1 rfl wu_X8 (by decide) wf_X8_47 rfl rfl dX8_complain_98 ?_
              refine lv_iload_n C.hx C.hb dX8_complain_101 rfl (lv_at hl 0 rfl) ?_
              refine lv_iload_n C.hx C.hb dX8_complain_102 rfl (lv_at hl 3 rfl) ?_
              refine g_iast (f := x 14) (k := (nC x)) C hS (hW.2.1 14 rfl) (am_A (Or.inl rfl)) eC (show nC x < 400 by omega) (by decide) dX8_complain_103 (fun H locs e1 o1 z1 hS => ?_)
              have hW : MWd G m0 (up2 (up2 x 13 (nC x) pp) 14 (nC x) (nI rN)) z H := MWd.putA 14 hW rfl e1 o1 (mfs_up rfl) (by decide) (by decide)
              refine lv_aload_n C.hx C.hb dX8_complain_104 rfl (lv_at hl 1 rfl) ?_
              refine g_get (k := 15) (v := .ref (am m0 15)) C hW.1 rfl wu_X8 (by decide) wf_X8_50 rfl rfl dX8_complain_105 ?_
              refine lv_iload_n C.hx C.hb dX8_complain_108 rfl (lv_at hl 0 rfl) ?_
              refine lv_iconst (v := 0) C.hx C.hb dX8_complain_109 (by decide) ?_
              refine g_iast (f := x 15) (k := (nC x)) C hS (hW.2.1 15 rfl) (am_A (Or.inl rfl)) eC (show nC x < 400 by omega) (by decide) dX8_complain_110 (fun H locs e1 o1 z1 hS => ?_)
              have hW : MWd G m0 (up2 (up2 (up2 x 13 (nC x) pp) 14 (nC x) (nI rN)) 15 (nC x) 0) z H := MWd.putA 15 hW rfl e1 o1 (mfs_up rfl) (by decide) (by decide)
              refine lv_aload_n C.hx C.hb dX8_complain_111 rfl (lv_at hl 1 rfl) ?_
              refine g_get (k := 16) (v := .ref (am m0 16)) C hW.1 rfl wu_X8 (by decide) wf_X8_53 rfl rfl dX8_complain_112 ?_
              refine lv_iload_n C.hx C.hb dX8_complain_115 rfl (lv_at hl 0 rfl) ?_
              refine lv_iconst (v := 1) C.hx C.hb dX8_complain_116 (by decide) ?_
              refine g_iast (f := x 16) (k := (nC x)) C hS (hW.2.1 16 rfl) (am_A (Or.inl rfl)) eC (show nC x < 400 by omega) (by decide) dX8_complain_117 (fun H locs e1 o1 z1 hS => ?_)
              have hW : MWd G m0 (up2 (up2 (up2 (up2 x 13 (nC x) pp) 14 (nC x) (nI rN)) 15 (nC x) 0) 16 (nC x) 1) z H := MWd.putA 16 hW rfl e1 o1 (mfs_up rfl) (by decide) (by decide)
              refine lv_aload_n C.hx C.hb dX8_complain_118 rfl (lv_at hl 1 rfl) ?_
              refine g_get (k := 17) (v := .ref (am m0 17)) C hW.1 rfl wu_X8 (by decide) wf_X8_56 rfl rfl dX8_complain_119 ?_
              refine lv_iload_n C.hx C.hb dX8_complain_122 rfl (lv_at hl 0 rfl) ?_
              refine lv_aload_n C.hx C.hb dX8_complain_123 rfl (lv_at hl 1 rfl) ?_
              refine g_get (k := 1) (v := .ref (am m0 1)) C hW.1 rfl wu_X8 (by decide) wf_X8_9 rfl rfl dX8_complain_124 ?_
              refine lv_iload_n C.hx C.hb dX8_complain_127 rfl (lv_at hl 3 rfl) ?_
              refine g_iald (f := x 1) (k := rN) C (hW.2.1 1 rfl) rfl (show rN < 8 by omega) (by decide) dX8_complain_128 ?_
              refine g_iast (f := x 17) (k := (nC x)) C hS (hW.2.1 17 rfl) (am_A (Or.inl rfl)) eC (show nC x < 400 by omega) (by decide) dX8_complain_129 (fun H locs e1 o1 z1 hS => ?_)
              have hW : MWd G m0 (up2 (up2 (up2 (up2 (up2 x 13 (nC x) pp) 14 (nC x) (nI rN)) 15 (nC x) 0) 16 (nC x) 1) 17 (nC x) (x 1 rN)) z H := MWd.putA 17 hW rfl e1 o1 (mfs_up rfl) (by decide) (by decide)
              refine lv_aload_n C.hx C.hb dX8_complain_130 rfl (lv_at hl 1 rfl) ?_
              refine g_get (k := 18) (v := .ref (am m0 18)) C hW.1 rfl wu_X8 (by decide) wf_X8_59 rfl rfl dX8_complain_131 ?_
              refine lv_iload_n C.hx C.hb dX8_complain_134 rfl (lv_at hl 0 rfl) ?_
              refine lv_aload_n C.hx C.hb dX8_complain_135 rfl (lv_at hl 1 rfl) ?_
              refine g_get (k := 0) (v := .int (x 0 0)) C hW.1 rfl wu_X8 (by decide) wf_X8_140 rfl rfl dX8_complain_136 ?_
              refine g_iast (f := x 18) (k := (nC x)) C hS (hW.2.1 18 rfl) (am_A (Or.inl rfl)) eC (show nC x < 400 by omega) (by decide) dX8_complain_139 (fun H locs e1 o1 z1 hS => ?_)
              have hW : MWd G m0 (up2 (up2 (up2 (up2 (up2 (up2 x 13 (nC x) pp) 14 (nC x) (nI rN)) 15 (nC x) 0) 16 (nC x) 1) 17 (nC x) (x 1 rN)) 18 (nC x) (x 0 0)) z H := MWd.putA 18 hW rfl e1 o1 (mfs_up rfl) (by decide) (by decide)
              refine lv_aload_n C.hx C.hb dX8_complain_140 rfl (lv_at hl 1 rfl) ?_
              refine g_get (k := 19) (v := .ref (am m0 19)) C hW.1 rfl wu_X8 (by decide) wf_X8_62 rfl rfl dX8_complain_141 ?_
              refine lv_iload_n C.hx C.hb dX8_complain_144 rfl (lv_at hl 0 rfl) ?_
              refine lv_iconst (v := 2) C.hx C.hb dX8_complain_145 (by decide) ?_
              refine lv_aload_n C.hx C.hb dX8_complain_146 rfl (lv_at hl 1 rfl) ?_
              refine g_get (k := 1) (v := .ref (am m0 1)) C hW.1 rfl wu_X8 (by decide) wf_X8_9 rfl rfl dX8_complain_147 ?_
              refine lv_iload_n C.hx C.hb dX8_complain_150 rfl (lv_at hl 3 rfl) ?_
              refine g_iald (f := x 1) (k := rN) C (hW.2.1 1 rfl) rfl (show rN < 8 by omega) (by decide) dX8_complain_151 ?_
              refine lv_imul C.hx C.hb dX8_complain_152 ?_
              refine lv_iconst (v := 1) C.hx C.hb dX8_complain_153 (by decide) ?_
              refine lv_iadd C.hx C.hb dX8_complain_154 ?_
              refine g_iast (f := x 19) (k := (nC x)) C hS (hW.2.1 19 rfl) (am_A (Or.inl rfl)) eC (show nC x < 400 by omega) (by decide) dX8_complain_155 (fun H locs e1 o1 z1 hS => ?_)
              have hW : MWd G m0 (up2 (up2 (up2 (up2 (up2 (up2 (up2 x 13 (nC x) pp) 14 (nC x) (nI rN)) 15 (nC x) 0) 16 (nC x) 1) 17 (nC x) (x 1 rN)) 18 (nC x) (x 0 0)) 19 (nC x) ((2 * (x 1 rN)) + 1)) z H := MWd.putA 19 hW rfl e1 o1 (mfs_up rfl) (by decide) (by decide)
              refine lv_aload_n C.hx C.hb dX8_complain_156 rfl (lv_at hl 1 rfl) ?_
              refine g_get (k := 20) (v := .ref (am m0 20)) C hW.1 rfl wu_X8 (by decide) wf_X8_65 rfl rfl dX8_complain_157 ?_
              refine lv_iload_n C.hx C.hb dX8_complain_160 rfl (lv_at hl 0 rfl) ?_
              refine lv_iconst (v := 0) C.hx C.hb dX8_complain_161 (by decide) ?_
              refine g_iast (f := x 20) (k := (nC x)) C hS (hW.2.1 20 rfl) (am_A (Or.inl rfl)) eC (show nC x < 400 by omega) (by decide) dX8_complain_162 (fun H locs e1 o1 z1 hS => ?_)
              have hW : MWd G m0 (up2 (up2 (up2 (up2 (up2 (up2 (up2 (up2 x 13 (nC x) pp) 14 (nC x) (nI rN)) 15 (nC x) 0) 16 (nC x) 1) 17 (nC x) (x 1 rN)) 18 (nC x) (x 0 0)) 19 (nC x) ((2 * (x 1 rN)) + 1)) 20 (nC x) 0) z H := MWd.putA 20 hW rfl e1 o1 (mfs_up rfl) (by decide) (by decide)
              refine lv_aload_n C.hx C.hb dX8_complain_163 rfl (lv_at hl 1 rfl) ?_
              refine g_get (k := 21) (v := .ref (am m0 21)) C hW.1 rfl wu_X8 (by decide) wf_X8_68 rfl rfl dX8_complain_164 ?_
              refine lv_iload_n C.hx C.hb dX8_complain_167 rfl (lv_at hl 0 rfl) ?_
              refine lv_iconst (v := 0) C.hx C.hb dX8_complain_168 (by decide) ?_
              refine g_iast (f := x 21) (k := (nC x)) C hS (hW.2.1 21 rfl) (am_A (Or.inl rfl)) eC (show nC x < 400 by omega) (by decide) dX8_complain_169 (fun H locs e1 o1 z1 hS => ?_)
              have hW : MWd G m0 (up2 (up2 (up2 (up2 (up2 (up2 (up2 (up2 (up2 x 13 (nC x) pp) 14 (nC x) (nI rN)) 15 (nC x) 0) 16 (nC x) 1) 17 (nC x) (x 1 rN)) 18 (nC x) (x 0 0)) 19 (nC x) ((2 * (x 1 rN)) + 1)) 20 (nC x) 0) 21 (nC x) 0) z H := MWd.putA 21 hW rfl e1 o1 (mfs_up rfl) (by decide) (by decide)
              refine lv_aload_n C.hx C.hb dX8_complain_170 rfl (lv_at hl 1 rfl) ?_
              refine g_get (k := 22) (v := .ref (am m0 22)) C hW.1 rfl wu_X8 (by decide) wf_X8_71 rfl rfl dX8_complain_171 ?_
              refine lv_iload_n C.hx C.hb dX8_complain_174 rfl (lv_at hl 0 rfl) ?_
              refine lv_iconst (v := (-1)) C.hx C.hb dX8_complain_175 (by decide) ?_
              refine g_iast (f := x 22) (k := (nC x)) C hS (hW.2.1 22 rfl) (am_A (Or.inl rfl)) eC (show nC x < 400 by omega) (by decide) dX8_complain_176 (fun H locs e1 o1 z1 hS => ?_)
              have hW : MWd G m0 (up2 (up2 (up2 (up2 (up2 (up2 (up2 (up2 (up2 (up2 x 13 (nC x) pp) 14 (nC x) (nI rN)) 15 (nC x) 0) 16 (nC x) 1) 17 (nC x) (x 1 rN)) 18 (nC x) (x 0 0)) 19 (nC x) ((2 * (x 1 rN)) + 1)) 20 (nC x) 0) 21 (nC x) 0) 22 (nC x) (-1)) z H := MWd.putA 22 hW rfl e1 o1 (mfs_up rfl) (by decide) (by decide)
              refine lv_aload_n C.hx C.hb dX8_complain_177 rfl (lv_at hl 1 rfl) ?_
              refine g_get (k := 23) (v := .ref (am m0 23)) C hW.1 rfl wu_X8 (by decide) wf_X8_74 rfl rfl dX8_complain_178 ?_
              refine lv_iconst (v := 2) C.hx C.hb dX8_complain_181 (by decide) ?_
              refine lv_iload_n C.hx C.hb dX8_complain_182 rfl (lv_at hl 0 rfl) ?_
              refine lv_imul C.hx C.hb dX8_complain_183 ?_
              refine lv_iconst (v := (-1)) C.hx C.hb dX8_complain_184 (by decide) ?_
              refine g_iast (f := x 23) (k := (2 * nC x)) C hS (hW.2.1 23 rfl) (am_A (Or.inl rfl)) (nI_mulE (by decide) eC) (show (2 * nC x) < 800 by omega) (by decide) dX8_complain_185 (fun H locs e1 o1 z1 hS => ?_)
              have hW : MWd G m0 (up2 (up2 (up2 (up2 (up2 (up2 (up2 (up2 (up2 (up2 (up2 x 13 (nC x) pp) 14 (nC x) (nI rN)) 15 (nC x) 0) 16 (nC x) 1) 17 (nC x) (x 1 rN)) 18 (nC x) (x 0 0)) 19 (nC x) ((2 * (x 1 rN)) + 1)) 20 (nC x) 0) 21 (nC x) 0) 22 (nC x) (-1)) 23 (2 * nC x) (-1)) z H := MWd.putA 23 hW rfl e1 o1 (mfs_up rfl) (by decide) (by decide)
              refine lv_aload_n C.hx C.hb dX8_complain_186 rfl (lv_at hl 1 rfl) ?_
              refine g_get (k := 23) (v := .ref (am m0 23)) C hW.1 rfl wu_X8 (by decide) wf_X8_74 rfl rfl dX8_complain_187 ?_
              refine lv_iconst (v := 2) C.hx C.hb dX8_complain_190 (by decide) ?_
              refine lv_iload_n C.hx C.hb dX8_complain_191 rfl (lv_at hl 0 rfl) ?_
              refine lv_imul C.hx C.hb dX8_complain_192 ?_
              refine lv_iconst (v := 1) C.hx C.hb dX8_complain_193 (by decide) ?_
              refine lv_iadd C.hx C.hb dX8_complain_194 ?_
              refine lv_iconst (v := (-1)) C.hx C.hb dX8_complain_195 (by decide) ?_
              refine g_iast (f := (up2 (up2 (up2 (up2 (up2 (up2 (up2 (up2 (up2 (up2 (up2 x 13 (nC x) pp) 14 (nC x) (nI rN)) 15 (nC x) 0) 16 (nC x) 1) 17 (nC x) (x 1 rN)) 18 (nC x) (x 0 0)) 19 (nC x) ((2 * (x 1 rN)) + 1)) 20 (nC x) 0) 21 (nC x) 0) 22 (nC x) (-1)) 23 (2 * nC x) (-1)) 23) (k := ((2 * nC x) + 1)) C hS (hW.2.1 23 rfl) (am_A (Or.inl rfl)) (nI_addE (nI_mulE (by decide) eC) (by decide)) (show ((2 * nC x) + 1) < 800 by omega) (by decide) dX8_complain_196 (fun H locs e1 o1 z1 hS => ?_)
              have hW : MWd G m0 (up2 (up2 (up2 (up2 (up2 (up2 (up2 (up2 (up2 (up2 (up2 (up2 x 13 (nC x) pp) 14 (nC x) (nI rN)) 15 (nC x) 0) 16 (nC x) 1) 17 (nC x) (x 1 rN)) 18 (nC x) (x 0 0)) 19 (nC x) ((2 * (x 1 rN)) + 1)) 20 (nC x) 0) 21 (nC x) 0) 22 (nC x) (-1)) 23 (2 * nC x) (-1)) 23 ((2 * nC x) + 1) (-1)) z H := MWd.putA 23 hW rfl e1 o1 (mfs_up rfl) (by decide) (by decide)
              refine lv_aload_n C.hx C.hb dX8_complain_197 rfl (lv_at hl 1 rfl) ?_
              refine lv_dup C.hx C.hb dX8_complain_198 rfl ?_
              refine g_get (k := 27) (v := .int (x 27 0)) C hW.1 rfl wu_X8 (by decide) wf_X8_133 rfl rfl dX8_complain_199 ?_
              refine lv_iconst (v := 1) C.hx C.hb dX8_complain_202 (by decide) ?_
              refine lv_iadd C.hx C.hb dX8_complain_203 ?_
              refine g_put (k := 27) tyX8 C hS hW.1 MA_0 rfl wu_X8 tyX8_ok nmX8 (by decide) wf_X8_133 rfl rfl rfl rfl rfl (Nat.le_of_ble_eq_true rfl) dX8_complain_204 (fun H locs e1 o1 z1 hS => ?_)
              have hW : MWd G m0 (up2 (up2 (up2 (up2 (up2 (up2 (up2 (up2 (up2 (up2 (up2 (up2 (up2 x 13 (nC x) pp) 14 (nC x) (nI rN)) 15 (nC x) 0) 16 (nC x) 1) 17 (nC x) (x 1 rN)) 18 (nC x) (x 0 0)) 19 (nC x) ((2 * (x 1 rN)) + 1)) 20 (nC x) 0) 21 (nC x) 0) 22 (nC x) (-1)) 23 (2 * nC x) (-1)) 23 ((2 * nC x) + 1) (-1)) 27 0 ((x 27 0) + 1)) z H := MWd.putS 27 hW e1 o1 mset_27 rfl (by decide)
              refine lv_iload_n C.hx C.hb dX8_complain_207 rfl (lv_at hl 0 rfl) ?_
              exact wI C hr dX8_complain_208 hS (by unfold s_X8_complain; (try simp only [trN]); rw [if_neg c1, if_neg c2, if_neg c3, if_neg hk1, if_neg c10]) (by unfold sx_X8_complain; (try simp only [trN]); rw [if_neg c1, if_neg c2, if_neg c3, if_neg hk1, if_neg c10]; exact hW)
            · refine lv_bipush (v := (-2)) C.hx C.hb dX8_complain_82 (by decide) ?_
              exact wI C hr dX8_complain_84 hS (by unfold s_X8_complain; (try simp only [trN]); rw [if_neg c1, if_neg c2, if_neg c3, if_neg hk1, if_pos c10]) (by unfold sx_X8_complain; (try simp only [trN]); rw [if_neg c1, if_neg c2, if_neg c3, if_neg hk1, if_pos c10]; exact hW)
          · exact absurd (le_eqn eC) c9
      · refine lv_iconst (v := (-1)) C.hx C.hb dX8_complain_22 (by decide) ?_
        exact wI C hr dX8_complain_23 hS (by unfold s_X8_complain; rw [if_neg c1, if_neg c2, if_pos c3]) (by unfold sx_X8_complain; rw [if_neg c1, if_neg c2, if_pos c3]; exact hW)
