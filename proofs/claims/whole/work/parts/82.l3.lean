section LW
variable {p : Program} {l : Launch} {e : Env} {s : State} {m : MethodId} {below : List Frame} {meth : Method} {c : Code} {b L a0 m0 n : Nat} {xs : Nat → Int32} {A : Nat → Prop} {G : GG} {H : Heap} {locs : List Loc} {ls : Array Slot}
theorem IV.up (h : IV G A a0 m0 n H) (k : n + 1 ≤ 512) : IV G A a0 m0 (n + 1) H := by
  obtain ⟨ad, x, y, z, mm, w, e0, hC, hM, hR, hz⟩ := h
  exact ⟨ad, x, y, z, mm, w, e0, hC, hM, hR.up (Nat.le_succ n) k, hz⟩
set_option maxRecDepth 100000 in
set_option maxHeartbeats 4000000 in
theorem law_loop (I : LC G p s m meth c b L xs A m0) (hr : meth.sig.returnType = ret) : ∀ (d n : Nat) (ls : Array Slot) (H : Heap) (locs : List Loc), n + d = 513 → 5 * n ≤ L → IV G A a0 m0 n H → va_S (NA s) s.heap H locs → lv_has ls 4 (lls b a0 m0 n) → W p l e room_1 s m #[Value.ref b] below meth c H locs (100 + 3 * n) (60000 + 619 * n) (lw_Z below #[Value.ref b] s) (F0 m 18 ls []) := by
  have C := I.C; have hb := I.hL
  intro d
  induction d with
  | zero => intro n ls H locs h1 h2; exact absurd h1 (by omega)
  | succ d ih =>
    intro n ls H locs hd hnL hJ hS hl
    refine lv_iload_n C.hx C.hb dL_law_18 rfl (lv_at hl 0 rfl) ?_
    refine lv_aload_n C.hx C.hb dL_law_19 rfl (lv_at hl 3 rfl) ?_
    refine va_slen (A := NA s) C.hx C.hb I.hX I.hbl (Nat.not_le.mpr I.hbl) hS dL_law_20 ?_
    refine lv_iconst (v := 5) C.hx C.hb dL_law_21 (by decide) ?_
    refine lv_isub C.hx C.hb dL_law_22 ?_
    have hc : (Int32.ofNat L - 5 < nI (5 * n)) ↔ L < 5 * n + 5 := by
      have e1 : (Int32.ofNat L - 5).toInt = (L : Int) - 5 := by
        rw [Int32.toInt_sub, show (5 : Int32).toInt = 5 from rfl, show (Int32.ofNat L).toInt = (L : Int) from nI_toInt (by omega)]
        exact Int.bmod_eq_of_le (by omega) (by omega)
      rw [Int32.lt_iff_toInt_lt, e1, nI_toInt (by omega)]
      omega
    refine lv_icmp_gt (tgt := 1020) C.hx C.hb dL_law_23 (by decide) (fun c1 => ?_) (fun c1 => ?_)
    · refine lv_iconst (v := 1) C.hx C.hb dL_law_1020 (by decide) ?_
      refine va_forget (fun q hq => hS.2.2 q hq) ?_
      refine W.widen (k := 600000) (n := 7302250) (by omega) (by omega) ?_
      exact lw_ret C.hx C.hb hr C.2.2 dL_law_1021
    · have hn : 5 * n + 5 ≤ L := by
        rw [hc] at c1; omega
      have K : ∀ (H1 : Heap) (locs1 : List Loc), IV G A a0 m0 (n + 1) H1 → va_S (NA s) s.heap H1 locs1 → W p l e room_1 s m #[Value.ref b] below meth c H1 locs1 (100 + 3 * (n + 1)) (60000 + 619 * (n + 1)) (lw_Z below #[Value.ref b] s) (F0 m 1014 ls []) := fun H1 locs1 hJ1 hS1 => by
        refine lv_iinc (v := nI (5 * (n + 1))) (lv' := lls b a0 m0 (n + 1)) C.hx C.hb dL_law_1014 hl (k := 0) rfl (nI_addE (b := 5) rfl rfl) (by decide) rfl (fun ls hl => ?_)
        refine lv_goto (tgt := 18) C.hx C.hb dL_law_1017 (by decide) ?_
        exact ih (n + 1) ls H1 locs1 (by omega) (by omega) hJ1 hS1 hl
      refine lv_aload_n C.hx C.hb dL_law_26 rfl (lv_at hl 3 rfl) ?_
      refine lv_iload_n C.hx C.hb dL_law_27 rfl (lv_at hl 0 rfl) ?_
      refine va_sld (A := NA s) C.hx C.hb I.hX I.hbl (Nat.not_le.mpr I.hbl) hS (vp_in_nI (by omega) (by omega)) dL_law_28 ?_
      refine lv_bipush (v := 31) C.hx C.hb dL_law_29 (by decide) ?_
      refine lv_iand C.hx C.hb dL_law_31 ?_
      generalize xs (nI (5 * n)).toNatClampNeg &&& 31 = v
      by_cases h1 : v.toInt < 0
      · exact lv_tableOut (tgt := 1014) C.hx C.hb dL_law_32 (Or.inl h1) (by decide) (W.widen (k := 100 + 3 * (n + 1)) (n := 60000 + 619 * (n + 1)) (by omega) (by omega) (K H locs (hJ.up (by omega)) hS))
      by_cases h2 : 27 < v.toInt
      · exact lv_tableOut (tgt := 1014) C.hx C.hb dL_law_32 (Or.inr h2) (by decide) (W.widen (k := 100 + 3 * (n + 1)) (n := 60000 + 619 * (n + 1)) (by omega) (by omega) (K H locs (hJ.up (by omega)) hS))
      rcases (show v.toInt = 0 ∨ v.toInt = 1 ∨ v.toInt = 2 ∨ v.toInt = 3 ∨ v.toInt = 4 ∨ v.toInt = 5 ∨ v.toInt = 6 ∨ v.toInt = 7 ∨ v.toInt = 8 ∨ v.toInt = 9 ∨ v.toInt = 10 ∨ v.toInt = 11 ∨ v.toInt = 12 ∨ v.toInt = 13 ∨ v.toInt = 14 ∨ v.toInt = 15 ∨ v.toInt = 16 ∨ v.toInt = 17 ∨ v.toInt = 18 ∨ v.toInt = 19 ∨ v.toInt = 20 ∨ v.toInt = 21 ∨ v.toInt = 22 ∨ v.toInt = 23 ∨ v.toInt = 24 ∨ v.toInt = 25 ∨ v.toInt = 26 ∨ v.toInt = 27 by omega) with q | q | q | q | q | q | q | q | q | q | q | q | q | q | q | q | q | q | q | q | q | q | q | q | q | q | q | q
      · exact lv_tableIn (off := 128) (tgt := 160) C.hx C.hb dL_law_32 h1 h2 (by rw [q]; rfl) (by decide) (la_tick I hn hJ hS hl K)
      · exact lv_tableIn (off := 151) (tgt := 183) C.hx C.hb dL_law_32 h1 h2 (by rw [q]; rfl) (by decide) (la_rule I hn hJ hS hl K)
      · exact lv_tableIn (off := 204) (tgt := 236) C.hx C.hb dL_law_32 h1 h2 (by rw [q]; rfl) (by decide) (la_ladder I hn hJ hS hl K)
      · exact lv_tableIn (off := 237) (tgt := 269) C.hx C.hb dL_law_32 h1 h2 (by rw [q]; rfl) (by decide) (la_due I hn hJ hS hl K)
      · exact lv_tableIn (off := 270) (tgt := 302) C.hx C.hb dL_law_32 h1 h2 (by rw [q]; rfl) (by decide) (la_limit I hn hJ hS hl K)
      · exact lv_tableIn (off := 293) (tgt := 325) C.hx C.hb dL_law_32 h1 h2 (by rw [q]; rfl) (by decide) (la_post I hn hJ hS hl K)
      · exact lv_tableIn (off := 336) (tgt := 368) C.hx C.hb dL_law_32 h1 h2 (by rw [q]; rfl) (by decide) (la_complain I hn hJ hS hl K)
      · exact lv_tableIn (off := 369) (tgt := 401) C.hx C.hb dL_law_32 h1 h2 (by rw [q]; rfl) (by decide) (la_judge I hn hJ hS hl K)
      · exact lv_tableIn (off := 422) (tgt := 454) C.hx C.hb dL_law_32 h1 h2 (by rw [q]; rfl) (by decide) (la_kin I hn hJ hS hl K)
      · exact lv_tableIn (off := 465) (tgt := 497) C.hx C.hb dL_law_32 h1 h2 (by rw [q]; rfl) (by decide) (la_rest I hn hJ hS hl K)
      · exact lv_tableIn (off := 498) (tgt := 530) C.hx C.hb dL_law_32 h1 h2 (by rw [q]; rfl) (by decide) (la_next I hn hJ hS hl K)
      · exact lv_tableIn (off := 521) (tgt := 553) C.hx C.hb dL_law_32 h1 h2 (by rw [q]; rfl) (by decide) (la_give I hn hJ hS hl K)
      · exact lv_tableIn (off := 544) (tgt := 576) C.hx C.hb dL_law_32 h1 h2 (by rw [q]; rfl) (by decide) (la_undo I hn hJ hS hl K)
      · exact lv_tableIn (off := 557) (tgt := 589) C.hx C.hb dL_law_32 h1 h2 (by rw [q]; rfl) (by decide) (la_vote I hn hJ hS hl K)
      · exact lv_tableIn (off := 600) (tgt := 632) C.hx C.hb dL_law_32 h1 h2 (by rw [q]; rfl) (by decide) (la_may I hn hJ hS hl K)
      · exact lv_tableIn (off := 633) (tgt := 665) C.hx C.hb dL_law_32 h1 h2 (by rw [q]; rfl) (by decide) (la_told I hn hJ hS hl K)
      · exact lv_tableIn (off := 666) (tgt := 698) C.hx C.hb dL_law_32 h1 h2 (by rw [q]; rfl) (by decide) (la_about I hn hJ hS hl K)
      · exact lv_tableIn (off := 699) (tgt := 731) C.hx C.hb dL_law_32 h1 h2 (by rw [q]; rfl) (by decide) (la_judged I hn hJ hS hl K)
      · exact lv_tableIn (off := 732) (tgt := 764) C.hx C.hb dL_law_32 h1 h2 (by rw [q]; rfl) (by decide) (la_appeal I hn hJ hS hl K)
      · exact lv_tableIn (off := 755) (tgt := 787) C.hx C.hb dL_law_32 h1 h2 (by rw [q]; rfl) (by decide) (la_known I hn hJ hS hl K)
      · exact lv_tableIn (off := 788) (tgt := 820) C.hx C.hb dL_law_32 h1 h2 (by rw [q]; rfl) (by decide) (la_late I hn hJ hS hl K)
      · exact lv_tableIn (off := 801) (tgt := 833) C.hx C.hb dL_law_32 h1 h2 (by rw [q]; rfl) (by decide) (la_like I hn hJ hS hl K)
      · exact lv_tableIn (off := 834) (tgt := 866) C.hx C.hb dL_law_32 h1 h2 (by rw [q]; rfl) (by decide) (la_unlike I hn hJ hS hl K)
      · exact lv_tableIn (off := 867) (tgt := 899) C.hx C.hb dL_law_32 h1 h2 (by rw [q]; rfl) (by decide) (la_writer I hn hJ hS hl K)
      · exact lv_tableIn (off := 900) (tgt := 932) C.hx C.hb dL_law_32 h1 h2 (by rw [q]; rfl) (by decide) (la_level I hn hJ hS hl K)
      · exact lv_tableIn (off := 923) (tgt := 955) C.hx C.hb dL_law_32 h1 h2 (by rw [q]; rfl) (by decide) (la_hidden I hn hJ hS hl K)
      · exact lv_tableIn (off := 946) (tgt := 978) C.hx C.hb dL_law_32 h1 h2 (by rw [q]; rfl) (by decide) (la_count I hn hJ hS hl K)
      · exact lv_tableIn (off := 969) (tgt := 1001) C.hx C.hb dL_law_32 h1 h2 (by rw [q]; rfl) (by decide) (la_check I hn hJ hS hl K)
end LW
