section R11
variable {m : XX} {w : Nat → Int64} {x : XX} {y : YY} {z : Nat → Int64} {n : Nat}
/-- all but how the reference holds the gifts -/
def RGx (x : XX) (y : YY) : Prop := (∀ g g', g < y 20 2 → g' < y 20 2 → y 6 g = y 6 g' → y 7 g = y 7 g' → g = g') ∧ (∀ c, c < y 20 1 → s_bitCount (x 21 c) = nI (ct (qG y c) (y 20 2)) ∧ ∀ j, j < 32 → (bt (x 21 c) j = true ↔ ∃ g, g < y 20 2 ∧ y 7 g = c ∧ y 6 g = j)) ∧ (∀ j, j < 20 → x 10 j = nI (ct (qGj y j) (y 20 2)) ∧ ct (qGj y j) (y 20 2) ≤ 20)
def RelX (m : XX) (w : Nat → Int64) (x : XX) (y : YY) (z : Nat → Int64) (n : Nat) : Prop := w = z ∧ RA m x ∧ RP m x y ∧ RC m x y ∧ RS m x y ∧ RGx x y ∧ RV m x y n ∧ RH m x y ∧ RQ m x y ∧ CI y ∧ CL y ∧ LSt y ∧ n ≤ 512
def RGm (m : XX) (y : YY) : Prop := m 36 0 = nI (y 20 2) ∧ ∀ g, g < y 20 2 → m 34 g = nI (y 6 g) ∧ m 35 g = nI (y 7 g)
theorem Rel.xx (h : Rel m w x y z n) : RelX m w x y z n := ⟨h.wz, h.a, h.p, h.c, h.s, h.g.2.2, h.v, h.hh, h.q, h.ci, h.cl, h.y1, h.n512⟩
theorem Rel.gm (h : Rel m w x y z n) : RGm m y := ⟨h.g.1, h.g.2.1⟩
theorem RelX.rel (h : RelX m w x y z n) (k : RGm m y) : Rel m w x y z n := ⟨h.1, h.2.1, h.2.2.1, h.2.2.2.1, h.2.2.2.2.1, ⟨k.1, k.2, h.2.2.2.2.2.1⟩, h.2.2.2.2.2.2⟩
theorem RelX.cg {m' : XX} (e : ∀ k, k ≠ 34 → k ≠ 35 → k ≠ 36 → m' k = m k) (h : RelX m w x y z n) : RelX m' w x y z n := by
  have e2 : m' = fun k => if k = 34 then m' 34 else if k = 35 then m' 35 else if k = 36 then m' 36 else m k := by
    funext k
    by_cases a : k = 34
    · rw [if_pos a, a]
    · rw [if_neg a]
      by_cases b : k = 35
      · rw [if_pos b, b]
      · rw [if_neg b]
        by_cases c : k = 36
        · rw [if_pos c, c]
        · rw [if_neg c]; exact e k a b c
  rw [e2]
  exact h
theorem ct_shf {q : Nat → Bool} {i : Nat} : ∀ {k : Nat}, i < k → ct (fun g => q (shf i 6 g)) (k - 1) + (if q i = true then 1 else 0) = ct q k
  | 0, h => absurd h (by omega)
  | k + 1, h => by
    show ct (fun g => q (shf i 6 g)) k + (if q i = true then 1 else 0) = ct q k + (if q k = true then 1 else 0)
    have lo : ∀ l, l ≤ i → ct (fun g => q (shf i 6 g)) l = ct q l := fun l hl => ct_cg (fun g hg => by unfold shf; rw [if_pos rfl, if_pos (by omega)])
    rcases Nat.eq_or_lt_of_le (Nat.lt_succ_iff.mp h) with e | e
    · subst e
      rw [lo i (Nat.le_refl _)]
    · obtain ⟨l, rfl⟩ : ∃ l, k = l + 1 := ⟨k - 1, by omega⟩
      have ih := ct_shf (q := q) (k := l + 1) e
      show (ct (fun g => q (shf i 6 g)) l + (if q (shf i 6 l) = true then 1 else 0)) + _ = _
      have es : shf i 6 l = l + 1 := by unfold shf; rw [if_pos rfl, if_neg (by omega)]
      rw [es]
      have ih' : ct (fun g => q (shf i 6 g)) l + (if q i = true then 1 else 0) = ct q (l + 1) := ih
      omega
theorem shf_ne (i g : Nat) : shf i 6 g ≠ i := by unfold shf; rw [if_pos rfl]; split <;> omega
theorem shf_lt {i g k : Nat} (h : g < k - 1) : shf i 6 g < k := by unfold shf; rw [if_pos rfl]; split <;> omega
theorem shf_on {i g k : Nat} (hi : i < k) (hg : g < k) (e : g ≠ i) : ∃ g', g' < k - 1 ∧ shf i 6 g' = g := by
  rcases Nat.lt_or_ge g i with r | r
  · exact ⟨g, by omega, by unfold shf; rw [if_pos rfl, if_pos r]⟩
  · exact ⟨g - 1, by omega, by unfold shf; rw [if_pos rfl, if_neg (by omega)]; omega⟩
/-- a gift is taken back -/
theorem tbRel (h : RelX m w x y z n) {i : Nat} (hi : i < y 20 2) : RelX m w (tbX x y i) (tbY y i) z n := by
  obtain ⟨hw, ha, hp, hc, hs, ⟨u1, hol, x10⟩, hv, hh, hq, ci, cl, ls, n5⟩ := h
  have bG := ci.2.2.2.2.2.1
  have gi := ci.2.2.1 i hi
  have eG : ∀ c, qG (tbY y i) c = fun g => qG y c (shf i 6 g) := fun c => rfl
  have eGj : ∀ j, qGj (tbY y i) j = fun g => qGj y j (shf i 6 g) := fun j => rfl
  have en : tbY y i 20 2 = y 20 2 - 1 := rfl
  have cle : ∀ c, ct (qG (tbY y i) c) (y 20 2 - 1) + (if qG y c i = true then 1 else 0) = ct (qG y c) (y 20 2) := fun c => by rw [eG]; exact ct_shf hi
  have cje : ∀ j, ct (qGj (tbY y i) j) (y 20 2 - 1) + (if qGj y j i = true then 1 else 0) = ct (qGj y j) (y 20 2) := fun j => by rw [eGj]; exact ct_shf hi
  refine ⟨hw, ha, hp, hc, hs, ⟨fun g g' hg hg' e6 e7 => ?_, fun c hcc => ?_, fun j hj => ?_⟩, ⟨hv.1, hv.2.1, hv.2.2.1, hv.2.2.2.1, fun g v hg hv' e6 e7 => ?_, hv.2.2.2.2.2⟩, hh, fun c hcc => ?_, ci.tb hi, CL.yk (YK.tb y i) cl, ls, n5⟩
  · rw [en] at hg hg'
    exact shf_inj (u1 _ _ (shf_lt hg) (shf_lt hg') e6 e7)
  · have hb := hol c hcc
    have ce := cle c
    rw [en]
    by_cases e : c = y 7 i
    · have qi : qG y c i = true := by unfold qG; rw [e]; exact decide_eq_true rfl
      rw [if_pos qi] at ce
      have vx : tbX x y i 21 c = (x 21 c) &&& (bit (y 6 i) ^^^ (-1)) := by rw [e]; simp [tbX, up2_at]; rfl
      have bi : bt (x 21 c) (y 6 i) = true := (hb.2 (y 6 i) (by omega)).mpr ⟨i, hi, e.symm, rfl⟩
      have b1 := bc_clr (a := x 21 c) (j := y 6 i) (by omega) bi
      rw [vx]
      refine ⟨?_, fun j hj => ?_⟩
      · rw [hb.1, ← ce, ← nI_1] at b1
        have := congrArg (fun q : Int32 => q - 1) b1
        simpa using this
      · rw [b_clr (by omega) hj]
        constructor
        · intro k
          simp only [Bool.and_eq_true, Bool.not_eq_true', decide_eq_false_iff_not] at k
          obtain ⟨g, g1, g2, g3⟩ := (hb.2 j hj).mp k.1
          obtain ⟨g', s1, s2⟩ := shf_on hi g1 (fun q => k.2 (by rw [← g3, q]))
          exact ⟨g', s1, by show y 7 (shf i 6 g') = c; rw [s2]; exact g2, by show y 6 (shf i 6 g') = j; rw [s2]; exact g3⟩
        · rintro ⟨g, g1, g2, g3⟩
          have g2 : y 7 (shf i 6 g) = c := g2
          have g3 : y 6 (shf i 6 g) = j := g3
          simp only [Bool.and_eq_true, Bool.not_eq_true', decide_eq_false_iff_not]
          refine ⟨(hb.2 j hj).mpr ⟨_, shf_lt g1, g2, g3⟩, fun q => ?_⟩
          exact shf_ne i g (u1 _ _ (shf_lt g1) hi (by rw [g3, q]) (by rw [g2, e]))
    · have qi : ¬ qG y c i = true := by unfold qG; rw [decide_eq_true_eq]; exact fun k => e k.symm
      rw [if_neg qi, Nat.add_zero] at ce
      have vx : tbX x y i 21 c = x 21 c := by simp [tbX, up2_at, e]
      rw [vx, ce]
      refine ⟨hb.1, fun j hj => (hb.2 j hj).trans ⟨?_, ?_⟩⟩
      · rintro ⟨g, g1, g2, g3⟩
        obtain ⟨g', s1, s2⟩ := shf_on hi g1 (fun q => e (by rw [← g2, q]))
        exact ⟨g', s1, by show y 7 (shf i 6 g') = c; rw [s2]; exact g2, by show y 6 (shf i 6 g') = j; rw [s2]; exact g3⟩
      · rintro ⟨g, g1, g2, g3⟩
        exact ⟨_, shf_lt g1, g2, g3⟩
  · have hb := x10 j hj
    have ce := cje j
    rw [en]
    by_cases e : j = y 6 i
    · have qi : qGj y j i = true := by unfold qGj; rw [e]; exact decide_eq_true rfl
      rw [if_pos qi] at ce
      have vx : tbX x y i 10 j = x 10 j - 1 := by rw [e]; simp [tbX, up2_at]
      rw [vx, hb.1, ← ce, ← nI_1]
      refine ⟨?_, by omega⟩
      simp
    · have qi : ¬ qGj y j i = true := by unfold qGj; rw [decide_eq_true_eq]; exact fun k => e k.symm
      rw [if_neg qi, Nat.add_zero] at ce
      have vx : tbX x y i 10 j = x 10 j := by simp [tbX, up2_at, e]
      rw [vx, ce]; exact hb
  · rw [en] at hg
    exact hv.2.2.2.2.1 _ v (shf_lt hg) hv' e6 e7
  · have h8 := hq c hcc
    have ce := cle c
    refine ⟨h8.1, fun k => ?_, fun k => ?_⟩
    · have h9 := h8.2.1 k
      show ct (qV m c (tmc y c)) (nV m) + ct (qG (tbY y i) c) (y 20 2 - 1) ≤ tn (x 22 (2 * c + tmc y c))
      omega
    · have h9 := h8.2.2 k
      show ct (qG (tbY y i) c) (y 20 2 - 1) = 0
      omega
theorem lrRel {j : Nat} : ∀ (k : Nat) (s : XX × YY), k ≤ s.2 20 2 → RelX m w s.1 s.2 z n → RelX m w (lrF j k s).1 (lrF j k s).2 z n
  | 0, s, _, h => h
  | k + 1, s, hk, h => by
    show RelX m w (lrF j k _).1 (lrF j k _).2 z n
    by_cases e : s.2 6 k = j
    · rw [if_pos e]
      exact lrRel k _ (show k ≤ s.2 20 2 - 1 by omega) (tbRel h (by omega))
    · rw [if_neg e]
      exact lrRel k s (by omega) h
-- the gifts as a row of pairs
def gft (y : YY) : List (Nat × Nat) := (List.range (y 20 2)).map (fun g => (y 6 g, y 7 g))
def mg (m : XX) (k : Nat) : List (Int32 × Int32) := (List.range k).map (fun g => (m 34 g, m 35 g))
def pI (p : Nat × Nat) : Int32 × Int32 := (nI p.1, nI p.2)
theorem gft_len (y : YY) : (gft y).length = y 20 2 := by simp [gft]
theorem gft_get {y : YY} {g : Nat} (h : g < y 20 2) : (gft y)[g]? = some (y 6 g, y 7 g) := by simp [gft, h]
theorem gm_iff (m : XX) (y : YY) (hb : y 20 2 ≤ 400) : RGm m y ↔ (m 36 0 = nI (y 20 2) ∧ mg m (y 20 2) = (gft y).map pI) := by
  unfold RGm
  refine and_congr_right (fun _ => ⟨fun h => ?_, fun h g hg => ?_⟩)
  · unfold mg gft
    rw [List.map_map]
    refine List.map_congr_left (fun g hg => ?_)
    have := h g (List.mem_range.mp hg)
    simp [pI, this.1, this.2]
  · have e := congrArg (fun l => l[g]?) h
    have e1 : (mg m (y 20 2))[g]? = some (m 34 g, m 35 g) := by simp [mg, hg]
    have e2 : ((gft y).map pI)[g]? = some (nI (y 6 g), nI (y 7 g)) := by rw [List.getElem?_map, gft_get hg]; rfl
    have e3 : some (m 34 g, m 35 g) = some (nI (y 6 g), nI (y 7 g)) := e1.symm.trans (e.trans e2)
    have e4 := Option.some.inj e3
    exact ⟨congrArg Prod.fst e4, congrArg Prod.snd e4⟩
theorem gft_tb {y : YY} {i : Nat} (hi : i < y 20 2) : gft (tbY y i) = (gft y).eraseIdx i := by
  apply List.ext_getElem?
  intro g
  rw [List.getElem?_eraseIdx]
  rcases Nat.lt_or_ge g (y 20 2 - 1) with r | r
  · rw [gft_get (y := tbY y i) (g := g) r]
    show some (y 6 (shf i 6 g), y 7 (shf i 6 g)) = _
    by_cases e : g < i
    · rw [if_pos e, gft_get (by omega)]
      have : shf i 6 g = g := by unfold shf; rw [if_pos rfl, if_pos e]
      rw [this]
    · rw [if_neg e, gft_get (by omega)]
      have : shf i 6 g = g + 1 := by unfold shf; rw [if_pos rfl, if_neg e]
      rw [this]
  · rw [List.getElem?_eq_none (by rw [gft_len]; exact r)]
    by_cases e : g < i
    · omega
    · rw [if_neg e, List.getElem?_eq_none (by rw [gft_len]; omega)]
theorem gft_lr {j : Nat} : ∀ (k : Nat) (s : XX × YY), k ≤ s.2 20 2 → gft (lrF j k s).2 = ((gft s.2).take k).filter (fun p => !decide (p.1 = j)) ++ (gft s.2).drop k
  | 0, s, _ => by simp [lrF]
  | k + 1, s, hk => by
    show gft (lrF j k _).2 = _
    have hl := gft_len s.2
    have hg := gft_get (y := s.2) (g := k) (by omega)
    have tk : (gft s.2).take (k + 1) = (gft s.2).take k ++ [(s.2 6 k, s.2 7 k)] := by rw [List.take_add_one, hg]; rfl
    have dk : (gft s.2).drop k = (s.2 6 k, s.2 7 k) :: (gft s.2).drop (k + 1) := by
      have h9 := List.drop_eq_getElem_cons (l := gft s.2) (i := k) (by omega)
      rw [h9]
      congr 1
      have h8 := List.getElem?_eq_getElem (l := gft s.2) (i := k) (by omega)
      rw [hg] at h8
      exact (Option.some.inj h8).symm
    by_cases e : s.2 6 k = j
    · rw [if_pos e, gft_lr k _ (show k ≤ s.2 20 2 - 1 by omega)]
      show ((gft (tbY s.2 k)).take k).filter _ ++ (gft (tbY s.2 k)).drop k = _
      rw [gft_tb (by omega), tk, List.filter_append]
      have e1 : ((gft s.2).eraseIdx k).take k = (gft s.2).take k := by
        rw [List.eraseIdx_eq_take_drop_succ, List.take_append_of_le_length (by simp; omega), List.take_take, Nat.min_self]
      have e2 : ((gft s.2).eraseIdx k).drop k = (gft s.2).drop (k + 1) := by
        rw [List.eraseIdx_eq_take_drop_succ, List.drop_append_of_le_length (by simp; omega)]
        simp
      rw [e1, e2]
      simp [e]
    · rw [if_neg e, gft_lr k s (by omega), tk, List.filter_append, dk]
      simp [e]
theorem gb_inv {P : Int32 → Int32 → Bool} : ∀ k, mg (gbS (fun X g => P (X 34 g) (X 35 g)) m k).1 (gbS (fun X g => P (X 34 g) (X 35 g)) m k).2 = (mg m k).filter (fun p => P p.1 p.2) ∧ ∀ g, k ≤ g → (gbS (fun X g => P (X 34 g) (X 35 g)) m k).1 34 g = m 34 g ∧ (gbS (fun X g => P (X 34 g) (X 35 g)) m k).1 35 g = m 35 g
  | 0 => ⟨rfl, fun _ _ => ⟨rfl, rfl⟩⟩
  | k + 1 => by
    obtain ⟨i1, i2⟩ := gb_inv (P := P) k
    have le := gbS_le (fun X g => P (X 34 g) (X 35 g)) m k
    have ek := i2 k (Nat.le_refl _)
    have mk1 : mg m (k + 1) = mg m k ++ [(m 34 k, m 35 k)] := by unfold mg; rw [List.range_succ, List.map_append]; rfl
    by_cases e : P (m 34 k) (m 35 k) = true
    · have eq : (fun (X : XX) (g : Nat) => P (X 34 g) (X 35 g)) (gbS (fun X g => P (X 34 g) (X 35 g)) m k).1 k = true := by
        show P _ _ = true
        rw [ek.1, ek.2]; exact e
      rw [gbS_t eq]
      generalize hS : gbS (fun X g => P (X 34 g) (X 35 g)) m k = S at *
      refine ⟨?_, fun g hg => ?_⟩
      · show mg _ (S.2 + 1) = _
        rw [mk1, List.filter_append, ← i1]
        unfold mg
        rw [List.range_succ, List.map_append]
        congr 1
        · refine List.map_congr_left (fun g hg => ?_)
          have := List.mem_range.mp hg
          have e34 : up2 (up2 S.1 34 S.2 (S.1 34 k)) 35 S.2 (S.1 35 k) 34 g = S.1 34 g := by rw [up2_o (by omega), up2_o (by omega)]
          have e35 : up2 (up2 S.1 34 S.2 (S.1 34 k)) 35 S.2 (S.1 35 k) 35 g = S.1 35 g := by rw [up2_o (by omega), up2_o (by omega)]
          show (up2 (up2 S.1 34 S.2 (S.1 34 k)) 35 S.2 (S.1 35 k) 34 g, up2 (up2 S.1 34 S.2 (S.1 34 k)) 35 S.2 (S.1 35 k) 35 g) = _
          rw [e34, e35]
        · show [_] = _
          simp [up2_at, ek.1, ek.2, e]
      · show up2 (up2 S.1 34 S.2 (S.1 34 k)) 35 S.2 (S.1 35 k) 34 g = _ ∧ up2 (up2 S.1 34 S.2 (S.1 34 k)) 35 S.2 (S.1 35 k) 35 g = _
        have hg : k + 1 ≤ g := hg
        rw [up2_o (by omega), up2_o (by omega), up2_o (by omega), up2_o (by omega)]
        exact i2 g (by omega)
    · have e' : P (m 34 k) (m 35 k) = false := by simpa using e
      have eq : (fun (X : XX) (g : Nat) => P (X 34 g) (X 35 g)) (gbS (fun X g => P (X 34 g) (X 35 g)) m k).1 k = false := by
        show P _ _ = false
        rw [ek.1, ek.2]; exact e'
      rw [gbS_f eq]
      refine ⟨?_, fun g hg => i2 g (by omega)⟩
      rw [i1, mk1, List.filter_append]
      simp [e']
theorem mg_len (m : XX) (k : Nat) : (mg m k).length = k := by simp [mg]
end R11
