section CE
variable {G : GG} {A : Nat → Prop} {ad : YY} {x : XX} {y : YY} {z : Nat → Int64} {H H1 : Heap}
theorem ce_0 {i : Nat} {v : Int32} : (.inr (8, [.ref (ad 11 0), .ref (ad 12 0), .ref (ad 7 0), .ref (ad 7 1), .ref (ad 7 2), .ref (ad 10 1), .ref (ad 9 0), .int v, .int (x 1 i), .int (x 2 i)]) : va_E) = cob G ad (up2 x 0 i v) y z 0 i := by simp [cob, up2, upd]
theorem ce_1 {i : Nat} {v : Int32} : (.inr (8, [.ref (ad 11 0), .ref (ad 12 0), .ref (ad 7 0), .ref (ad 7 1), .ref (ad 7 2), .ref (ad 10 1), .ref (ad 9 0), .int (x 0 i), .int v, .int (x 2 i)]) : va_E) = cob G ad (up2 x 1 i v) y z 0 i := by simp [cob, up2, upd]
theorem ce_2 {i : Nat} {v : Int32} : (.inr (8, [.ref (ad 11 0), .ref (ad 12 0), .ref (ad 7 0), .ref (ad 7 1), .ref (ad 7 2), .ref (ad 10 1), .ref (ad 9 0), .int (x 0 i), .int (x 1 i), .int v]) : va_E) = cob G ad (up2 x 2 i v) y z 0 i := by simp [cob, up2, upd]
theorem ce_3 {i : Nat} {v : Int32} : (.inr (7, [.int (nI i), .int v, .int (x 4 i), .int (x 5 i)]) : va_E) = cob G ad (up2 x 3 i v) y z 1 i := by simp [cob, up2, upd]
theorem ce_4 {i : Nat} {v : Int32} : (.inr (7, [.int (nI i), .int (x 3 i), .int v, .int (x 5 i)]) : va_E) = cob G ad (up2 x 4 i v) y z 1 i := by simp [cob, up2, upd]
theorem ce_5 {i : Nat} {v : Int32} : (.inr (7, [.int (nI i), .int (x 3 i), .int (x 4 i), .int v]) : va_E) = cob G ad (up2 x 5 i v) y z 1 i := by simp [cob, up2, upd]
theorem ce_6 {i : Nat} {v : Int32} : (.inr (4, [.int ((1 : Int32) <<< (nI i &&& 31)), .int v, .long (z i), .int (x 7 i), .int (x 8 i), .int (x 9 i), .int (x 10 i), .int (x 11 i)]) : va_E) = cob G ad (up2 x 6 i v) y z 2 i := by simp [cob, up2, upd]
theorem ce_7 {i : Nat} {v : Int32} : (.inr (4, [.int ((1 : Int32) <<< (nI i &&& 31)), .int (x 6 i), .long (z i), .int v, .int (x 8 i), .int (x 9 i), .int (x 10 i), .int (x 11 i)]) : va_E) = cob G ad (up2 x 7 i v) y z 2 i := by simp [cob, up2, upd]
theorem ce_8 {i : Nat} {v : Int32} : (.inr (4, [.int ((1 : Int32) <<< (nI i &&& 31)), .int (x 6 i), .long (z i), .int (x 7 i), .int v, .int (x 9 i), .int (x 10 i), .int (x 11 i)]) : va_E) = cob G ad (up2 x 8 i v) y z 2 i := by simp [cob, up2, upd]
theorem ce_9 {i : Nat} {v : Int32} : (.inr (4, [.int ((1 : Int32) <<< (nI i &&& 31)), .int (x 6 i), .long (z i), .int (x 7 i), .int (x 8 i), .int v, .int (x 10 i), .int (x 11 i)]) : va_E) = cob G ad (up2 x 9 i v) y z 2 i := by simp [cob, up2, upd]
theorem ce_10 {i : Nat} {v : Int32} : (.inr (4, [.int ((1 : Int32) <<< (nI i &&& 31)), .int (x 6 i), .long (z i), .int (x 7 i), .int (x 8 i), .int (x 9 i), .int v, .int (x 11 i)]) : va_E) = cob G ad (up2 x 10 i v) y z 2 i := by simp [cob, up2, upd]
theorem ce_11 {i : Nat} {v : Int32} : (.inr (4, [.int ((1 : Int32) <<< (nI i &&& 31)), .int (x 6 i), .long (z i), .int (x 7 i), .int (x 8 i), .int (x 9 i), .int (x 10 i), .int v]) : va_E) = cob G ad (up2 x 11 i v) y z 2 i := by simp [cob, up2, upd]
theorem ce_12 {i : Nat} {v : Int32} : (.inr (6, [.int (nI i), .int v, .int (x 13 i), .int (x 14 i), .int (x 15 i), opt (ad 4) (y 0 i), opt (ad 4) (y 1 i)]) : va_E) = cob G ad (up2 x 12 i v) y z 3 i := by simp [cob, up2, upd]
theorem ce_13 {i : Nat} {v : Int32} : (.inr (6, [.int (nI i), .int (x 12 i), .int v, .int (x 14 i), .int (x 15 i), opt (ad 4) (y 0 i), opt (ad 4) (y 1 i)]) : va_E) = cob G ad (up2 x 13 i v) y z 3 i := by simp [cob, up2, upd]
theorem ce_14 {i : Nat} {v : Int32} : (.inr (6, [.int (nI i), .int (x 12 i), .int (x 13 i), .int v, .int (x 15 i), opt (ad 4) (y 0 i), opt (ad 4) (y 1 i)]) : va_E) = cob G ad (up2 x 14 i v) y z 3 i := by simp [cob, up2, upd]
theorem ce_15 {i : Nat} {v : Int32} : (.inr (6, [.int (nI i), .int (x 12 i), .int (x 13 i), .int (x 14 i), .int v, opt (ad 4) (y 0 i), opt (ad 4) (y 1 i)]) : va_E) = cob G ad (up2 x 15 i v) y z 3 i := by simp [cob, up2, upd]
theorem ce_16 {i : Nat} {v : Int32} : (.inr (1, [.int (nI i), .ref (ad 3 (y 2 i)), .ref (ad 1 (y 3 i)), .int v, .ref (ad 5 (2 * i)), opt (fun _ => ad 5 (2 * i + 1)) (y 4 i), .int (x 17 i), .int (x 18 i), .int (x 19 i), .int (x 20 i), .int (x 21 i), opt (ad 4) (y 5 i)]) : va_E) = cob G ad (up2 x 16 i v) y z 4 i := by simp [cob, up2, upd]
theorem ce_17 {i : Nat} {v : Int32} : (.inr (1, [.int (nI i), .ref (ad 3 (y 2 i)), .ref (ad 1 (y 3 i)), .int (x 16 i), .ref (ad 5 (2 * i)), opt (fun _ => ad 5 (2 * i + 1)) (y 4 i), .int v, .int (x 18 i), .int (x 19 i), .int (x 20 i), .int (x 21 i), opt (ad 4) (y 5 i)]) : va_E) = cob G ad (up2 x 17 i v) y z 4 i := by simp [cob, up2, upd]
theorem ce_18 {i : Nat} {v : Int32} : (.inr (1, [.int (nI i), .ref (ad 3 (y 2 i)), .ref (ad 1 (y 3 i)), .int (x 16 i), .ref (ad 5 (2 * i)), opt (fun _ => ad 5 (2 * i + 1)) (y 4 i), .int (x 17 i), .int v, .int (x 19 i), .int (x 20 i), .int (x 21 i), opt (ad 4) (y 5 i)]) : va_E) = cob G ad (up2 x 18 i v) y z 4 i := by simp [cob, up2, upd]
theorem ce_19 {i : Nat} {v : Int32} : (.inr (1, [.int (nI i), .ref (ad 3 (y 2 i)), .ref (ad 1 (y 3 i)), .int (x 16 i), .ref (ad 5 (2 * i)), opt (fun _ => ad 5 (2 * i + 1)) (y 4 i), .int (x 17 i), .int (x 18 i), .int v, .int (x 20 i), .int (x 21 i), opt (ad 4) (y 5 i)]) : va_E) = cob G ad (up2 x 19 i v) y z 4 i := by simp [cob, up2, upd]
theorem ce_20 {i : Nat} {v : Int32} : (.inr (1, [.int (nI i), .ref (ad 3 (y 2 i)), .ref (ad 1 (y 3 i)), .int (x 16 i), .ref (ad 5 (2 * i)), opt (fun _ => ad 5 (2 * i + 1)) (y 4 i), .int (x 17 i), .int (x 18 i), .int (x 19 i), .int v, .int (x 21 i), opt (ad 4) (y 5 i)]) : va_E) = cob G ad (up2 x 20 i v) y z 4 i := by simp [cob, up2, upd]
theorem ce_21 {i : Nat} {v : Int32} : (.inr (1, [.int (nI i), .ref (ad 3 (y 2 i)), .ref (ad 1 (y 3 i)), .int (x 16 i), .ref (ad 5 (2 * i)), opt (fun _ => ad 5 (2 * i + 1)) (y 4 i), .int (x 17 i), .int (x 18 i), .int (x 19 i), .int (x 20 i), .int v, opt (ad 4) (y 5 i)]) : va_E) = cob G ad (up2 x 21 i v) y z 4 i := by simp [cob, up2, upd]
theorem ce_22 {i : Nat} {v : Int32} : (.inr (3, [.int v, .int (x 23 i), .int (x 24 i), .int (x 25 i), .int (x 26 i), .int (x 27 i), .int (x 28 i)]) : va_E) = cob G ad (up2 x 22 i v) y z 5 i := by simp [cob, up2, upd]
theorem ce_23 {i : Nat} {v : Int32} : (.inr (3, [.int (x 22 i), .int v, .int (x 24 i), .int (x 25 i), .int (x 26 i), .int (x 27 i), .int (x 28 i)]) : va_E) = cob G ad (up2 x 23 i v) y z 5 i := by simp [cob, up2, upd]
theorem ce_24 {i : Nat} {v : Int32} : (.inr (3, [.int (x 22 i), .int (x 23 i), .int v, .int (x 25 i), .int (x 26 i), .int (x 27 i), .int (x 28 i)]) : va_E) = cob G ad (up2 x 24 i v) y z 5 i := by simp [cob, up2, upd]
theorem ce_25 {i : Nat} {v : Int32} : (.inr (3, [.int (x 22 i), .int (x 23 i), .int (x 24 i), .int v, .int (x 26 i), .int (x 27 i), .int (x 28 i)]) : va_E) = cob G ad (up2 x 25 i v) y z 5 i := by simp [cob, up2, upd]
theorem ce_26 {i : Nat} {v : Int32} : (.inr (3, [.int (x 22 i), .int (x 23 i), .int (x 24 i), .int (x 25 i), .int v, .int (x 27 i), .int (x 28 i)]) : va_E) = cob G ad (up2 x 26 i v) y z 5 i := by simp [cob, up2, upd]
theorem ce_27 {i : Nat} {v : Int32} : (.inr (3, [.int (x 22 i), .int (x 23 i), .int (x 24 i), .int (x 25 i), .int (x 26 i), .int v, .int (x 28 i)]) : va_E) = cob G ad (up2 x 27 i v) y z 5 i := by simp [cob, up2, upd]
theorem ce_28 {i : Nat} {v : Int32} : (.inr (3, [.int (x 22 i), .int (x 23 i), .int (x 24 i), .int (x 25 i), .int (x 26 i), .int (x 27 i), .int v]) : va_E) = cob G ad (up2 x 28 i v) y z 5 i := by simp [cob, up2, upd]
theorem ce_37 {i : Nat} {v : Int32} : (.inr (5, [.int v, .int (x 38 i), .ref (ad 10 0), .int (x 39 i), .int (x 40 i), .int (x 41 i), .int (x 42 i), .int (x 43 i)]) : va_E) = cob G ad (up2 x 37 i v) y z 9 i := by simp [cob, up2, upd]
theorem ce_38 {i : Nat} {v : Int32} : (.inr (5, [.int (x 37 i), .int v, .ref (ad 10 0), .int (x 39 i), .int (x 40 i), .int (x 41 i), .int (x 42 i), .int (x 43 i)]) : va_E) = cob G ad (up2 x 38 i v) y z 9 i := by simp [cob, up2, upd]
theorem ce_39 {i : Nat} {v : Int32} : (.inr (5, [.int (x 37 i), .int (x 38 i), .ref (ad 10 0), .int v, .int (x 40 i), .int (x 41 i), .int (x 42 i), .int (x 43 i)]) : va_E) = cob G ad (up2 x 39 i v) y z 9 i := by simp [cob, up2, upd]
theorem ce_40 {i : Nat} {v : Int32} : (.inr (5, [.int (x 37 i), .int (x 38 i), .ref (ad 10 0), .int (x 39 i), .int v, .int (x 41 i), .int (x 42 i), .int (x 43 i)]) : va_E) = cob G ad (up2 x 40 i v) y z 9 i := by simp [cob, up2, upd]
theorem ce_41 {i : Nat} {v : Int32} : (.inr (5, [.int (x 37 i), .int (x 38 i), .ref (ad 10 0), .int (x 39 i), .int (x 40 i), .int v, .int (x 42 i), .int (x 43 i)]) : va_E) = cob G ad (up2 x 41 i v) y z 9 i := by simp [cob, up2, upd]
theorem ce_42 {i : Nat} {v : Int32} : (.inr (5, [.int (x 37 i), .int (x 38 i), .ref (ad 10 0), .int (x 39 i), .int (x 40 i), .int (x 41 i), .int v, .int (x 43 i)]) : va_E) = cob G ad (up2 x 42 i v) y z 9 i := by simp [cob, up2, upd]
theorem ce_43 {i : Nat} {v : Int32} : (.inr (5, [.int (x 37 i), .int (x 38 i), .ref (ad 10 0), .int (x 39 i), .int (x 40 i), .int (x 41 i), .int (x 42 i), .int v]) : va_E) = cob G ad (up2 x 43 i v) y z 9 i := by simp [cob, up2, upd]
theorem ce_z {i : Nat} {v : Int64} : (.inr (4, [.int ((1 : Int32) <<< (nI i &&& 31)), .int (x 6 i), .long v, .int (x 7 i), .int (x 8 i), .int (x 9 i), .int (x 10 i), .int (x 11 i)]) : va_E) = cob G ad x y (vp_updL z i v) 2 i := by simp [cob, vp_updL]
theorem cu_z {i : Nat} {v : Int64} : ∀ k' i', ¬ (k' = 2 ∧ i' = i) → cob G ad x y (vp_updL z i v) k' i' = cob G ad x y z k' i' := fun k' i' hn => match k', hn with
  | 0, hn => rfl
  | 1, hn => rfl
  | 2, hn => (by have h : i' ≠ i := fun q => hn ⟨rfl, q⟩; simp [cob, vp_updL, h])
  | 3, hn => rfl
  | 4, hn => rfl
  | 5, hn => rfl
  | 6, hn => rfl
  | 7, hn => rfl
  | 8, hn => rfl
  | 9, hn => rfl
  | 10, hn => rfl
  | 11, hn => rfl
  | 12, hn => rfl
  | _ + 13, _ => rfl
theorem cu_44 {j : Nat} {v : Int32} : ∀ k' i', ¬ (k' = 10 ∧ i' = 0) → cob G ad (up2 x 44 j v) y z k' i' = cob G ad x y z k' i' := fun k' i' hn => match k', hn with
  | 0, hn => rfl
  | 1, hn => rfl
  | 2, hn => rfl
  | 3, hn => rfl
  | 4, hn => rfl
  | 5, hn => rfl
  | 6, hn => rfl
  | 7, hn => rfl
  | 8, hn => rfl
  | 9, hn => rfl
  | 10, hn => (by have h : i' ≠ 0 := fun q => hn ⟨rfl, q⟩; simp only [cob]; rw [up2_ne (by omega)])
  | 11, hn => rfl
  | 12, hn => rfl
  | _ + 13, _ => rfl
theorem cu_45 {j : Nat} {v : Int32} : ∀ k' i', ¬ (k' = 10 ∧ i' = 1) → cob G ad (up2 x 45 j v) y z k' i' = cob G ad x y z k' i' := fun k' i' hn => match k', hn with
  | 0, hn => rfl
  | 1, hn => rfl
  | 2, hn => rfl
  | 3, hn => rfl
  | 4, hn => rfl
  | 5, hn => rfl
  | 6, hn => rfl
  | 7, hn => rfl
  | 8, hn => rfl
  | 9, hn => rfl
  | 10, hn => (by have h : i' ≠ 1 := fun q => hn ⟨rfl, q⟩; simp only [cob]; rw [up2_ne (by omega)])
  | 11, hn => rfl
  | 12, hn => rfl
  | _ + 13, _ => rfl
end CE
def sx_X2_askMore (x : XX) (h : Nat) : XX := (up2 (up2 x 22 h ((x 22 h) + 2)) 23 h ((x 23 h) + 1))
set_option maxRecDepth 100000 in
set_option maxHeartbeats 1000000 in
theorem cC_X2_askMore (l : Launch) (G : GG) (A : Nat → Prop) (ad : YY) (x : XX) (y : YY) (z : Nat → Int64) (h : Nat) (hh : lv y 5 h) : MW l G yX2_askMore cX2_askMore 1 none 0 [.ref (ad 5 h)] (CWd G A ad x y z) none (CWd G A ad (sx_X2_askMore x h) y z) A 0 0 := by
  refine MW.of RX2 rfl (by decide) (Nat.le_of_ble_eq_true rfl) ?_
  intro p_ e_ s_ m_ args_ below_ meth_ c_ ls hargs C hr hnm hW hS hl
  have hl : lv_has ls 1 [(0, .ref (ad 5 h))] := hl
  refine lv_aload_n C.hx C.hb dX2_askMore_0 rfl (lv_at hl 0 rfl) ?_
  refine lv_dup C.hx C.hb dX2_askMore_1 rfl ?_
  refine g_get (k := 0) (v := .int (x 22 h)) C (hW.1 5 h hh).1 rfl wu_X2 (by decide) wf_X2_31 rfl rfl dX2_askMore_2 ?_
  refine lv_iconst (v := 2) C.hx C.hb dX2_askMore_5 (by decide) ?_
  refine lv_iadd C.hx C.hb dX2_askMore_6 ?_
  refine g_put (k := 0) tyX2 C hS (hW.1 5 h hh).1 (hW.1 5 h hh).2 rfl wu_X2 tyX2_ok nmX2 (by decide) wf_X2_31 rfl rfl rfl rfl rfl (Nat.le_of_ble_eq_true rfl) dX2_askMore_7 (fun H locs e1 o1 z1 hS => ?_)
  have hW : CWd G A ad (up2 x 22 h ((x 22 h) + 2)) y z H := hW.put 5 h hh (by rw [← ce_22]; exact e1) o1 (fun _ _ q => q) cu_22
  refine lv_aload_n C.hx C.hb dX2_askMore_10 rfl (lv_at hl 0 rfl) ?_
  refine lv_dup C.hx C.hb dX2_askMore_11 rfl ?_
  refine g_get (k := 1) (v := .int (x 23 h)) C (hW.1 5 h hh).1 rfl wu_X2 (by decide) wf_X2_9 rfl rfl dX2_askMore_12 ?_
  refine lv_iconst (v := 1) C.hx C.hb dX2_askMore_15 (by decide) ?_
  refine lv_iadd C.hx C.hb dX2_askMore_16 ?_
  refine g_put (k := 1) tyX2 C hS (hW.1 5 h hh).1 (hW.1 5 h hh).2 rfl wu_X2 tyX2_ok nmX2 (by decide) wf_X2_9 rfl rfl rfl rfl rfl (Nat.le_of_ble_eq_true rfl) dX2_askMore_17 (fun H locs e1 o1 z1 hS => ?_)
  have hW : CWd G A ad (up2 (up2 x 22 h ((x 22 h) + 2)) 23 h ((x 23 h) + 1)) y z H := hW.put 5 h hh (by rw [← ce_23]; exact e1) o1 (fun _ _ q => q) cu_23
  exact wV C hr dX2_askMore_20 hS (by unfold sx_X2_askMore; exact hW)
def sx_X2_cast (x : XX) (h : Nat) (j : Nat) (gui : Int32) : XX := (if gui = 0 then (up2 (up2 x 24 h ((x 24 h) ||| ((1 : Int32) <<< (nI j &&& 31)))) 27 h ((x 27 h) + (x 8 j))) else (up2 (up2 (up2 x 24 h ((x 24 h) ||| ((1 : Int32) <<< (nI j &&& 31)))) 25 h ((x 25 h) ||| ((1 : Int32) <<< (nI j &&& 31)))) 26 h ((x 26 h) + (x 8 j))))
set_option maxRecDepth 100000 in
set_option maxHeartbeats 1000000 in
theorem cC_X2_cast (l : Launch) (G : GG) (A : Nat → Prop) (ad : YY) (x : XX) (y : YY) (z : Nat → Int64) (h : Nat) (j : Nat) (gui : Int32) (hh : lv y 5 h) (hj : j < 20) : MW l G yX2_cast cX2_cast 3 none 0 [.ref (ad 5 h), .ref (ad 2 j), .int gui] (CWd G A ad x y z) none (CWd G A ad (sx_X2_cast x h j gui) y z) A 0 0 := by
  refine MW.of RX2 rfl (by decide) (Nat.le_of_ble_eq_true rfl) ?_
  intro p_ e_ s_ m_ args_ below_ meth_ c_ ls hargs C hr hnm hW hS hl
  have hl : lv_has ls 3 [(0, .ref (ad 5 h)), (1, .ref (ad 2 j)), (2, .int gui)] := hl
  refine lv_aload_n C.hx C.hb dX2_cast_0 rfl (lv_at hl 0 rfl) ?_
  refine lv_dup C.hx C.hb dX2_cast_1 rfl ?_
  refine g_get (k := 2) (v := .int (x 24 h)) C (hW.1 5 h hh).1 rfl wu_X2 (by decide) wf_X2_15 rfl rfl dX2_cast_2 ?_
  refine lv_aload_n C.hx C.hb dX2_cast_5 rfl (lv_at hl 1 rfl) ?_
  refine g_getN (k := 0) (v := .int ((1 : Int32) <<< (nI j &&& 31))) C (hW.1 2 j (show j < 20 by omega)).1 rfl wu_X3 (by decide) wn_X2_40 rfl rfl dX2_cast_6 ?_
  refine lv_ior C.hx C.hb dX2_cast_9 ?_
  refine g_put (k := 2) tyX2 C hS (hW.1 5 h hh).1 (hW.1 5 h hh).2 rfl wu_X2 tyX2_ok nmX2 (by decide) wf_X2_15 rfl rfl rfl rfl rfl (Nat.le_of_ble_eq_true rfl) dX2_cast_10 (fun H locs e1 o1 z1 hS => ?_)
  have hW : CWd G A ad (up2 x 24 h ((x 24 h) ||| ((1 : Int32) <<< (nI j &&& 31)))) y z H := hW.put 5 h hh (by rw [← ce_24]; exact e1) o1 (fun _ _ q => q) cu_24
  refine lv_iload_n C.hx C.hb dX2_cast_13 rfl (lv_at hl 2 rfl) ?_
  refine lv_if_eq (tgt := 46) C.hx C.hb dX2_cast_14 (by decide) (fun c1 => ?_) (fun c1 => ?_)
  · refine lv_aload_n C.hx C.hb dX2_cast_46 rfl (lv_at hl 0 rfl) ?_
    refine lv_dup C.hx C.hb dX2_cast_47 rfl ?_
    refine g_get (k := 5) (v := .int (x 27 h)) C (hW.1 5 h hh).1 rfl wu_X2 (by decide) wf_X2_24 rfl rfl dX2_cast_48 ?_
    refine lv_aload_n C.hx C.hb dX2_cast_51 rfl (lv_at hl 1 rfl) ?_
    refine g_getN (k := 4) (v := .int (x 8 j)) C (hW.1 2 j (show j < 20 by omega)).1 rfl wu_X3 (by decide) wn_X2_45 rfl rfl dX2_cast_52 ?_
    refine lv_iadd C.hx C.hb dX2_cast_55 ?_
    refine g_put (k := 5) tyX2 C hS (hW.1 5 h hh).1 (hW.1 5 h hh).2 rfl wu_X2 tyX2_ok nmX2 (by decide) wf_X2_24 rfl rfl rfl rfl rfl (Nat.le_of_ble_eq_true rfl) dX2_cast_56 (fun H locs e1 o1 z1 hS => ?_)
    have hW : CWd G A ad (up2 (up2 x 24 h ((x 24 h) ||| ((1 : Int32) <<< (nI j &&& 31)))) 27 h ((x 27 h) + (x 8 j))) y z H := hW.put 5 h hh (by rw [← ce_27]; exact e1) o1 (fun _ _ q => q) cu_27
    exact wV C hr dX2_cast_59 hS (by unfold sx_X2_cast; (first | rw [if_pos c1] | simp only [if_pos c1]); exact hW)
  · refine lv_aload_n C.hx C.hb dX2_cast_17 rfl (lv_at hl 0 rfl) ?_
    refine lv_dup C.hx C.hb dX2_cast_18 rfl ?_
    refine g_get (k := 3) (v := .int (x 25 h)) C (hW.1 5 h hh).1 rfl wu_X2 (by decide) wf_X2_18 rfl rfl dX2_cast_19 ?_
    refine lv_aload_n C.hx C.hb dX2_cast_22 rfl (lv_at hl 1 rfl) ?_
    refine g_getN (k := 0) (v := .int ((1 : Int32) <<< (nI j &&& 31))) C (hW.1 2 j (show j < 20 by omega)).1 rfl wu_X3 (by decide) wn_X2_40 rfl rfl dX2_cast_23 ?_
    refine lv_ior C.hx C.hb dX2_cast_26 ?_
    refine g_put (k := 3) tyX2 C hS (hW.1 5 h hh).1 (hW.1 5 h hh).2 rfl wu_X2 tyX2_ok nmX2 (by decide) wf_X2_18 rfl rfl rfl rfl rfl (Nat.le_of_ble_eq_true rfl) dX2_cast_27 (fun H locs e1 o1 z1 hS => ?_)
    have hW : CWd G A ad (up2 (up2 x 24 h ((x 24 h) ||| ((1 : Int32) <<< (nI j &&& 31)))) 25 h ((x 25 h) ||| ((1 : Int32) <<< (nI j &&& 31)))) y z H := hW.put 5 h hh (by rw [← ce_25]; exact e1) o1 (fun _ _ q => q) cu_25
    refine lv_aload_n C.hx C.hb dX2_cast_30 rfl (lv_at hl 0 rfl) ?_
    refine lv_dup C.hx C.hb dX2_cast_31 rfl ?_
    refine g_get (k := 4) (v := .int (x 26 h)) C (hW.1 5 h hh).1 rfl wu_X2 (by decide) wf_X2_21 rfl rfl dX2_cast_32 ?_
    refine lv_aload_n C.hx C.hb dX2_cast_35 rfl (lv_at hl 1 rfl) ?_
    refine g_getN (k := 4) (v := .int (x 8 j)) C (hW.1 2 j (show j < 20 by omega)).1 rfl wu_X3 (by decide) wn_X2_45 rfl rfl dX2_cast_36 ?_
    refine lv_iadd C.hx C.hb dX2_cast_39 ?_
    refine g_put (k := 4) tyX2 C hS (hW.1 5 h hh).1 (hW.1 5 h hh).2 rfl wu_X2 tyX2_ok nmX2 (by decide) wf_X2_21 rfl rfl rfl rfl rfl (Nat.le_of_ble_eq_true rfl) dX2_cast_40 (fun H locs e1 o1 z1 hS => ?_)
    have hW : CWd G A ad (up2 (up2 (up2 x 24 h ((x 24 h) ||| ((1 : Int32) <<< (nI j &&& 31)))) 25 h ((x 25 h) ||| ((1 : Int32) <<< (nI j &&& 31)))) 26 h ((x 26 h) + (x 8 j))) y z H := hW.put 5 h hh (by rw [← ce_26]; exact e1) o1 (fun _ _ q => q) cu_26
    refine lv_goto (tgt := 59) C.hx C.hb dX2_cast_43 (by decide) ?_
    exact wV C hr dX2_cast_59 hS (by unfold sx_X2_cast; (first | rw [if_neg c1] | simp only [if_neg c1]); exact hW)
def sz_X3_setKin (z : Nat → Int64) (j : Nat) (au : Int32) (is : Int32) : Nat → Int64 := (if is = 0 then (vp_updL z j ((z j) &&& (((1) <<< ((au).toInt64 &&& 63)) ^^^ ((-1))))) else (vp_updL z j ((z j) ||| ((1) <<< ((au).toInt64 &&& 63)))))
set_option maxRecDepth 100000 in
set_option maxHeartbeats 1000000 in
theorem cC_X3_setKin (l : Launch) (G : GG) (A : Nat → Prop) (ad : YY) (x : XX) (y : YY) (z : Nat → Int64) (j : Nat) (au : Int32) (is : Int32) (hj : j < 20) : MW l G yX3_setKin cX3_setKin 3 none 0 [.ref (ad 2 j), .int au, .int is] (CWd G A ad x y z) none (CWd G A ad x y (sz_X3_setKin z j au is)) A 0 0 := by
  refine MW.of RX3 rfl (by decide) (Nat.le_of_ble_eq_true rfl) ?_
  intro p_ e_ s_ m_ args_ below_ meth_ c_ ls hargs C hr hnm hW hS hl
  have hl : lv_has ls 3 [(0, .ref (ad 2 j)), (1, .int au), (2, .int is)] := hl
  refine lv_iload_n C.hx C.hb dX3_setKin_0 rfl (lv_at hl 2 rfl) ?_
  refine lv_if_eq (tgt := 19) C.hx C.hb dX3_setKin_1 (by decide) (fun c1 => ?_) (fun c1 => ?_)
  · refine lv_aload_n C.hx C.hb dX3_setKin_19 rfl (lv_at hl 0 rfl) ?_
    refine lv_dup C.hx C.hb dX3_setKin_20 rfl ?_
    refine g_get (k := 2) (v := .long (z j)) C (hW.1 2 j (show j < 20 by omega)).1 rfl wu_X3 (by decide) wf_X3_13 rfl rfl dX3_setKin_21 ?_
    refine lv_lconst (v := 1) C.hx C.hb dX3_setKin_24 (by decide) ?_
    refine lv_iload_n C.hx C.hb dX3_setKin_25 rfl (lv_at hl 1 rfl) ?_
    refine lv_lshl C.hx C.hb dX3_setKin_26 rfl ?_
    refine lv_ldc2 (v := -1) C.hx C.hb C.hown (C.hT _ wk_X3_36) dX3_setKin_27 ?_
    refine lv_lxor C.hx C.hb dX3_setKin_30 ?_
    refine lv_land C.hx C.hb dX3_setKin_31 ?_
    refine g_put (k := 2) tyX3 C hS (hW.1 2 j (show j < 20 by omega)).1 (hW.1 2 j (show j < 20 by omega)).2 rfl wu_X3 tyX3_ok nmX3 (by decide) wf_X3_13 rfl rfl rfl rfl rfl (Nat.le_of_ble_eq_true rfl) dX3_setKin_32 (fun H locs e1 o1 z1 hS => ?_)
    have hW : CWd G A ad x y (vp_updL z j ((z j) &&& (((1) <<< ((au).toInt64 &&& 63)) ^^^ ((-1))))) H := hW.put 2 j (show j < 20 by omega) (by rw [← ce_z]; exact e1) o1 (fun _ _ q => q) cu_z
    exact wV C hr dX3_setKin_35 hS (by unfold sz_X3_setKin; (first | rw [if_pos c1] | simp only [if_pos c1]); exact hW)
  · refine lv_aload_n C.hx C.hb dX3_setKin_4 rfl (lv_at hl 0 rfl) ?_
    refine lv_dup C.hx C.hb dX3_setKin_5 rfl ?_
    refine g_get (k := 2) (v := .long (z j)) C (hW.1 2 j (show j < 20 by omega)).1 rfl wu_X3 (by decide) wf_X3_13 rfl rfl dX3_setKin_6 ?_
    refine lv_lconst (v := 1) C.hx C.hb dX3_setKin_9 (by decide) ?_
    refine lv_iload_n C.hx C.hb dX3_setKin_10 rfl (lv_at hl 1 rfl) ?_
    refine lv_lshl C.hx C.hb dX3_setKin_11 rfl ?_
    refine lv_lor C.hx C.hb dX3_setKin_12 ?_
    refine g_put (k := 2) tyX3 C hS (hW.1 2 j (show j < 20 by omega)).1 (hW.1 2 j (show j < 20 by omega)).2 rfl wu_X3 tyX3_ok nmX3 (by decide) wf_X3_13 rfl rfl rfl rfl rfl (Nat.le_of_ble_eq_true rfl) dX3_setKin_13 (fun H locs e1 o1 z1 hS => ?_)
    have hW : CWd G A ad x y (vp_updL z j ((z j) ||| ((1) <<< ((au).toInt64 &&& 63)))) H := hW.put 2 j (show j < 20 by omega) (by rw [← ce_z]; exact e1) o1 (fun _ _ q => q) cu_z
    refine lv_goto (tgt := 35) C.hx C.hb dX3_setKin_16 (by decide) ?_
    exact wV C hr dX3_setKin_35 hS (by unfold sz_X3_setKin; (first | rw [if_neg c1] | simp only [if_neg c1]); exact hW)
def sx_X4_restart (x : XX) : XX := (up2 (up2 (up2 (up2 (up2 x 39 0 0) 40 0 0) 41 0 0) 42 0 0) 43 0 (-1))
set_option maxRecDepth 100000 in
set_option maxHeartbeats 1000000 in
theorem cC_X4_restart (l : Launch) (G : GG) (A : Nat → Prop) (ad : YY) (x : XX) (y : YY) (z : Nat → Int64)   : MW l G yX4_restart cX4_restart 1 none 0 [.ref (ad 9 0)] (CWd G A ad x y z) none (CWd G A ad (sx_X4_restart x) y z) A 0 0 := by
  refine MW.of RX4 rfl (by decide) (Nat.le_of_ble_eq_true rfl) ?_
  intro p_ e_ s_ m_ args_ below_ meth_ c_ ls hargs C hr hnm hW hS hl
  have hl : lv_has ls 1 [(0, .ref (ad 9 0))] := hl
  refine lv_aload_n C.hx C.hb dX4_restart_0 rfl (lv_at hl 0 rfl) ?_
  refine lv_iconst (v := 0) C.hx C.hb dX4_restart_1 (by decide) ?_
  refine g_put (k := 3) tyX4 C hS (hW.1 9 0 rfl).1 (hW.1 9 0 rfl).2 rfl wu_X4 tyX4_ok nmX4 (by decide) wf_X4_22 rfl rfl rfl rfl rfl (Nat.le_of_ble_eq_true rfl) dX4_restart_2 (fun H locs e1 o1 z1 hS => ?_)
  have hW : CWd G A ad (up2 x 39 0 0) y z H := hW.put 9 0 rfl (by rw [← ce_39]; exact e1) o1 (fun _ _ q => q) cu_39
  refine lv_aload_n C.hx C.hb dX4_restart_5 rfl (lv_at hl 0 rfl) ?_
  refine lv_iconst (v := 0) C.hx C.hb dX4_restart_6 (by decide) ?_
  refine g_put (k := 4) tyX4 C hS (hW.1 9 0 rfl).1 (hW.1 9 0 rfl).2 rfl wu_X4 tyX4_ok nmX4 (by decide) wf_X4_25 rfl rfl rfl rfl rfl (Nat.le_of_ble_eq_true rfl) dX4_restart_7 (fun H locs e1 o1 z1 hS => ?_)
  have hW : CWd G A ad (up2 (up2 x 39 0 0) 40 0 0) y z H := hW.put 9 0 rfl (by rw [← ce_40]; exact e1) o1 (fun _ _ q => q) cu_40
  refine lv_aload_n C.hx C.hb dX4_restart_10 rfl (lv_at hl 0 rfl) ?_
  refine lv_iconst (v := 0) C.hx C.hb dX4_restart_11 (by decide) ?_
  refine g_put (k := 5) tyX4 C hS (hW.1 9 0 rfl).1 (hW.1 9 0 rfl).2 rfl wu_X4 tyX4_ok nmX4 (by decide) wf_X4_28 rfl rfl rfl rfl rfl (Nat.le_of_ble_eq_true rfl) dX4_restart_12 (fun H locs e1 o1 z1 hS => ?_)
  have hW : CWd G A ad (up2 (up2 (up2 x 39 0 0) 40 0 0) 41 0 0) y z H := hW.put 9 0 rfl (by rw [← ce_41]; exact e1) o1 (fun _ _ q => q) cu_41
  refine lv_aload_n C.hx C.hb dX4_restart_15 rfl (lv_at hl 0 rfl) ?_
  refine lv_iconst (v := 0) C.hx C.hb dX4_restart_16 (by decide) ?_
  refine g_put (k := 6) tyX4 C hS (hW.1 9 0 rfl).1 (hW.1 9 0 rfl).2 rfl wu_X4 tyX4_ok nmX4 (by decide) wf_X4_31 rfl rfl rfl (nb0) rfl (Nat.le_of_ble_eq_true rfl) dX4_restart_17 (fun H locs e1 o1 z1 hS => ?_)
  have hW : CWd G A ad (up2 (up2 (up2 (up2 x 39 0 0) 40 0 0) 41 0 0) 42 0 0) y z H := hW.put 9 0 rfl (by rw [← ce_42]; exact e1) o1 (fun _ _ q => q) cu_42
  refine lv_aload_n C.hx C.hb dX4_restart_20 rfl (lv_at hl 0 rfl) ?_
  refine lv_iconst (v := (-1)) C.hx C.hb dX4_restart_21 (by decide) ?_
  refine g_put (k := 7) tyX4 C hS (hW.1 9 0 rfl).1 (hW.1 9 0 rfl).2 rfl wu_X4 tyX4_ok nmX4 (by decide) wf_X4_35 rfl rfl rfl rfl rfl (Nat.le_of_ble_eq_true rfl) dX4_restart_22 (fun H locs e1 o1 z1 hS => ?_)
  have hW : CWd G A ad (up2 (up2 (up2 (up2 (up2 x 39 0 0) 40 0 0) 41 0 0) 42 0 0) 43 0 (-1)) y z H := hW.put 9 0 rfl (by rw [← ce_43]; exact e1) o1 (fun _ _ q => q) cu_43
  exact wV C hr dX4_restart_25 hS (by unfold sx_X4_restart; exact hW)
def sx_X0_close (x : XX) (y : YY) (c : Nat) : XX := (if (x 19 c) = 3 then (up2 (up2 x 28 (i_X0_hearing y c) 1) 19 c (if (s_X2_findsGuilty (up2 x 28 (i_X0_hearing y c) 1) (i_X0_hearing y c)) = 0 then 4 else 5 : Int32)) else (up2 (up2 x 28 (i_X0_hearing y c) 1) 19 c (if (s_X2_findsGuilty (up2 x 28 (i_X0_hearing y c) 1) (i_X0_hearing y c)) = 0 then 1 else 2 : Int32)))
set_option maxRecDepth 100000 in
set_option maxHeartbeats 1000000 in
theorem cC_X0_close (l : Launch) (G : GG) (A : Nat → Prop) (ad : YY) (x : XX) (y : YY) (z : Nat → Int64) (c : Nat) (hc : c < y 20 1) : MW l G yX0_close cX0_close 2 none 1 [.ref (ad 4 c)] (CWd G A ad x y z) none (CWd G A ad (sx_X0_close x y c) y z) A 0 0 := by
  refine MW.of RX0 rfl (by decide) (Nat.le_of_ble_eq_true rfl) ?_
  intro p_ e_ s_ m_ args_ below_ meth_ c_ ls hargs C hr hnm hW hS hl
  have hl : lv_has ls 2 [(0, .ref (ad 4 c))] := hl
  refine lv_aload_n C.hx C.hb dX0_close_0 rfl (lv_at hl 0 rfl) ?_
  refine kVR (As := []) (rest := []) (v := .ref (ad 5 (i_X0_hearing y c))) C (cC_X0_hearing l G A ad x y z c (by omega)) lk_X0_73 (g_recv C (hW.1 4 c (show c < y 20 1 by omega)).1 rfl) hW rfl rfl hl (Nat.le_of_ble_eq_true rfl) dX0_close_1 ⟨⟨by decide, by decide⟩, by decide, by decide⟩ ?_
  refine lv_astore_n (lv' := [(1, .ref (ad 5 (i_X0_hearing y c))), (0, .ref (ad 4 c))]) C.hx C.hb dX0_close_4 rfl hl (by decide) rfl (fun ls hl => ?_)
  refine lv_aload_n C.hx C.hb dX0_close_5 rfl (lv_at hl 0 rfl) ?_
  refine lv_iconst (v := 1) C.hx C.hb dX0_close_6 (by decide) ?_
  refine g_putN (k := 6) tyX2 C hS (hW.1 5 (i_X0_hearing y c) (lvHe c (by omega))).1 (hW.1 5 (i_X0_hearing y c) (lvHe c (by omega))).2 rfl wu_X2 tyX2_ok nmX2 (by decide) wn_X0_102 rfl rfl rfl (nb1) rfl (Nat.le_of_ble_eq_true rfl) dX0_close_7 (fun H locs e1 o1 z1 hS => ?_)
  have hW : CWd G A ad (up2 x 28 (i_X0_hearing y c) 1) y z H := hW.put 5 (i_X0_hearing y c) (lvHe c (by omega)) (by rw [← ce_28]; exact e1) o1 (fun _ _ q => q) cu_28
  refine lv_aload_n C.hx C.hb dX0_close_10 rfl (lv_at hl 1 rfl) ?_
  refine g_get (k := 8) (v := .int (x 19 c)) C (hW.1 4 c (show c < y 20 1 by omega)).1 rfl wu_X0 (by decide) wf_X0_19 rfl rfl dX0_close_11 ?_
  refine lv_iconst (v := 3) C.hx C.hb dX0_close_14 (by decide) ?_
  refine lv_icmp_ne (tgt := 37) C.hx C.hb dX0_close_15 (by decide) (fun c1 => ?_) (fun c1 => ?_)
  · refine lv_aload_n C.hx C.hb dX0_close_37 rfl (lv_at hl 1 rfl) ?_
    refine lv_aload_n C.hx C.hb dX0_close_38 rfl (lv_at hl 0 rfl) ?_
    refine kVNR (As := []) (rest := [.ref (ad 4 c)]) (v := .int (s_X2_findsGuilty (up2 x 28 (i_X0_hearing y c) 1) (i_X0_hearing y c))) C (cC_X2_findsGuilty l G A ad (up2 x 28 (i_X0_hearing y c) 1) y z (i_X0_hearing y c) (lvHe c (by omega))) lk_X0_106 (g_recv C (hW.1 5 (i_X0_hearing y c) (lvHe c (by omega))).1 rfl) hW rfl rfl hl (Nat.le_of_ble_eq_true rfl) dX0_close_39 ⟨⟨by decide, by decide⟩, by decide, by decide⟩ ?_
    refine W.joinI (P := fun jv => jv = (if (s_X2_findsGuilty (up2 x 28 (i_X0_hearing y c) 1) (i_X0_hearing y c)) = 0 then 1 else 2 : Int32)) 50 ls [.ref (ad 4 c)] (fun J3 => ?_) (fun v4 hv4 => ?_)
    · refine lv_if_eq (tgt := 49) C.hx C.hb dX0_close_42 (by decide) (fun c2 => ?_) (fun c2 => ?_)
      · refine lv_iconst (v := 1) C.hx C.hb dX0_close_49 (by decide) ?_
        exact J3 _ (by rw [if_pos c2])
      · refine lv_iconst (v := 2) C.hx C.hb dX0_close_45 (by decide) ?_
        refine lv_goto (tgt := 50) C.hx C.hb dX0_close_46 (by decide) ?_
        exact J3 _ (by rw [if_neg c2])
    · refine g_put (k := 8) tyX0 C hS (hW.1 4 c (show c < y 20 1 by omega)).1 (hW.1 4 c (show c < y 20 1 by omega)).2 rfl wu_X0 tyX0_ok nmX0 (by decide) wf_X0_19 rfl rfl rfl rfl rfl (Nat.le_of_ble_eq_true rfl) dX0_close_50 (fun H locs e1 o1 z1 hS => ?_)
      have hW : CWd G A ad (up2 (up2 x 28 (i_X0_hearing y c) 1) 19 c v4) y z H := hW.put 4 c (show c < y 20 1 by omega) (by rw [← ce_19]; exact e1) o1 (fun _ _ q => q) cu_19
      exact wV C hr dX0_close_53 hS (by rw [hv4] at hW; unfold sx_X0_close; (first | rw [if_neg c1] | simp only [if_neg c1]); exact hW)
  · refine lv_aload_n C.hx C.hb dX0_close_18 rfl (lv_at hl 1 rfl) ?_
    refine lv_aload_n C.hx C.hb dX0_close_19 rfl (lv_at hl 0 rfl) ?_
    refine kVNR (As := []) (rest := [.ref (ad 4 c)]) (v := .int (s_X2_findsGuilty (up2 x 28 (i_X0_hearing y c) 1) (i_X0_hearing y c))) C (cC_X2_findsGuilty l G A ad (up2 x 28 (i_X0_hearing y c) 1) y z (i_X0_hearing y c) (lvHe c (by omega))) lk_X0_106 (g_recv C (hW.1 5 (i_X0_hearing y c) (lvHe c (by omega))).1 rfl) hW rfl rfl hl (Nat.le_of_ble_eq_true rfl) dX0_close_20 ⟨⟨by decide, by decide⟩, by decide, by decide⟩ ?_
    refine W.joinI (P := fun jv => jv = (if (s_X2_findsGuilty (up2 x 28 (i_X0_hearing y c) 1) (i_X0_hearing y c)) = 0 then 4 else 5 : Int32)) 31 ls [.ref (ad 4 c)] (fun J6 => ?_) (fun v7 hv7 => ?_)
    · refine lv_if_eq (tgt := 30) C.hx C.hb dX0_close_23 (by decide) (fun c5 => ?_) (fun c5 => ?_)
      · refine lv_iconst (v := 4) C.hx C.hb dX0_close_30 (by decide) ?_
        exact J6 _ (by rw [if_pos c5])
      · refine lv_iconst (v := 5) C.hx C.hb dX0_close_26 (by decide) ?_
        refine lv_goto (tgt := 31) C.hx C.hb dX0_close_27 (by decide) ?_
        exact J6 _ (by rw [if_neg c5])
    · refine g_put (k := 8) tyX0 C hS (hW.1 4 c (show c < y 20 1 by omega)).1 (hW.1 4 c (show c < y 20 1 by omega)).2 rfl wu_X0 tyX0_ok nmX0 (by decide) wf_X0_19 rfl rfl rfl rfl rfl (Nat.le_of_ble_eq_true rfl) dX0_close_31 (fun H locs e1 o1 z1 hS => ?_)
      have hW : CWd G A ad (up2 (up2 x 28 (i_X0_hearing y c) 1) 19 c v7) y z H := hW.put 4 c (show c < y 20 1 by omega) (by rw [← ce_19]; exact e1) o1 (fun _ _ q => q) cu_19
      refine lv_goto (tgt := 53) C.hx C.hb dX0_close_34 (by decide) ?_
      exact wV C hr dX0_close_53 hS (by rw [hv7] at hW; unfold sx_X0_close; (first | rw [if_pos c1] | simp only [if_pos c1]); exact hW)
def s_X7_tick (x : XX) (n : Int32) : Int32 := (if (s_X7_within n 1 1000) = 0 then (-1) else (if n ≤ (1000000 - (x 0 0)) then (x 0 0) + n else (-1)))
def sx_X7_tick (x : XX) (n : Int32) : XX := (if (s_X7_within n 1 1000) = 0 then x else (if n ≤ (1000000 - (x 0 0)) then (up2 x 0 0 ((x 0 0) + n)) else x))
set_option maxRecDepth 100000 in
set_option maxHeartbeats 1000000 in
theorem cC_X7_tick (l : Launch) (G : GG) (A : Nat → Prop) (ad : YY) (x : XX) (y : YY) (z : Nat → Int64) (n : Int32)  : MW l G yX7_tick cX7_tick 2 (some .int) 1 [.ref (ad 0 0), .int n] (CWd G A ad x y z) (some (.int (s_X7_tick x n))) (CWd G A ad (sx_X7_tick x n) y z) A 0 0 := by
  refine MW.of RX7 rfl (by decide) (Nat.le_of_ble_eq_true rfl) ?_
  intro p_ e_ s_ m_ args_ below_ meth_ c_ ls hargs C hr hnm hW hS hl
  have hl : lv_has ls 2 [(0, .ref (ad 0 0)), (1, .int n)] := hl
  refine lv_iload_n C.hx C.hb dX7_tick_0 rfl (lv_at hl 1 rfl) ?_
  refine lv_iconst (v := 1) C.hx C.hb dX7_tick_1 (by decide) ?_
  refine lv_sipush (v := 1000) C.hx C.hb dX7_tick_2 (by decide) ?_
  refine kSR (As := [.int n, .int 1, .int 1000]) (rest := []) (v := .int (s_X7_within n 1 1000)) C (cJ_X7_within l G n 1 1000) lk_X7_59 trivial rfl rfl hl (Nat.le_of_ble_eq_true rfl) dX7_tick_5 ⟨⟨by decide, by decide⟩, by decide, by decide⟩ ?_
  refine lv_if_eq (tgt := 22) C.hx C.hb dX7_tick_8 (by decide) (fun c1 => ?_) (fun c1 => ?_)
  · refine lv_iconst (v := (-1)) C.hx C.hb dX7_tick_22 (by decide) ?_
    exact wI C hr dX7_tick_23 hS (by unfold s_X7_tick; first | (rw [if_pos c1]; done) | simp only [if_pos c1] | (simp only [if_pos c1]; rfl)) (by unfold sx_X7_tick; (first | rw [if_pos c1] | simp only [if_pos c1]); exact hW)
  · refine lv_iload_n C.hx C.hb dX7_tick_11 rfl (lv_at hl 1 rfl) ?_
    refine lv_ldc (v := 1000000) C.hx C.hb C.hown (C.hT _ wk_X7_63) dX7_tick_12 ?_
    refine lv_aload_n C.hx C.hb dX7_tick_14 rfl (lv_at hl 0 rfl) ?_
    refine g_get (k := 7) (v := .int (x 0 0)) C (hW.1 0 0 rfl).1 rfl wu_X7 (by decide) wf_X7_45 rfl rfl dX7_tick_15 ?_
    refine lv_isub C.hx C.hb dX7_tick_18 ?_
    refine lv_icmp_le (tgt := 24) C.hx C.hb dX7_tick_19 (by decide) (fun c2 => ?_) (fun c2 => ?_)
    · refine lv_aload_n C.hx C.hb dX7_tick_24 rfl (lv_at hl 0 rfl) ?_
      refine lv_dup C.hx C.hb dX7_tick_25 rfl ?_
      refine g_get (k := 7) (v := .int (x 0 0)) C (hW.1 0 0 rfl).1 rfl wu_X7 (by decide) wf_X7_45 rfl rfl dX7_tick_26 ?_
      refine lv_iload_n C.hx C.hb dX7_tick_29 rfl (lv_at hl 1 rfl) ?_
      refine lv_iadd C.hx C.hb dX7_tick_30 ?_
      refine g_put (k := 7) tyX7 C hS (hW.1 0 0 rfl).1 (hW.1 0 0 rfl).2 rfl wu_X7 tyX7_ok nmX7 (by decide) wf_X7_45 rfl rfl rfl rfl rfl (Nat.le_of_ble_eq_true rfl) dX7_tick_31 (fun H locs e1 o1 z1 hS => ?_)
      have hW : CWd G A ad (up2 x 0 0 ((x 0 0) + n)) y z H := hW.put 0 0 rfl (by rw [← ce_0]; exact e1) o1 (fun _ _ q => q) cu_0
      refine lv_aload_n C.hx C.hb dX7_tick_34 rfl (lv_at hl 0 rfl) ?_
      refine g_get (k := 7) (v := .int ((x 0 0) + n)) C (hW.1 0 0 rfl).1 rfl wu_X7 (by decide) wf_X7_45 rfl rfl dX7_tick_35 ?_
      exact wI C hr dX7_tick_38 hS (by unfold s_X7_tick; first | (rw [if_neg c1, if_pos c2]; done) | simp only [if_neg c1, if_pos c2] | (simp only [if_neg c1, if_pos c2]; rfl)) (by unfold sx_X7_tick; (first | rw [if_neg c1, if_pos c2] | simp only [if_neg c1, if_pos c2]); exact hW)
    · refine lv_iconst (v := (-1)) C.hx C.hb dX7_tick_22 (by decide) ?_
      exact wI C hr dX7_tick_23 hS (by unfold s_X7_tick; first | (rw [if_neg c1, if_neg c2]; done) | simp only [if_neg c1, if_neg c2] | (simp only [if_neg c1, if_neg c2]; rfl)) (by unfold sx_X7_tick; (first | rw [if_neg c1, if_neg c2] | simp only [if_neg c1, if_neg c2]); exact hW)
def s_X7_rule (r : Int32) (g : Int32) (h : Int32) (f : Int32) : Int32 := (if s_X7_within r 0 7 = 0 then (-1) else (if (s_X7_within g 0 2) = 0 then (-1) else (if (s_X7_within h 1 100) = 0 then (-1) else (if (s_X7_within f 0 2) = 0 then (-1) else 1))))
def sx_X7_rule (x : XX) (r : Int32) (g : Int32) (h : Int32) (f : Int32) : XX := (if s_X7_within r 0 7 = 0 then x else (if (s_X7_within g 0 2) = 0 then x else (if (s_X7_within h 1 100) = 0 then x else (if (s_X7_within f 0 2) = 0 then x else (up2 (up2 (up2 x 3 (tn r) g) 4 (tn r) h) 5 (tn r) f)))))
set_option maxRecDepth 100000 in
set_option maxHeartbeats 1000000 in
theorem cC_X7_rule (l : Launch) (G : GG) (A : Nat → Prop) (ad : YY) (x : XX) (y : YY) (z : Nat → Int64) (r : Int32) (g : Int32) (h : Int32) (f : Int32)  : MW l G yX7_rule cX7_rule 6 (some .int) 2 [.ref (ad 0 0), .int r, .int g, .int h, .int f] (CWd G A ad x y z) (some (.int (s_X7_rule r g h f))) (CWd G A ad (sx_X7_rule x r g h f) y z) A 0 0 := by
  refine MW.of RX7 rfl (by decide) (Nat.le_of_ble_eq_true rfl) ?_
  intro p_ e_ s_ m_ args_ below_ meth_ c_ ls hargs C hr hnm hW hS hl
  have hl : lv_has ls 6 [(0, .ref (ad 0 0)), (1, .int r), (2, .int g), (3, .int h), (4, .int f)] := hl
  refine lv_aload_n C.hx C.hb dX7_rule_0 rfl (lv_at hl 0 rfl) ?_
  refine lv_iload_n C.hx C.hb dX7_rule_1 rfl (lv_at hl 1 rfl) ?_
  by_cases c1 : s_X7_within r 0 7 = 0
  · refine kVR (As := [.int r]) (rest := []) (v := .null) C (cC_X7_ruleAt_no l G A ad x y z r c1) lk_X7_64 (g_recv C (hW.1 0 0 rfl).1 rfl) hW rfl rfl hl (Nat.le_of_ble_eq_true rfl) dX7_rule_2 ⟨⟨by decide, by decide⟩, by decide, by decide⟩ ?_
    refine lv_astoreN (lv' := [(5, .null), (0, .ref (ad 0 0)), (1, .int r), (2, .int g), (3, .int h), (4, .int f)]) C.hx C.hb dX7_rule_5 hl (by decide) rfl (fun ls hl => ?_)
    refine lv_aloadN C.hx C.hb dX7_rule_7 (lv_at hl 0 rfl) ?_
    refine lv_ifnullN (tgt := 41) C.hx C.hb dX7_rule_9 (by decide) ?_
    refine lv_iconst (v := (-1)) C.hx C.hb dX7_rule_41 (by decide) ?_
    exact wI C hr dX7_rule_42 hS (by unfold s_X7_rule; first | (rw [if_pos c1]; done) | simp only [if_pos c1] | (simp only [if_pos c1]; rfl)) (by unfold sx_X7_rule; (first | rw [if_pos c1] | simp only [if_pos c1]); exact hW)
  · obtain ⟨rN, hrN, rfl⟩ := withinK (n := 8) c1 (by decide)
    have trN : tn (nI rN) = rN := nI_clamp (by omega)
    refine kVR (As := [.int (nI rN)]) (rest := []) (v := .ref (ad 1 rN)) C (cC_X7_ruleAt_yes l G A ad x y z rN (by omega)) lk_X7_64 (g_recv C (hW.1 0 0 rfl).1 rfl) hW rfl rfl hl (Nat.le_of_ble_eq_true rfl) dX7_rule_2 ⟨⟨by decide, by decide⟩, by decide, by decide⟩ ?_
    refine lv_astore (lv' := [(5, .ref (ad 1 rN)), (0, .ref (ad 0 0)), (1, .int (nI rN)), (2, .int g), (3, .int h), (4, .int f)]) C.hx C.hb dX7_rule_5 hl (by decide) rfl (fun ls hl => ?_)
    refine lv_aload C.hx C.hb dX7_rule_7 (lv_at hl 0 rfl) ?_
    refine lv_ifnull C.hx C.hb dX7_rule_9 ?_
    refine lv_iload_n C.hx C.hb dX7_rule_12 rfl (lv_at hl 3 rfl) ?_
    refine lv_iconst (v := 0) C.hx C.hb dX7_rule_13 (by decide) ?_
    refine lv_iconst (v := 2) C.hx C.hb dX7_rule_14 (by decide) ?_
    refine kSR (As := [.int g, .int 0, .int 2]) (rest := []) (v := .int (s_X7_within g 0 2)) C (cJ_X7_within l G g 0 2) lk_X7_59 trivial rfl rfl hl (Nat.le_of_ble_eq_true rfl) dX7_rule_15 ⟨⟨by decide, by decide⟩, by decide, by decide⟩ ?_
    refine lv_if_eq (tgt := 41) C.hx C.hb dX7_rule_18 (by decide) (fun c2 => ?_) (fun c2 => ?_)
    · refine lv_iconst (v := (-1)) C.hx C.hb dX7_rule_41 (by decide) ?_
      exact wI C hr dX7_rule_42 hS (by unfold s_X7_rule; (try simp only [trN]); first | (rw [if_neg c1, if_pos c2]; done) | simp only [if_neg c1, if_pos c2] | (simp only [if_neg c1, if_pos c2]; rfl)) (by unfold sx_X7_rule; (try simp only [trN]); (first | rw [if_neg c1, if_pos c2] | simp only [if_neg c1, if_pos c2]); exact hW)
    · refine lv_iload_n C.hx C.hb dX7_rule_21 rfl (lv_at hl 4 rfl) ?_
      refine lv_iconst (v := 1) C.hx C.hb dX7_rule_22 (by decide) ?_
      refine lv_bipush (v := 100) C.hx C.hb dX7_rule_23 (by decide) ?_
      refine kSR (As := [.int h, .int 1, .int 100]) (rest := []) (v := .int (s_X7_within h 1 100)) C (cJ_X7_within l G h 1 100) lk_X7_59 trivial rfl rfl hl (Nat.le_of_ble_eq_true rfl) dX7_rule_25 ⟨⟨by decide, by decide⟩, by decide, by decide⟩ ?_
      refine lv_if_eq (tgt := 41) C.hx C.hb dX7_rule_28 (by decide) (fun c3 => ?_) (fun c3 => ?_)
      · refine lv_iconst (v := (-1)) C.hx C.hb dX7_rule_41 (by decide) ?_
        exact wI C hr dX7_rule_42 hS (by unfold s_X7_rule; (try simp only [trN]); first | (rw [if_neg c1, if_neg c2, if_pos c3]; done) | simp only [if_neg c1, if_neg c2, if_pos c3] | (simp only [if_neg c1, if_neg c2, if_pos c3]; rfl)) (by unfold sx_X7_rule; (try simp only [trN]); (first | rw [if_neg c1, if_neg c2, if_pos c3] | simp only [if_neg c1, if_neg c2, if_pos c3]); exact hW)
      · refine lv_iload C.hx C.hb dX7_rule_31 (lv_at hl 5 rfl) ?_
        refine lv_iconst (v := 0) C.hx C.hb dX7_rule_33 (by decide) ?_
        refine lv_iconst (v := 2) C.hx C.hb dX7_rule_34 (by decide) ?_
        refine kSR (As := [.int f, .int 0, .int 2]) (rest := []) (v := .int (s_X7_within f 0 2)) C (cJ_X7_within l G f 0 2) lk_X7_59 trivial rfl rfl hl (Nat.le_of_ble_eq_true rfl) dX7_rule_35 ⟨⟨by decide, by decide⟩, by decide, by decide⟩ ?_
        refine lv_if_ne (tgt := 43) C.hx C.hb dX7_rule_38 (by decide) (fun c4 => ?_) (fun c4 => ?_)
        · refine lv_aload C.hx C.hb dX7_rule_43 (lv_at hl 0 rfl) ?_
          refine lv_iload_n C.hx C.hb dX7_rule_45 rfl (lv_at hl 3 rfl) ?_
          refine g_putN (k := 1) tyX6 C hS (hW.1 1 rN (show rN < 8 by omega)).1 (hW.1 1 rN (show rN < 8 by omega)).2 rfl wu_X6 tyX6_ok nmX6 (by decide) wn_X7_68 rfl rfl rfl rfl rfl (Nat.le_of_ble_eq_true rfl) dX7_rule_46 (fun H locs e1 o1 z1 hS => ?_)
          have hW : CWd G A ad (up2 x 3 rN g) y z H := hW.put 1 rN (show rN < 8 by omega) (by rw [← ce_3]; exact e1) o1 (fun _ _ q => q) cu_3
          refine lv_aload C.hx C.hb dX7_rule_49 (lv_at hl 0 rfl) ?_
          refine lv_iload_n C.hx C.hb dX7_rule_51 rfl (lv_at hl 4 rfl) ?_
          refine g_putN (k := 2) tyX6 C hS (hW.1 1 rN (show rN < 8 by omega)).1 (hW.1 1 rN (show rN < 8 by omega)).2 rfl wu_X6 tyX6_ok nmX6 (by decide) wn_X7_71 rfl rfl rfl rfl rfl (Nat.le_of_ble_eq_true rfl) dX7_rule_52 (fun H locs e1 o1 z1 hS => ?_)
          have hW : CWd G A ad (up2 (up2 x 3 rN g) 4 rN h) y z H := hW.put 1 rN (show rN < 8 by omega) (by rw [← ce_4]; exact e1) o1 (fun _ _ q => q) cu_4
          refine lv_aload C.hx C.hb dX7_rule_55 (lv_at hl 0 rfl) ?_
          refine lv_iload C.hx C.hb dX7_rule_57 (lv_at hl 5 rfl) ?_
          refine g_putN (k := 3) tyX6 C hS (hW.1 1 rN (show rN < 8 by omega)).1 (hW.1 1 rN (show rN < 8 by omega)).2 rfl wu_X6 tyX6_ok nmX6 (by decide) wn_X7_74 rfl rfl rfl rfl rfl (Nat.le_of_ble_eq_true rfl) dX7_rule_59 (fun H locs e1 o1 z1 hS => ?_)
          have hW : CWd G A ad (up2 (up2 (up2 x 3 rN g) 4 rN h) 5 rN f) y z H := hW.put 1 rN (show rN < 8 by omega) (by rw [← ce_5]; exact e1) o1 (fun _ _ q => q) cu_5
          refine lv_iconst (v := 1) C.hx C.hb dX7_rule_62 (by decide) ?_
          exact wI C hr dX7_rule_63 hS (by unfold s_X7_rule; (try simp only [trN]); first | (rw [if_neg c1, if_neg c2, if_neg c3, if_neg c4]; done) | simp only [if_neg c1, if_neg c2, if_neg c3, if_neg c4] | (simp only [if_neg c1, if_neg c2, if_neg c3, if_neg c4]; rfl)) (by unfold sx_X7_rule; (try simp only [trN]); (first | rw [if_neg c1, if_neg c2, if_neg c3, if_neg c4] | simp only [if_neg c1, if_neg c2, if_neg c3, if_neg c4]); exact hW)
        · refine lv_iconst (v := (-1)) C.hx C.hb dX7_rule_41 (by decide) ?_
          exact wI C hr dX7_rule_42 hS (by unfold s_X7_rule; (try simp only [trN]); first | (rw [if_neg c1, if_neg c2, if_neg c3, if_pos c4]; done) | simp only [if_neg c1, if_neg c2, if_neg c3, if_pos c4] | (simp only [if_neg c1, if_neg c2, if_neg c3, if_pos c4]; rfl)) (by unfold sx_X7_rule; (try simp only [trN]); (first | rw [if_neg c1, if_neg c2, if_neg c3, if_pos c4] | simp only [if_neg c1, if_neg c2, if_neg c3, if_pos c4]); exact hW)
def s_X7_ladder (f : Int32) (q : Int32) : Int32 := (if (s_X7_within f 1 10000) = 0 then (-1) else (if (s_X7_within q 1 10000) = 0 then (-1) else 1))
def sx_X7_ladder (x : XX) (f : Int32) (q : Int32) : XX := (if (s_X7_within f 1 10000) = 0 then x else (if (s_X7_within q 1 10000) = 0 then x else (up2 (up2 x 37 0 f) 38 0 q)))
set_option maxRecDepth 100000 in
set_option maxHeartbeats 1000000 in
theorem cC_X7_ladder (l : Launch) (G : GG) (A : Nat → Prop) (ad : YY) (x : XX) (y : YY) (z : Nat → Int64) (f : Int32) (q : Int32)  : MW l G yX7_ladder cX7_ladder 3 (some .int) 1 [.ref (ad 0 0), .int f, .int q] (CWd G A ad x y z) (some (.int (s_X7_ladder f q))) (CWd G A ad (sx_X7_ladder x f q) y z) A 0 0 := by
  refine MW.of RX7 rfl (by decide) (Nat.le_of_ble_eq_true rfl) ?_
  intro p_ e_ s_ m_ args_ below_ meth_ c_ ls hargs C hr hnm hW hS hl
  have hl : lv_has ls 3 [(0, .ref (ad 0 0)), (1, .int f), (2, .int q)] := hl
  refine lv_iload_n C.hx C.hb dX7_ladder_0 rfl (lv_at hl 1 rfl) ?_
  refine lv_iconst (v := 1) C.hx C.hb dX7_ladder_1 (by decide) ?_
  refine lv_sipush (v := 10000) C.hx C.hb dX7_ladder_2 (by decide) ?_
  refine kSR (As := [.int f, .int 1, .int 10000]) (rest := []) (v := .int (s_X7_within f 1 10000)) C (cJ_X7_within l G f 1 10000) lk_X7_59 trivial rfl rfl hl (Nat.le_of_ble_eq_true rfl) dX7_ladder_5 ⟨⟨by decide, by decide⟩, by decide, by decide⟩ ?_
  refine lv_if_eq (tgt := 22) C.hx C.hb dX7_ladder_8 (by decide) (fun c1 => ?_) (fun c1 => ?_)
  · refine lv_iconst (v := (-1)) C.hx C.hb dX7_ladder_22 (by decide) ?_
    exact wI C hr dX7_ladder_23 hS (by unfold s_X7_ladder; first | (rw [if_pos c1]; done) | simp only [if_pos c1] | (simp only [if_pos c1]; rfl)) (by unfold sx_X7_ladder; (first | rw [if_pos c1] | simp only [if_pos c1]); exact hW)
  · refine lv_iload_n C.hx C.hb dX7_ladder_11 rfl (lv_at hl 2 rfl) ?_
    refine lv_iconst (v := 1) C.hx C.hb dX7_ladder_12 (by decide) ?_
    refine lv_sipush (v := 10000) C.hx C.hb dX7_ladder_13 (by decide) ?_
    refine kSR (As := [.int q, .int 1, .int 10000]) (rest := []) (v := .int (s_X7_within q 1 10000)) C (cJ_X7_within l G q 1 10000) lk_X7_59 trivial rfl rfl hl (Nat.le_of_ble_eq_true rfl) dX7_ladder_16 ⟨⟨by decide, by decide⟩, by decide, by decide⟩ ?_
    refine lv_if_ne (tgt := 24) C.hx C.hb dX7_ladder_19 (by decide) (fun c2 => ?_) (fun c2 => ?_)
    · refine lv_aload_n C.hx C.hb dX7_ladder_24 rfl (lv_at hl 0 rfl) ?_
      refine g_get (k := 6) (v := .ref (ad 9 0)) C (hW.1 0 0 rfl).1 rfl wu_X7 (by decide) wf_X7_41 rfl rfl dX7_ladder_25 ?_
      refine lv_iload_n C.hx C.hb dX7_ladder_28 rfl (lv_at hl 1 rfl) ?_
      refine g_putN (k := 0) tyX4 C hS (hW.1 9 0 rfl).1 (hW.1 9 0 rfl).2 rfl wu_X4 tyX4_ok nmX4 (by decide) wn_X7_77 rfl rfl rfl rfl rfl (Nat.le_of_ble_eq_true rfl) dX7_ladder_29 (fun H locs e1 o1 z1 hS => ?_)
      have hW : CWd G A ad (up2 x 37 0 f) y z H := hW.put 9 0 rfl (by rw [← ce_37]; exact e1) o1 (fun _ _ q => q) cu_37
      refine lv_aload_n C.hx C.hb dX7_ladder_32 rfl (lv_at hl 0 rfl) ?_
      refine g_get (k := 6) (v := .ref (ad 9 0)) C (hW.1 0 0 rfl).1 rfl wu_X7 (by decide) wf_X7_41 rfl rfl dX7_ladder_33 ?_
      refine lv_iload_n C.hx C.hb dX7_ladder_36 rfl (lv_at hl 2 rfl) ?_
      refine g_putN (k := 1) tyX4 C hS (hW.1 9 0 rfl).1 (hW.1 9 0 rfl).2 rfl wu_X4 tyX4_ok nmX4 (by decide) wn_X7_80 rfl rfl rfl rfl rfl (Nat.le_of_ble_eq_true rfl) dX7_ladder_37 (fun H locs e1 o1 z1 hS => ?_)
      have hW : CWd G A ad (up2 (up2 x 37 0 f) 38 0 q) y z H := hW.put 9 0 rfl (by rw [← ce_38]; exact e1) o1 (fun _ _ q => q) cu_38
      refine lv_iconst (v := 1) C.hx C.hb dX7_ladder_40 (by decide) ?_
      exact wI C hr dX7_ladder_41 hS (by unfold s_X7_ladder; first | (rw [if_neg c1, if_neg c2]; done) | simp only [if_neg c1, if_neg c2] | (simp only [if_neg c1, if_neg c2]; rfl)) (by unfold sx_X7_ladder; (first | rw [if_neg c1, if_neg c2] | simp only [if_neg c1, if_neg c2]); exact hW)
    · refine lv_iconst (v := (-1)) C.hx C.hb dX7_ladder_22 (by decide) ?_
      exact wI C hr dX7_ladder_23 hS (by unfold s_X7_ladder; first | (rw [if_neg c1, if_pos c2]; done) | simp only [if_neg c1, if_pos c2] | (simp only [if_neg c1, if_pos c2]; rfl)) (by unfold sx_X7_ladder; (first | rw [if_neg c1, if_pos c2] | simp only [if_neg c1, if_pos c2]); exact hW)
def s_X7_due (x : XX) (g : Int32) (t : Int32) : Int32 := (if (s_X7_within g 0 2) = 0 then (-1) else (if (s_X7_within t 1 1000) = 0 then (-1) else x 45 (tn g)))
def sx_X7_due (x : XX) (g : Int32) (t : Int32) : XX := (if (s_X7_within g 0 2) = 0 then x else (if (s_X7_within t 1 1000) = 0 then x else (up2 x 45 (tn g) t)))
set_option maxRecDepth 100000 in
set_option maxHeartbeats 1000000 in
theorem cC_X7_due (l : Launch) (G : GG) (A : Nat → Prop) (ad : YY) (x : XX) (y : YY) (z : Nat → Int64) (g : Int32) (t : Int32)  : MW l G yX7_due cX7_due 4 (some .int) 1 [.ref (ad 0 0), .int g, .int t] (CWd G A ad x y z) (some (.int (s_X7_due x g t))) (CWd G A ad (sx_X7_due x g t) y z) A 0 0 := by
  refine MW.of RX7 rfl (by decide) (Nat.le_of_ble_eq_true rfl) ?_
  intro p_ e_ s_ m_ args_ below_ meth_ c_ ls hargs C hr hnm hW hS hl
  have hl : lv_has ls 4 [(0, .ref (ad 0 0)), (1, .int g), (2, .int t)] := hl
  refine lv_iload_n C.hx C.hb dX7_due_0 rfl (lv_at hl 1 rfl) ?_
  refine lv_iconst (v := 0) C.hx C.hb dX7_due_1 (by decide) ?_
  refine lv_iconst (v := 2) C.hx C.hb dX7_due_2 (by decide) ?_
  refine kSR (As := [.int g, .int 0, .int 2]) (rest := []) (v := .int (s_X7_within g 0 2)) C (cJ_X7_within l G g 0 2) lk_X7_59 trivial rfl rfl hl (Nat.le_of_ble_eq_true rfl) dX7_due_3 ⟨⟨by decide, by decide⟩, by decide, by decide⟩ ?_
  refine lv_if_eq (tgt := 20) C.hx C.hb dX7_due_6 (by decide) (fun c1 => ?_) (fun c1 => ?_)
  · refine lv_iconst (v := (-1)) C.hx C.hb dX7_due_20 (by decide) ?_
    exact wI C hr dX7_due_21 hS (by unfold s_X7_due; first | (rw [if_pos c1]; done) | simp only [if_pos c1] | (simp only [if_pos c1]; rfl)) (by unfold sx_X7_due; (first | rw [if_pos c1] | simp only [if_pos c1]); exact hW)
  · obtain ⟨gN, hgN, rfl⟩ := withinK (n := 3) c1 (by decide)
    have tgN : tn (nI gN) = gN := nI_clamp (by omega)
    refine lv_iload_n C.hx C.hb dX7_due_9 rfl (lv_at hl 2 rfl) ?_
    refine lv_iconst (v := 1) C.hx C.hb dX7_due_10 (by decide) ?_
    refine lv_sipush (v := 1000) C.hx C.hb dX7_due_11 (by decide) ?_
    refine kSR (As := [.int t, .int 1, .int 1000]) (rest := []) (v := .int (s_X7_within t 1 1000)) C (cJ_X7_within l G t 1 1000) lk_X7_59 trivial rfl rfl hl (Nat.le_of_ble_eq_true rfl) dX7_due_14 ⟨⟨by decide, by decide⟩, by decide, by decide⟩ ?_
    refine lv_if_ne (tgt := 22) C.hx C.hb dX7_due_17 (by decide) (fun c2 => ?_) (fun c2 => ?_)
    · refine lv_aload_n C.hx C.hb dX7_due_22 rfl (lv_at hl 0 rfl) ?_
      refine g_get (k := 5) (v := .ref (ad 10 1)) C (hW.1 0 0 rfl).1 rfl wu_X7 (by decide) wf_X7_34 rfl rfl dX7_due_23 ?_
      refine lv_iload_n C.hx C.hb dX7_due_26 rfl (lv_at hl 1 rfl) ?_
      refine g_iald (n := 3) (f := x 45) (k := gN) C (hW.1 10 1 (by exact (by decide : 1 < 2))).1 rfl (show gN < 3 by omega) (by decide) dX7_due_27 ?_
      refine lv_istore_n (lv' := [(3, .int (x 45 gN)), (0, .ref (ad 0 0)), (1, .int (nI gN)), (2, .int t)]) C.hx C.hb dX7_due_28 rfl hl (by decide) rfl (fun ls hl => ?_)
      refine lv_aload_n C.hx C.hb dX7_due_29 rfl (lv_at hl 1 rfl) ?_
      refine g_get (k := 5) (v := .ref (ad 10 1)) C (hW.1 0 0 rfl).1 rfl wu_X7 (by decide) wf_X7_34 rfl rfl dX7_due_30 ?_
      refine lv_iload_n C.hx C.hb dX7_due_33 rfl (lv_at hl 2 rfl) ?_
      refine lv_iload_n C.hx C.hb dX7_due_34 rfl (lv_at hl 3 rfl) ?_
      refine g_iast (n := 3) (f := x 45) (k := gN) C hS (hW.1 10 1 (by exact (by decide : 1 < 2))).1 (hW.1 10 1 (by exact (by decide : 1 < 2))).2 rfl (show gN < 3 by omega) (by decide) dX7_due_35 (fun H locs e1 o1 z1 hS => ?_)
      have hW : CWd G A ad (up2 x 45 gN t) y z H := hW.put 10 1 (show lv _ 10 1 by exact (by decide : 1 < 2)) (by exact e1) o1 (fun _ _ q => q) cu_45
      refine lv_iload_n C.hx C.hb dX7_due_36 rfl (lv_at hl 0 rfl) ?_
      exact wI C hr dX7_due_37 hS (by unfold s_X7_due; (try simp only [tgN]); first | (rw [if_neg c1, if_neg c2]; done) | simp only [if_neg c1, if_neg c2] | (simp only [if_neg c1, if_neg c2]; rfl)) (by unfold sx_X7_due; (try simp only [tgN]); (first | rw [if_neg c1, if_neg c2] | simp only [if_neg c1, if_neg c2]); exact hW)
    · refine lv_iconst (v := (-1)) C.hx C.hb dX7_due_20 (by decide) ?_
      exact wI C hr dX7_due_21 hS (by unfold s_X7_due; (try simp only [tgN]); first | (rw [if_neg c1, if_pos c2]; done) | simp only [if_neg c1, if_pos c2] | (simp only [if_neg c1, if_pos c2]; rfl)) (by unfold sx_X7_due; (try simp only [tgN]); (first | rw [if_neg c1, if_pos c2] | simp only [if_neg c1, if_pos c2]); exact hW)
def s_X7_limit (x : XX) (pc : Int32) : Int32 := (if (s_X7_within pc 0 100) = 0 then (-1) else x 1 0)
def sx_X7_limit (x : XX) (pc : Int32) : XX := (if (s_X7_within pc 0 100) = 0 then x else (up2 x 1 0 pc))
set_option maxRecDepth 100000 in
set_option maxHeartbeats 1000000 in
theorem cC_X7_limit (l : Launch) (G : GG) (A : Nat → Prop) (ad : YY) (x : XX) (y : YY) (z : Nat → Int64) (pc : Int32)  : MW l G yX7_limit cX7_limit 3 (some .int) 1 [.ref (ad 0 0), .int pc] (CWd G A ad x y z) (some (.int (s_X7_limit x pc))) (CWd G A ad (sx_X7_limit x pc) y z) A 0 0 := by
  refine MW.of RX7 rfl (by decide) (Nat.le_of_ble_eq_true rfl) ?_
  intro p_ e_ s_ m_ args_ below_ meth_ c_ ls hargs C hr hnm hW hS hl
  have hl : lv_has ls 3 [(0, .ref (ad 0 0)), (1, .int pc)] := hl
  refine lv_iload_n C.hx C.hb dX7_limit_0 rfl (lv_at hl 1 rfl) ?_
  refine lv_iconst (v := 0) C.hx C.hb dX7_limit_1 (by decide) ?_
  refine lv_bipush (v := 100) C.hx C.hb dX7_limit_2 (by decide) ?_
  refine kSR (As := [.int pc, .int 0, .int 100]) (rest := []) (v := .int (s_X7_within pc 0 100)) C (cJ_X7_within l G pc 0 100) lk_X7_59 trivial rfl rfl hl (Nat.le_of_ble_eq_true rfl) dX7_limit_4 ⟨⟨by decide, by decide⟩, by decide, by decide⟩ ?_
  refine lv_if_ne (tgt := 12) C.hx C.hb dX7_limit_7 (by decide) (fun c1 => ?_) (fun c1 => ?_)
  · refine lv_aload_n C.hx C.hb dX7_limit_12 rfl (lv_at hl 0 rfl) ?_
    refine g_get (k := 8) (v := .int (x 1 0)) C (hW.1 0 0 rfl).1 rfl wu_X7 (by decide) wf_X7_49 rfl rfl dX7_limit_13 ?_
    refine lv_istore_n (lv' := [(2, .int (x 1 0)), (0, .ref (ad 0 0)), (1, .int pc)]) C.hx C.hb dX7_limit_16 rfl hl (by decide) rfl (fun ls hl => ?_)
    refine lv_aload_n C.hx C.hb dX7_limit_17 rfl (lv_at hl 1 rfl) ?_
    refine lv_iload_n C.hx C.hb dX7_limit_18 rfl (lv_at hl 2 rfl) ?_
    refine g_put (k := 8) tyX7 C hS (hW.1 0 0 rfl).1 (hW.1 0 0 rfl).2 rfl wu_X7 tyX7_ok nmX7 (by decide) wf_X7_49 rfl rfl rfl rfl rfl (Nat.le_of_ble_eq_true rfl) dX7_limit_19 (fun H locs e1 o1 z1 hS => ?_)
    have hW : CWd G A ad (up2 x 1 0 pc) y z H := hW.put 0 0 rfl (by rw [← ce_1]; exact e1) o1 (fun _ _ q => q) cu_1
    refine lv_iload_n C.hx C.hb dX7_limit_22 rfl (lv_at hl 0 rfl) ?_
    exact wI C hr dX7_limit_23 hS (by unfold s_X7_limit; first | (rw [if_neg c1]; done) | simp only [if_neg c1] | (simp only [if_neg c1]; rfl)) (by unfold sx_X7_limit; (first | rw [if_neg c1] | simp only [if_neg c1]); exact hW)
  · refine lv_iconst (v := (-1)) C.hx C.hb dX7_limit_10 (by decide) ?_
    exact wI C hr dX7_limit_11 hS (by unfold s_X7_limit; first | (rw [if_pos c1]; done) | simp only [if_pos c1] | (simp only [if_pos c1]; rfl)) (by unfold sx_X7_limit; (first | rw [if_pos c1] | simp only [if_pos c1]); exact hW)
def s_X7_judge (j : Int32) (s : Int32) (ld : Int32) (wt : Int32) : Int32 := (if s_X7_within j 0 19 = 0 then (-1) else (if (s_X7_within s 0 255) = 0 then (-1) else (if (s_X7_within ld 0 20) = 0 then (-1) else (if (s_X7_within wt 1 10) = 0 then (-1) else 1))))
def sx_X7_judge (x : XX) (j : Int32) (s : Int32) (ld : Int32) (wt : Int32) : XX := (if s_X7_within j 0 19 = 0 then x else (if (s_X7_within s 0 255) = 0 then x else (if (s_X7_within ld 0 20) = 0 then x else (if (s_X7_within wt 1 10) = 0 then x else (up2 (up2 (up2 x 6 (tn j) s) 7 (tn j) ld) 8 (tn j) wt)))))
set_option maxRecDepth 100000 in
set_option maxHeartbeats 1000000 in
theorem cC_X7_judge (l : Launch) (G : GG) (A : Nat → Prop) (ad : YY) (x : XX) (y : YY) (z : Nat → Int64) (j : Int32) (s : Int32) (ld : Int32) (wt : Int32)  : MW l G yX7_judge cX7_judge 6 (some .int) 2 [.ref (ad 0 0), .int j, .int s, .int ld, .int wt] (CWd G A ad x y z) (some (.int (s_X7_judge j s ld wt))) (CWd G A ad (sx_X7_judge x j s ld wt) y z) A 0 0 := by
  refine MW.of RX7 rfl (by decide) (Nat.le_of_ble_eq_true rfl) ?_
  intro p_ e_ s_ m_ args_ below_ meth_ c_ ls hargs C hr hnm hW hS hl
  have hl : lv_has ls 6 [(0, .ref (ad 0 0)), (1, .int j), (2, .int s), (3, .int ld), (4, .int wt)] := hl
  refine lv_aload_n C.hx C.hb dX7_judge_0 rfl (lv_at hl 0 rfl) ?_
  refine lv_iload_n C.hx C.hb dX7_judge_1 rfl (lv_at hl 1 rfl) ?_
  by_cases c1 : s_X7_within j 0 19 = 0
  · refine kVR (As := [.int j]) (rest := []) (v := .null) C (cC_X7_judgeAt_no l G A ad x y z j c1) lk_X7_119 (g_recv C (hW.1 0 0 rfl).1 rfl) hW rfl rfl hl (Nat.le_of_ble_eq_true rfl) dX7_judge_2 ⟨⟨by decide, by decide⟩, by decide, by decide⟩ ?_
    refine lv_astoreN (lv' := [(5, .null), (0, .ref (ad 0 0)), (1, .int j), (2, .int s), (3, .int ld), (4, .int wt)]) C.hx C.hb dX7_judge_5 hl (by decide) rfl (fun ls hl => ?_)
    refine lv_aloadN C.hx C.hb dX7_judge_7 (lv_at hl 0 rfl) ?_
    refine lv_ifnullN (tgt := 44) C.hx C.hb dX7_judge_9 (by decide) ?_
    refine lv_iconst (v := (-1)) C.hx C.hb dX7_judge_44 (by decide) ?_
    exact wI C hr dX7_judge_45 hS (by unfold s_X7_judge; first | (rw [if_pos c1]; done) | simp only [if_pos c1] | (simp only [if_pos c1]; rfl)) (by unfold sx_X7_judge; (first | rw [if_pos c1] | simp only [if_pos c1]); exact hW)
  · obtain ⟨jN, hjN, rfl⟩ := withinK (n := 20) c1 (by decide)
    have tjN : tn (nI jN) = jN := nI_clamp (by omega)
    refine kVR (As := [.int (nI jN)]) (rest := []) (v := .ref (ad 2 jN)) C (cC_X7_judgeAt_yes l G A ad x y z jN (by omega)) lk_X7_119 (g_recv C (hW.1 0 0 rfl).1 rfl) hW rfl rfl hl (Nat.le_of_ble_eq_true rfl) dX7_judge_2 ⟨⟨by decide, by decide⟩, by decide, by decide⟩ ?_
    refine lv_astore (lv' := [(5, .ref (ad 2 jN)), (0, .ref (ad 0 0)), (1, .int (nI jN)), (2, .int s), (3, .int ld), (4, .int wt)]) C.hx C.hb dX7_judge_5 hl (by decide) rfl (fun ls hl => ?_)
    refine lv_aload C.hx C.hb dX7_judge_7 (lv_at hl 0 rfl) ?_
    refine lv_ifnull C.hx C.hb dX7_judge_9 ?_
    refine lv_iload_n C.hx C.hb dX7_judge_12 rfl (lv_at hl 3 rfl) ?_
    refine lv_iconst (v := 0) C.hx C.hb dX7_judge_13 (by decide) ?_
    refine lv_sipush (v := 255) C.hx C.hb dX7_judge_14 (by decide) ?_
    refine kSR (As := [.int s, .int 0, .int 255]) (rest := []) (v := .int (s_X7_within s 0 255)) C (cJ_X7_within l G s 0 255) lk_X7_59 trivial rfl rfl hl (Nat.le_of_ble_eq_true rfl) dX7_judge_17 ⟨⟨by decide, by decide⟩, by decide, by decide⟩ ?_
    refine lv_if_eq (tgt := 44) C.hx C.hb dX7_judge_20 (by decide) (fun c2 => ?_) (fun c2 => ?_)
    · refine lv_iconst (v := (-1)) C.hx C.hb dX7_judge_44 (by decide) ?_
      exact wI C hr dX7_judge_45 hS (by unfold s_X7_judge; (try simp only [tjN]); first | (rw [if_neg c1, if_pos c2]; done) | simp only [if_neg c1, if_pos c2] | (simp only [if_neg c1, if_pos c2]; rfl)) (by unfold sx_X7_judge; (try simp only [tjN]); (first | rw [if_neg c1, if_pos c2] | simp only [if_neg c1, if_pos c2]); exact hW)
    · refine lv_iload_n C.hx C.hb dX7_judge_23 rfl (lv_at hl 4 rfl) ?_
      refine lv_iconst (v := 0) C.hx C.hb dX7_judge_24 (by decide) ?_
      refine lv_bipush (v := 20) C.hx C.hb dX7_judge_25 (by decide) ?_
      refine kSR (As := [.int ld, .int 0, .int 20]) (rest := []) (v := .int (s_X7_within ld 0 20)) C (cJ_X7_within l G ld 0 20) lk_X7_59 trivial rfl rfl hl (Nat.le_of_ble_eq_true rfl) dX7_judge_27 ⟨⟨by decide, by decide⟩, by decide, by decide⟩ ?_
      refine lv_if_eq (tgt := 44) C.hx C.hb dX7_judge_30 (by decide) (fun c3 => ?_) (fun c3 => ?_)
      · refine lv_iconst (v := (-1)) C.hx C.hb dX7_judge_44 (by decide) ?_
        exact wI C hr dX7_judge_45 hS (by unfold s_X7_judge; (try simp only [tjN]); first | (rw [if_neg c1, if_neg c2, if_pos c3]; done) | simp only [if_neg c1, if_neg c2, if_pos c3] | (simp only [if_neg c1, if_neg c2, if_pos c3]; rfl)) (by unfold sx_X7_judge; (try simp only [tjN]); (first | rw [if_neg c1, if_neg c2, if_pos c3] | simp only [if_neg c1, if_neg c2, if_pos c3]); exact hW)
      · refine lv_iload C.hx C.hb dX7_judge_33 (lv_at hl 5 rfl) ?_
        refine lv_iconst (v := 1) C.hx C.hb dX7_judge_35 (by decide) ?_
        refine lv_bipush (v := 10) C.hx C.hb dX7_judge_36 (by decide) ?_
        refine kSR (As := [.int wt, .int 1, .int 10]) (rest := []) (v := .int (s_X7_within wt 1 10)) C (cJ_X7_within l G wt 1 10) lk_X7_59 trivial rfl rfl hl (Nat.le_of_ble_eq_true rfl) dX7_judge_38 ⟨⟨by decide, by decide⟩, by decide, by decide⟩ ?_
        refine lv_if_ne (tgt := 46) C.hx C.hb dX7_judge_41 (by decide) (fun c4 => ?_) (fun c4 => ?_)
        · refine lv_aload C.hx C.hb dX7_judge_46 (lv_at hl 0 rfl) ?_
          refine lv_iload_n C.hx C.hb dX7_judge_48 rfl (lv_at hl 3 rfl) ?_
          refine g_putN (k := 1) tyX3 C hS (hW.1 2 jN (show jN < 20 by omega)).1 (hW.1 2 jN (show jN < 20 by omega)).2 rfl wu_X3 tyX3_ok nmX3 (by decide) wn_X7_123 rfl rfl rfl rfl rfl (Nat.le_of_ble_eq_true rfl) dX7_judge_49 (fun H locs e1 o1 z1 hS => ?_)
          have hW : CWd G A ad (up2 x 6 jN s) y z H := hW.put 2 jN (show jN < 20 by omega) (by rw [← ce_6]; exact e1) o1 (fun _ _ q => q) cu_6
          refine lv_aload C.hx C.hb dX7_judge_52 (lv_at hl 0 rfl) ?_
          refine lv_iload_n C.hx C.hb dX7_judge_54 rfl (lv_at hl 4 rfl) ?_
          refine g_putN (k := 3) tyX3 C hS (hW.1 2 jN (show jN < 20 by omega)).1 (hW.1 2 jN (show jN < 20 by omega)).2 rfl wu_X3 tyX3_ok nmX3 (by decide) wn_X7_126 rfl rfl rfl rfl rfl (Nat.le_of_ble_eq_true rfl) dX7_judge_55 (fun H locs e1 o1 z1 hS => ?_)
          have hW : CWd G A ad (up2 (up2 x 6 jN s) 7 jN ld) y z H := hW.put 2 jN (show jN < 20 by omega) (by rw [← ce_7]; exact e1) o1 (fun _ _ q => q) cu_7
          refine lv_aload C.hx C.hb dX7_judge_58 (lv_at hl 0 rfl) ?_
          refine lv_iload C.hx C.hb dX7_judge_60 (lv_at hl 5 rfl) ?_
          refine g_putN (k := 4) tyX3 C hS (hW.1 2 jN (show jN < 20 by omega)).1 (hW.1 2 jN (show jN < 20 by omega)).2 rfl wu_X3 tyX3_ok nmX3 (by decide) wn_X7_129 rfl rfl rfl rfl rfl (Nat.le_of_ble_eq_true rfl) dX7_judge_62 (fun H locs e1 o1 z1 hS => ?_)
          have hW : CWd G A ad (up2 (up2 (up2 x 6 jN s) 7 jN ld) 8 jN wt) y z H := hW.put 2 jN (show jN < 20 by omega) (by rw [← ce_8]; exact e1) o1 (fun _ _ q => q) cu_8
          refine lv_iconst (v := 1) C.hx C.hb dX7_judge_65 (by decide) ?_
          exact wI C hr dX7_judge_66 hS (by unfold s_X7_judge; (try simp only [tjN]); first | (rw [if_neg c1, if_neg c2, if_neg c3, if_neg c4]; done) | simp only [if_neg c1, if_neg c2, if_neg c3, if_neg c4] | (simp only [if_neg c1, if_neg c2, if_neg c3, if_neg c4]; rfl)) (by unfold sx_X7_judge; (try simp only [tjN]); (first | rw [if_neg c1, if_neg c2, if_neg c3, if_neg c4] | simp only [if_neg c1, if_neg c2, if_neg c3, if_neg c4]); exact hW)
        · refine lv_iconst (v := (-1)) C.hx C.hb dX7_judge_44 (by decide) ?_
          exact wI C hr dX7_judge_45 hS (by unfold s_X7_judge; (try simp only [tjN]); first | (rw [if_neg c1, if_neg c2, if_neg c3, if_pos c4]; done) | simp only [if_neg c1, if_neg c2, if_neg c3, if_pos c4] | (simp only [if_neg c1, if_neg c2, if_neg c3, if_pos c4]; rfl)) (by unfold sx_X7_judge; (try simp only [tjN]); (first | rw [if_neg c1, if_neg c2, if_neg c3, if_pos c4] | simp only [if_neg c1, if_neg c2, if_neg c3, if_pos c4]); exact hW)
def s_X7_kin (z : Nat → Int64) (j : Int32) (wr : Int32) (is : Int32) : Int32 := (if s_X7_within j 0 19 = 0 then (-1) else (if (s_X7_within wr 0 39) = 0 then (-1) else (if (s_X7_within is 0 1) = 0 then (-1) else s_X7_asNumber (s_X3_isKinOf z (tn j) wr))))
def sz_X7_kin (z : Nat → Int64) (j : Int32) (wr : Int32) (is : Int32) : Nat → Int64 := (if s_X7_within j 0 19 = 0 then z else (if (s_X7_within wr 0 39) = 0 then z else (if (s_X7_within is 0 1) = 0 then z else (sz_X3_setKin z (tn j) wr (if is = 1 then 1 else 0 : Int32)))))
set_option maxRecDepth 100000 in
set_option maxHeartbeats 1000000 in
theorem cC_X7_kin (l : Launch) (G : GG) (A : Nat → Prop) (ad : YY) (x : XX) (y : YY) (z : Nat → Int64) (j : Int32) (wr : Int32) (is : Int32)  : MW l G yX7_kin cX7_kin 6 (some .int) 2 [.ref (ad 0 0), .int j, .int wr, .int is] (CWd G A ad x y z) (some (.int (s_X7_kin z j wr is))) (CWd G A ad x y (sz_X7_kin z j wr is)) A 0 0 := by
  refine MW.of RX7 rfl (by decide) (Nat.le_of_ble_eq_true rfl) ?_
  intro p_ e_ s_ m_ args_ below_ meth_ c_ ls hargs C hr hnm hW hS hl
  have hl : lv_has ls 6 [(0, .ref (ad 0 0)), (1, .int j), (2, .int wr), (3, .int is)] := hl
  refine lv_aload_n C.hx C.hb dX7_kin_0 rfl (lv_at hl 0 rfl) ?_
  refine lv_iload_n C.hx C.hb dX7_kin_1 rfl (lv_at hl 1 rfl) ?_
  by_cases c1 : s_X7_within j 0 19 = 0
  · refine kVR (As := [.int j]) (rest := []) (v := .null) C (cC_X7_judgeAt_no l G A ad x y z j c1) lk_X7_119 (g_recv C (hW.1 0 0 rfl).1 rfl) hW rfl rfl hl (Nat.le_of_ble_eq_true rfl) dX7_kin_2 ⟨⟨by decide, by decide⟩, by decide, by decide⟩ ?_
    refine lv_astoreN (lv' := [(4, .null), (0, .ref (ad 0 0)), (1, .int j), (2, .int wr), (3, .int is)]) C.hx C.hb dX7_kin_5 hl (by decide) rfl (fun ls hl => ?_)
    refine lv_aloadN C.hx C.hb dX7_kin_7 (lv_at hl 0 rfl) ?_
    refine lv_ifnullN (tgt := 31) C.hx C.hb dX7_kin_9 (by decide) ?_
    refine lv_iconst (v := (-1)) C.hx C.hb dX7_kin_31 (by decide) ?_
    exact wI C hr dX7_kin_32 hS (by unfold s_X7_kin; first | (rw [if_pos c1]; done) | simp only [if_pos c1] | (simp only [if_pos c1]; rfl)) (by unfold sz_X7_kin; (first | rw [if_pos c1] | simp only [if_pos c1]); exact hW)
  · obtain ⟨jN, hjN, rfl⟩ := withinK (n := 20) c1 (by decide)
    have tjN : tn (nI jN) = jN := nI_clamp (by omega)
    refine kVR (As := [.int (nI jN)]) (rest := []) (v := .ref (ad 2 jN)) C (cC_X7_judgeAt_yes l G A ad x y z jN (by omega)) lk_X7_119 (g_recv C (hW.1 0 0 rfl).1 rfl) hW rfl rfl hl (Nat.le_of_ble_eq_true rfl) dX7_kin_2 ⟨⟨by decide, by decide⟩, by decide, by decide⟩ ?_
    refine lv_astore (lv' := [(4, .ref (ad 2 jN)), (0, .ref (ad 0 0)), (1, .int (nI jN)), (2, .int wr), (3, .int is)]) C.hx C.hb dX7_kin_5 hl (by decide) rfl (fun ls hl => ?_)
    refine lv_aload C.hx C.hb dX7_kin_7 (lv_at hl 0 rfl) ?_
    refine lv_ifnull C.hx C.hb dX7_kin_9 ?_
    refine lv_iload_n C.hx C.hb dX7_kin_12 rfl (lv_at hl 3 rfl) ?_
    refine lv_iconst (v := 0) C.hx C.hb dX7_kin_13 (by decide) ?_
    refine lv_bipush (v := 39) C.hx C.hb dX7_kin_14 (by decide) ?_
    refine kSR (As := [.int wr, .int 0, .int 39]) (rest := []) (v := .int (s_X7_within wr 0 39)) C (cJ_X7_within l G wr 0 39) lk_X7_59 trivial rfl rfl hl (Nat.le_of_ble_eq_true rfl) dX7_kin_16 ⟨⟨by decide, by decide⟩, by decide, by decide⟩ ?_
    refine lv_if_eq (tgt := 31) C.hx C.hb dX7_kin_19 (by decide) (fun c2 => ?_) (fun c2 => ?_)
    · refine lv_iconst (v := (-1)) C.hx C.hb dX7_kin_31 (by decide) ?_
      exact wI C hr dX7_kin_32 hS (by unfold s_X7_kin; (try simp only [tjN]); first | (rw [if_neg c1, if_pos c2]; done) | simp only [if_neg c1, if_pos c2] | (simp only [if_neg c1, if_pos c2]; rfl)) (by unfold sz_X7_kin; (try simp only [tjN]); (first | rw [if_neg c1, if_pos c2] | simp only [if_neg c1, if_pos c2]); exact hW)
    · refine lv_iload_n C.hx C.hb dX7_kin_22 rfl (lv_at hl 4 rfl) ?_
      refine lv_iconst (v := 0) C.hx C.hb dX7_kin_23 (by decide) ?_
      refine lv_iconst (v := 1) C.hx C.hb dX7_kin_24 (by decide) ?_
      refine kSR (As := [.int is, .int 0, .int 1]) (rest := []) (v := .int (s_X7_within is 0 1)) C (cJ_X7_within l G is 0 1) lk_X7_59 trivial rfl rfl hl (Nat.le_of_ble_eq_true rfl) dX7_kin_25 ⟨⟨by decide, by decide⟩, by decide, by decide⟩ ?_
      refine lv_if_ne (tgt := 33) C.hx C.hb dX7_kin_28 (by decide) (fun c3 => ?_) (fun c3 => ?_)
      · refine lv_aload C.hx C.hb dX7_kin_33 (lv_at hl 0 rfl) ?_
        refine lv_iload_n C.hx C.hb dX7_kin_35 rfl (lv_at hl 3 rfl) ?_
        refine kVNR (As := [.int wr]) (rest := []) (v := .int (s_X3_isKinOf z jN wr)) C (cC_X3_isKinOf l G A ad x y z jN wr (by omega)) lk_X7_132 (g_recv C (hW.1 2 jN (show jN < 20 by omega)).1 rfl) hW rfl rfl hl (Nat.le_of_ble_eq_true rfl) dX7_kin_36 ⟨⟨by decide, by decide⟩, by decide, by decide⟩ ?_
        refine kSR (As := [.int (s_X3_isKinOf z jN wr)]) (rest := []) (v := .int (s_X7_asNumber (s_X3_isKinOf z jN wr))) C (cJ_X7_asNumber l G (s_X3_isKinOf z jN wr)) lk_X7_136 trivial rfl rfl hl (Nat.le_of_ble_eq_true rfl) dX7_kin_39 ⟨⟨by decide, by decide⟩, by decide, by decide⟩ ?_
        refine lv_istore (lv' := [(5, .int (s_X7_asNumber (s_X3_isKinOf z jN wr))), (4, .ref (ad 2 jN)), (0, .ref (ad 0 0)), (1, .int (nI jN)), (2, .int wr), (3, .int is)]) C.hx C.hb dX7_kin_42 hl (by decide) rfl (fun ls hl => ?_)
        refine lv_aload C.hx C.hb dX7_kin_44 (lv_at hl 1 rfl) ?_
        refine lv_iload_n C.hx C.hb dX7_kin_46 rfl (lv_at hl 4 rfl) ?_
        refine lv_iload_n C.hx C.hb dX7_kin_47 rfl (lv_at hl 5 rfl) ?_
        refine lv_iconst (v := 1) C.hx C.hb dX7_kin_48 (by decide) ?_
        refine W.joinI (P := fun jv => jv = (if is = 1 then 1 else 0 : Int32)) 57 ls [.int wr, .ref (ad 2 jN)] (fun J5 => ?_) (fun v6 hv6 => ?_)
        · refine lv_icmp_ne (tgt := 56) C.hx C.hb dX7_kin_49 (by decide) (fun c4 => ?_) (fun c4 => ?_)
          · refine lv_iconst (v := 0) C.hx C.hb dX7_kin_56 (by decide) ?_
            exact J5 _ (by rw [if_neg c4])
          · refine lv_iconst (v := 1) C.hx C.hb dX7_kin_52 (by decide) ?_
            refine lv_goto (tgt := 57) C.hx C.hb dX7_kin_53 (by decide) ?_
            exact J5 _ (by rw [if_pos c4])
        · refine kVNWn (As := [.int wr, .int v6]) (rest := []) C (cC_X3_setKin l G A ad x y z jN wr v6 (by omega)) lk_X7_140 (g_recv C (hW.1 2 jN (show jN < 20 by omega)).1 rfl) hW rfl rfl hl (Nat.le_of_ble_eq_true rfl) dX7_kin_57 ⟨⟨by decide, by decide⟩, by decide, by decide⟩ hS (fun q h => h) (fun H locs hP hz1 hk1 hS => ?_)
          have hW : CWd G A ad x y (sz_X3_setKin z jN wr v6) H := hP
          refine lv_iload C.hx C.hb dX7_kin_60 (lv_at hl 0 rfl) ?_
          exact wI C hr dX7_kin_62 hS (by unfold s_X7_kin; (try simp only [tjN]); first | (rw [if_neg c1, if_neg c2, if_neg c3]; done) | simp only [if_neg c1, if_neg c2, if_neg c3] | (simp only [if_neg c1, if_neg c2, if_neg c3]; rfl)) (by rw [hv6] at hW; unfold sz_X7_kin; (try simp only [tjN]); (first | rw [if_neg c1, if_neg c2, if_neg c3] | simp only [if_neg c1, if_neg c2, if_neg c3]); exact hW)
      · refine lv_iconst (v := (-1)) C.hx C.hb dX7_kin_31 (by decide) ?_
        exact wI C hr dX7_kin_32 hS (by unfold s_X7_kin; (try simp only [tjN]); first | (rw [if_neg c1, if_neg c2, if_pos c3]; done) | simp only [if_neg c1, if_neg c2, if_pos c3] | (simp only [if_neg c1, if_neg c2, if_pos c3]; rfl)) (by unfold sz_X7_kin; (try simp only [tjN]); (first | rw [if_neg c1, if_neg c2, if_pos c3] | simp only [if_neg c1, if_neg c2, if_pos c3]); exact hW)
