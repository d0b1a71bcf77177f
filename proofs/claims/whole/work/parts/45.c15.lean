set_option maxRecDepth 100000 in
set_option maxHeartbeats 400000 in
theorem cC_X4_init (l : Launch) (G : GG) (a sz : Nat) : MW l G yX4_init cX4_init 1 none 1 [.ref a] (fun H => va_at G.1 vwCl (a, .inr (5, [.int 0, .int 0, .null, .int 0, .int 0, .int 0, .int 0, .int 0])) H ∧ H.size = sz) none (fun H => va_at G.1 vwCl (a, .inr (5, [.int 100, .int 10, .ref sz, .int 0, .int 0, .int 0, .int 0, .int (-1)])) H ∧ va_at G.1 vwCl (sz, .inl (G.2 0, 400, .inl (fun _ => 0))) H ∧ H.size = sz + 1) (fun q => q = a ∨ sz ≤ q) 1 400 := by
  refine MW.of RX4 rfl (by decide) (Nat.le_of_ble_eq_true rfl) ?_
  intro p_ e_ s_ m_ args_ below_ meth_ c_ ls hargs C hr hnm hP hS hl
  have hl : lv_has ls 1 [(0, .ref a)] := hl
  obtain ⟨hA, hz⟩ := hP
  have ha : a < s_.heap.size := hA.lt
  have ha : a < sz := by rw [← hz]; exact ha
  refine lv_aload_n C.hx C.hb dX4_init_0 rfl (lv_at hl 0 rfl) ?_
  refine W.objInit C.hx C.hb C.hown (C.hT _ oi_X4_3) (C.hT _ oi_i) (C.hT _ oi_c) rfl (by rw [C.hml]; exact hl.1) rfl dX4_init_1 (by decide) (Nat.le_of_ble_eq_true rfl) ?_
  refine W.eq (g2 := F0 m_ 4 ls []) rfl ?_
  refine lv_aload_n C.hx C.hb dX4_init_4 rfl (lv_at hl 0 rfl) ?_
  refine lv_bipush (v := 100) C.hx C.hb dX4_init_5 (by decide) ?_
  refine g_put (k := 0) tyX4 C hS hA (Or.inl rfl) rfl wu_X4 tyX4_ok nmX4 (by decide) wf_X4_9 rfl rfl rfl rfl rfl (Nat.le_of_ble_eq_true rfl) dX4_init_7 (fun H locs hA o3 z3 hS => ?_)
  have hz := z3.trans hz
  refine lv_aload_n C.hx C.hb dX4_init_10 rfl (lv_at hl 0 rfl) ?_
  refine lv_bipush (v := 10) C.hx C.hb dX4_init_11 (by decide) ?_
  refine g_put (k := 1) tyX4 C hS hA (Or.inl rfl) rfl wu_X4 tyX4_ok nmX4 (by decide) wf_X4_15 rfl rfl rfl rfl rfl (Nat.le_of_ble_eq_true rfl) dX4_init_13 (fun H locs hA o3 z3 hS => ?_)
  have hz := z3.trans hz
  refine lv_aload_n C.hx C.hb dX4_init_16 rfl (lv_at hl 0 rfl) ?_
  refine lv_sipush (v := 400) C.hx C.hb dX4_init_17 (by decide) ?_
  refine g_newa (ty := .int) (t0 := 0) (N := 400) (a0 := (400, .inl (fun _ => 0))) C hS rfl wa_int rfl (fun h => h) (by decide) (by decide) rfl (by decide) (by decide) (by decide) dX4_init_20 (fun H hB o4 z4 hS => ?_)
  rw [hz] at hB o4 z4
  refine W.eq (g2 := F0 m_ 22 ls [.ref sz, .ref a]) (by rw [hz]) ?_
  have hA := hA.kept (o4 _ ha)
  have hba : sz ≠ a := by omega
  have hz := z4
  refine g_putF (k := 2) tyX4 C hS hA (Or.inl rfl) rfl wu_X4 tyX4_ok nmX4 (by decide) wf_X4_18 rfl rfl hnm rfl rfl rfl (Nat.le_of_ble_eq_true rfl) dX4_init_22 (fun H locs hA o3 z3 hS => ?_)
  have hz := z3.trans hz
  have hB := hB.kept (o3 _ hba)
  refine lv_aload_n C.hx C.hb dX4_init_25 rfl (lv_at hl 0 rfl) ?_
  refine lv_iconst (v := 0) C.hx C.hb dX4_init_26 (by decide) ?_
  refine g_put (k := 3) tyX4 C hS hA (Or.inl rfl) rfl wu_X4 tyX4_ok nmX4 (by decide) wf_X4_22 rfl rfl rfl rfl rfl (Nat.le_of_ble_eq_true rfl) dX4_init_27 (fun H locs hA o3 z3 hS => ?_)
  have hz := z3.trans hz
  have hB := hB.kept (o3 _ hba)
  refine lv_aload_n C.hx C.hb dX4_init_30 rfl (lv_at hl 0 rfl) ?_
  refine lv_iconst (v := 0) C.hx C.hb dX4_init_31 (by decide) ?_
  refine g_put (k := 4) tyX4 C hS hA (Or.inl rfl) rfl wu_X4 tyX4_ok nmX4 (by decide) wf_X4_25 rfl rfl rfl rfl rfl (Nat.le_of_ble_eq_true rfl) dX4_init_32 (fun H locs hA o3 z3 hS => ?_)
  have hz := z3.trans hz
  have hB := hB.kept (o3 _ hba)
  refine lv_aload_n C.hx C.hb dX4_init_35 rfl (lv_at hl 0 rfl) ?_
  refine lv_iconst (v := 0) C.hx C.hb dX4_init_36 (by decide) ?_
  refine g_put (k := 5) tyX4 C hS hA (Or.inl rfl) rfl wu_X4 tyX4_ok nmX4 (by decide) wf_X4_28 rfl rfl rfl rfl rfl (Nat.le_of_ble_eq_true rfl) dX4_init_37 (fun H locs hA o3 z3 hS => ?_)
  have hz := z3.trans hz
  have hB := hB.kept (o3 _ hba)
  refine lv_aload_n C.hx C.hb dX4_init_40 rfl (lv_at hl 0 rfl) ?_
  refine lv_iconst (v := 0) C.hx C.hb dX4_init_41 (by decide) ?_
  refine g_put (k := 6) tyX4 C hS hA (Or.inl rfl) rfl wu_X4 tyX4_ok nmX4 (by decide) wf_X4_31 rfl rfl rfl rfl rfl (Nat.le_of_ble_eq_true rfl) dX4_init_42 (fun H locs hA o3 z3 hS => ?_)
  have hz := z3.trans hz
  have hB := hB.kept (o3 _ hba)
  refine lv_aload_n C.hx C.hb dX4_init_45 rfl (lv_at hl 0 rfl) ?_
  refine lv_iconst (v := (-1)) C.hx C.hb dX4_init_46 (by decide) ?_
  refine g_put (k := 7) tyX4 C hS hA (Or.inl rfl) rfl wu_X4 tyX4_ok nmX4 (by decide) wf_X4_35 rfl rfl rfl rfl rfl (Nat.le_of_ble_eq_true rfl) dX4_init_47 (fun H locs hA o3 z3 hS => ?_)
  have hz := z3.trans hz
  have hB := hB.kept (o3 _ hba)
  exact wV C hr dX4_init_50 hS ⟨hA, hB, hz⟩
def ad0 (a0 : Nat) : YY := fun k i => match k with
  | 0 => a0
  | 1 => a0 + 9 + i
  | 2 => a0 + 17 + i
  | 7 => a0 + 3 + i
  | 9 => a0 + 7
  | 10 => if i = 0 then a0 + 8 else a0 + 6
  | 11 => a0 + 1
  | 12 => a0 + 2
  | _ => 0
def cx0 : XX := fun k i => match k with
  | 1 => 100
  | 4 => 1
  | 7 => 2
  | 8 => 1
  | 37 => 100
  | 38 => 10
  | 43 => -1
  | 45 => (if i = 2 then 30 else if i = 1 then 20 else if i = 0 then 10 else 0)
  | _ => 0
def cy0 : YY := fun _ _ => 0
def bfs (l : List Value) : List Value := l
/-- cells one behind the other, from a0 on -/
def IW (G : GG) (a0 : Nat) (cells : List va_E) (H : Heap) : Prop := (∀ (k : Nat) (e : va_E), cells[k]? = some e → va_at G.1 vwCl (a0 + k, e) H) ∧ DZ G H ∧ @LT.lt Nat _ (G.2 6) a0 ∧ @LT.lt Nat _ (G.2 8) a0
theorem IW.put {G : GG} {a0 : Nat} {cells : List va_E} {H H1 : Heap} (h : IW G a0 cells H) (k : Nat) {e : va_E} (h1 : va_at G.1 vwCl (a0 + k, e) H1) (o : ∀ q : Nat, q ≠ a0 + k → H1[q]? = H[q]?) : IW G a0 (cells.set k e) H1 := by
  obtain ⟨h0, hZ, h6, h8⟩ := h
  refine ⟨fun j e2 hj => ?_, hZ.kept (o _ (Nat.ne_of_lt (Nat.lt_of_lt_of_le h6 (Nat.le_add_right a0 k)))) (o _ (Nat.ne_of_lt (Nat.lt_of_lt_of_le h8 (Nat.le_add_right a0 k)))), h6, h8⟩
  rw [List.getElem?_set] at hj
  by_cases q : k = j
  · subst q
    rw [if_pos rfl] at hj
    split at hj
    · cases hj; exact h1
    · cases hj
  · rw [if_neg q] at hj
    exact (h0 j e2 hj).kept (o _ (by show a0 + j ≠ a0 + k; omega))
theorem IW.kept {G : GG} {a0 : Nat} {cells : List va_E} {H H1 : Heap} (h : IW G a0 cells H) (o : ∀ q : Nat, q < a0 + cells.length → H1[q]? = H[q]?) : IW G a0 cells H1 := by
  obtain ⟨h0, hZ, h6, h8⟩ := h
  refine ⟨fun j e2 hj => (h0 j e2 hj).kept (o _ ?_), hZ.kept (o _ (Nat.lt_of_lt_of_le h6 (Nat.le_add_right a0 _))) (o _ (Nat.lt_of_lt_of_le h8 (Nat.le_add_right a0 _))), h6, h8⟩
  have := (List.getElem?_eq_some_iff.mp hj).1
  show a0 + j < _
  omega
theorem IW.snoc {G : GG} {a0 : Nat} {cells : List va_E} {H : Heap} (h : IW G a0 cells H) {e : va_E} (h1 : va_at G.1 vwCl (a0 + cells.length, e) H) : IW G a0 (cells ++ [e]) H := by
  refine ⟨fun j e2 hj => ?_, h.2⟩
  rcases Nat.lt_or_ge j cells.length with q | q
  · rw [List.getElem?_append_left q] at hj
    exact h.1 j e2 hj
  · rw [List.getElem?_append_right q] at hj
    have hb := (List.getElem?_eq_some_iff.mp hj).1
    simp at hb
    have e3 : j = cells.length := by omega
    subst e3
    simp at hj
    rw [← hj]
    exact h1
def ruC (i : Nat) : va_E := .inr (7, [.int (nI i), .int 0, .int 1, .int 0])
def juC (i : Nat) : va_E := .inr (4, [.int ((1 : Int32) <<< (nI i &&& 31)), .int 0, .long 0, .int 2, .int 1, .int 0, .int 0, .int 0])
theorem IW.cast {G : GG} {a0 : Nat} {c1 c2 : List va_E} {H : Heap} (e : c2 = c1) (h : IW G a0 c1 H) : IW G a0 c2 H := by rw [e]; exact h
theorem IW.callI {G : GG} {a0 : Nat} {cells : List va_E} {H H1 : Heap} (h : IW G a0 cells H) (k : Nat) {e : va_E} (hz : H.size = a0 + cells.length) (h1 : va_at G.1 vwCl (a0 + k, e) H1) (o : ∀ q : Nat, q < H.size → ¬ q = a0 + k → H1[q]? = H[q]?) : IW G a0 (cells.set k e) H1 := by
  obtain ⟨h0, hZ, h6, h8⟩ := h
  refine ⟨fun j e2 hj => ?_, hZ.kept (o _ (by rw [hz]; exact Nat.lt_of_lt_of_le h6 (Nat.le_add_right a0 _)) (Nat.ne_of_lt (Nat.lt_of_lt_of_le h6 (Nat.le_add_right a0 k)))) (o _ (by rw [hz]; exact Nat.lt_of_lt_of_le h8 (Nat.le_add_right a0 _)) (Nat.ne_of_lt (Nat.lt_of_lt_of_le h8 (Nat.le_add_right a0 k)))), h6, h8⟩
  rw [List.getElem?_set] at hj
  by_cases q : k = j
  · subst q
    rw [if_pos rfl] at hj
    split at hj
    · cases hj; exact h1
    · cases hj
  · rw [if_neg q] at hj
    have hb := (List.getElem?_eq_some_iff.mp hj).1
    exact (h0 j e2 hj).kept (o _ (by show a0 + j < _; omega) (by show ¬ a0 + j = a0 + k; omega))
theorem grow_f (g : Nat → Nat) (n : Nat) : va_up (fun j => if j < n then some (g j) else none) n (some (g n)) = (fun j => if j < n + 1 then some (g j) else none) := by
  funext j
  unfold va_up
  by_cases e : j = n
  · subst e; rw [if_pos rfl, if_pos (by omega)]
  · rw [if_neg e]
    show (if j < n then some (g j) else none) = _
    by_cases e2 : j < n
    · rw [if_pos e2, if_pos (by omega)]
    · rw [if_neg e2, if_neg (by omega)]
theorem bench_world (G : GG) (A : Nat → Prop) (a0 : Nat) {H : Heap} (hAq : ∀ q, a0 ≤ q → q < a0 + 37 → A q) (n6 : ¬ A (G.2 6)) (n8 : ¬ A (G.2 8)) (hZ : DZ G H) (hA : va_at G.1 vwCl (a0, .inr (8, [.ref (a0 + 1), .ref (a0 + 2), .ref (a0 + 3), .ref (a0 + 4), .ref (a0 + 5), .ref (a0 + 6), .ref (a0 + 7), .int 0, .int 100, .int 0])) H) (hR : va_at G.1 vwCl (a0 + 1, .inl (G.2 3, qs 8 (fun j => if j < 8 then some (a0 + 9 + j) else none))) H) (hJ : va_at G.1 vwCl (a0 + 2, .inl (G.2 4, qs 20 (fun j => if j < 20 then some (a0 + 17 + j) else none))) H) (h3 : va_at G.1 vwCl (a0 + 3, lob 0 (G.2 8) 0) H) (h4 : va_at G.1 vwCl (a0 + 4, lob 0 (G.2 8) 0) H) (h5 : va_at G.1 vwCl (a0 + 5, lob 0 (G.2 8) 0) H) (h6d : va_at G.1 vwCl (a0 + 6, .inl (G.2 0, 3, .inl (upd (upd (upd (fun _ => 0) 0 10) 1 20) 2 30))) H) (h7 : va_at G.1 vwCl (a0 + 7, .inr (5, [.int 100, .int 10, .ref (a0 + 8), .int 0, .int 0, .int 0, .int 0, .int (-1)])) H) (h8t : va_at G.1 vwCl (a0 + 8, .inl (G.2 0, 400, .inl (fun _ => 0))) H) (hru : ∀ r, r < 8 → va_at G.1 vwCl (a0 + 9 + r, .inr (7, [.int (nI r), .int 0, .int 1, .int 0])) H) (hju : ∀ r, r < 20 → va_at G.1 vwCl (a0 + 17 + r, .inr (4, [.int ((1 : Int32) <<< (nI r &&& 31)), .int 0, .long 0, .int 2, .int 1, .int 0, .int 0, .int 0])) H) : CWd G A (ad0 a0) cx0 cy0 (fun _ => 0) H := by
  have cutq : ∀ (n : Nat) (g : Nat → Nat) (c : ClassId) (a : Nat), va_at G.1 vwCl (a, .inl (c, qs n (fun j => if j < n then some (g j) else none))) H → va_at G.1 vwCl (a, .inl (c, qs n (fun j => some (g j)))) H := by
    intro n g c a h
    have h0 : H[a]? = some (vp_cell c (qs n (fun j => if j < n then some (g j) else none))) := h
    show H[a]? = some (vp_cell c (qs n (fun j => some (g j))))
    rw [h0, vp_cell_q, vp_cell_q]
    refine congrArg some ?_
    unfold arrV
    congr 2
    funext j
    show va_rf (if j.val < n then some (g j.val) else none) = va_rf (some (g j.val))
    rw [if_pos j.isLt]
  have rg : ∀ k i, lv cy0 k i → a0 ≤ ad0 a0 k i ∧ ad0 a0 k i < a0 + 37 := fun k i hl => match k, hl with
    | 0, hl => ⟨Nat.le_refl _, (show a0 < a0 + 37 by omega)⟩
    | 1, hl => (by have hl : i < 8 := hl; show a0 ≤ a0 + 9 + i ∧ a0 + 9 + i < a0 + 37; omega)
    | 2, hl => (by have hl : i < 20 := hl; show a0 ≤ a0 + 17 + i ∧ a0 + 17 + i < a0 + 37; omega)
    | 3, hl => absurd hl (Nat.not_lt_zero i)
    | 4, hl => absurd hl (Nat.not_lt_zero i)
    | 5, hl => absurd hl.1 (Nat.not_lt_zero _)
    | 6, hl => absurd hl (Nat.not_lt_zero i)
    | 7, hl => (by have hl : i < 3 := hl; show a0 ≤ a0 + 3 + i ∧ a0 + 3 + i < a0 + 37; omega)
    | 8, hl => absurd rfl hl.2
    | 9, hl => (by show a0 ≤ a0 + 7 ∧ a0 + 7 < a0 + 37; omega)
    | 10, hl => (by show a0 ≤ (if i = 0 then a0 + 8 else a0 + 6) ∧ (if i = 0 then a0 + 8 else a0 + 6) < a0 + 37; split <;> omega)
    | 11, hl => (by show a0 ≤ a0 + 1 ∧ a0 + 1 < a0 + 37; omega)
    | 12, hl => (by show a0 ≤ a0 + 2 ∧ a0 + 2 < a0 + 37; omega)
    | _ + 13, hl => hl.elim
  refine ⟨fun k i hl => ⟨?_, hAq _ (rg k i hl).1 (rg k i hl).2⟩, ?_, hZ, n6, n8⟩
  · exact match k, i, hl with
    | 0, i, hl => hA
    | 1, i, hl => hru i hl
    | 2, i, hl => hju i hl
    | 3, i, hl => absurd hl (Nat.not_lt_zero i)
    | 4, i, hl => absurd hl (Nat.not_lt_zero i)
    | 5, i, hl => absurd hl.1 (Nat.not_lt_zero _)
    | 6, i, hl => absurd hl (Nat.not_lt_zero i)
    | 7, 0, hl => h3
    | 7, 1, hl => h4
    | 7, 2, hl => h5
    | 7, i + 3, hl => absurd (show i + 3 < 3 from hl) (by omega)
    | 8, i, hl => absurd rfl hl.2
    | 9, i, hl => h7
    | 10, 0, hl => h8t
    | 10, 1, hl => h6d
    | 10, i + 2, hl => absurd (show i + 2 < 2 from hl) (by omega)
    | 11, i, hl => cutq 8 (fun j => a0 + 9 + j) _ _ hR
    | 12, i, hl => cutq 20 (fun j => a0 + 17 + j) _ _ hJ
    | _ + 13, i, hl => hl.elim
  · have key : ∀ k i, lv cy0 k i → (k = 0 ∧ i = 0 ∧ ad0 a0 k i = a0) ∨ (k = 1 ∧ i < 8 ∧ ad0 a0 k i = a0 + 9 + i) ∨ (k = 2 ∧ i < 20 ∧ ad0 a0 k i = a0 + 17 + i) ∨ (k = 7 ∧ i < 3 ∧ ad0 a0 k i = a0 + 3 + i) ∨ (k = 9 ∧ i = 0 ∧ ad0 a0 k i = a0 + 7) ∨ (k = 10 ∧ i = 0 ∧ ad0 a0 k i = a0 + 8) ∨ (k = 10 ∧ i = 1 ∧ ad0 a0 k i = a0 + 6) ∨ (k = 11 ∧ i = 0 ∧ ad0 a0 k i = a0 + 1) ∨ (k = 12 ∧ i = 0 ∧ ad0 a0 k i = a0 + 2) := fun k i hl => match k, i, hl with
      | 0, i, hl => Or.inl ⟨rfl, hl, rfl⟩
      | 1, i, hl => Or.inr (Or.inl ⟨rfl, hl, rfl⟩)
      | 2, i, hl => Or.inr (Or.inr (Or.inl ⟨rfl, hl, rfl⟩))
      | 3, i, hl => absurd hl (Nat.not_lt_zero i)
      | 4, i, hl => absurd hl (Nat.not_lt_zero i)
      | 5, i, hl => absurd hl.1 (Nat.not_lt_zero _)
      | 6, i, hl => absurd hl (Nat.not_lt_zero i)
      | 7, i, hl => Or.inr (Or.inr (Or.inr (Or.inl ⟨rfl, hl, rfl⟩)))
      | 8, i, hl => absurd rfl hl.2
      | 9, i, hl => Or.inr (Or.inr (Or.inr (Or.inr (Or.inl ⟨rfl, hl, rfl⟩))))
      | 10, 0, hl => Or.inr (Or.inr (Or.inr (Or.inr (Or.inr (Or.inl ⟨rfl, rfl, rfl⟩)))))
      | 10, 1, hl => Or.inr (Or.inr (Or.inr (Or.inr (Or.inr (Or.inr (Or.inl ⟨rfl, rfl, rfl⟩))))))
      | 10, i + 2, hl => absurd (show i + 2 < 2 from hl) (by omega)
      | 11, i, hl => Or.inr (Or.inr (Or.inr (Or.inr (Or.inr (Or.inr (Or.inr (Or.inl ⟨rfl, hl, rfl⟩)))))))
      | 12, i, hl => Or.inr (Or.inr (Or.inr (Or.inr (Or.inr (Or.inr (Or.inr (Or.inr ⟨rfl, hl, rfl⟩)))))))
      | _ + 13, i, hl => hl.elim
    intro k i k' i' h1 h2 q
    have e1 := key k i h1
    have e2 := key k' i' h2
    omega
set_option maxRecDepth 100000 in
set_option maxHeartbeats 4000000 in
theorem cC_X7_init (l : Launch) (G : GG) (A : Nat → Prop) (a0 : Nat) (h6 : G.2 6 < a0) (h8 : G.2 8 < a0) (hAq : ∀ q, a0 ≤ q → q < a0 + 37 → A q) (n6 : ¬ A (G.2 6)) (n8 : ¬ A (G.2 8)) : MW l G yX7_init cX7_init 2 none 4 [.ref a0] (fun H => va_at G.1 vwCl (a0, .inr (8, [.null, .null, .null, .null, .null, .null, .null, .int 0, .int 0, .int 0])) H ∧ DZ G H ∧ H.size = a0 + 1) none (fun H => CWd G A (ad0 a0) cx0 cy0 (fun _ => 0) H ∧ H.size = a0 + 37) (fun q => a0 ≤ q) 36 640 := by
  refine MW.of RX7 rfl (by decide) (Nat.le_of_ble_eq_true rfl) ?_
  intro p_ e_ s_ m_ args_ below_ meth_ c_ ls hargs C hr hnm hP hS hl
  have hl : lv_has ls 2 [(0, .ref a0)] := hl
  obtain ⟨hA, hZ, hz⟩ := hP
  have hI : IW G a0 [.inr (8, [.null, .null, .null, .null, .null, .null, .null, .int 0, .int 0, .int 0])] s_.heap := ⟨fun k e hk => (by match k, hk with | 0, hk => (cases hk; exact hA) | k + 1, hk => (cases hk)), hZ, h6, h8⟩
  clear hA hZ
  refine lv_aload_n C.hx C.hb dX7_init_0 rfl (lv_at hl 0 rfl) ?_
  refine W.objInit C.hx C.hb C.hown (C.hT _ oi_X7_1) (C.hT _ oi_i) (C.hT _ oi_c) rfl (by rw [C.hml]; exact hl.1) rfl dX7_init_1 (by decide) (Nat.le_of_ble_eq_true rfl) ?_
  refine W.eq (g2 := F0 m_ 4 ls []) rfl ?_
  refine lv_aload_n C.hx C.hb dX7_init_4 rfl (lv_at hl 0 rfl) ?_
  refine lv_bipush (v := 8) C.hx C.hb dX7_init_5 (by decide) ?_
  refine g_newq (N := 8) (t0 := 3) C hS wl_X7_9 ov_Rule rfl rfl (by decide) (by decide) (by decide) dX7_init_7 (fun H1 hN o4 z4 hS1 => ?_)
  rw [hz] at hN o4 z4
  refine W.eq (g2 := F0 m_ 10 ls [.ref (a0 + 1), .ref a0]) (by rw [hz]) ?_
  replace hI := hI.kept o4
  replace hI : IW G a0 [.inr (8, [.null, .null, .null, .null, .null, .null, .null, .int 0, .int 0, .int 0]), .inl (G.2 3, qs 8 (fun _ => none))] H1 := hI.snoc hN
  replace hz : H1.size = a0 + 2 := z4
  clear hN o4 z4
  replace hS := hS1
  clear hS1
  refine g_putF (k := 0) tyX7 C hS (hI.1 0 _ rfl) (Nat.le_refl a0) rfl wu_X7 tyX7_ok nmX7 (by decide) wf_X7_11 rfl rfl hnm rfl rfl rfl (Nat.le_of_ble_eq_true rfl) dX7_init_10 (fun H1 locs1 e3 o3 z3 hS1 => ?_)
  replace hI : IW G a0 [.inr (8, [.ref (a0 + 1), .null, .null, .null, .null, .null, .null, .int 0, .int 0, .int 0]), .inl (G.2 3, qs 8 (fun _ => none))] H1 := hI.put 0 e3 o3
  replace hz := z3.trans hz
  replace hS := hS1
  clear hS1
  refine lv_aload_n C.hx C.hb dX7_init_13 rfl (lv_at hl 0 rfl) ?_
  refine lv_bipush (v := 20) C.hx C.hb dX7_init_14 (by decide) ?_
  refine g_newq (N := 20) (t0 := 4) C hS wl_X7_15 ov_Judge rfl rfl (by decide) (by decide) (by decide) dX7_init_16 (fun H1 hN o4 z4 hS1 => ?_)
  rw [hz] at hN o4 z4
  refine W.eq (g2 := F0 m_ 19 ls [.ref (a0 + 2), .ref a0]) (by rw [hz]) ?_
  replace hI := hI.kept o4
  replace hI : IW G a0 [.inr (8, [.ref (a0 + 1), .null, .null, .null, .null, .null, .null, .int 0, .int 0, .int 0]), .inl (G.2 3, qs 8 (fun _ => none)), .inl (G.2 4, qs 20 (fun _ => none))] H1 := hI.snoc hN
  replace hz : H1.size = a0 + 3 := z4
  clear hN o4 z4
  replace hS := hS1
  clear hS1
  refine g_putF (k := 1) tyX7 C hS (hI.1 0 _ rfl) (Nat.le_refl a0) rfl wu_X7 tyX7_ok nmX7 (by decide) wf_X7_17 rfl rfl hnm rfl rfl rfl (Nat.le_of_ble_eq_true rfl) dX7_init_19 (fun H1 locs1 e3 o3 z3 hS1 => ?_)
  replace hI : IW G a0 [.inr (8, [.ref (a0 + 1), .ref (a0 + 2), .null, .null, .null, .null, .null, .int 0, .int 0, .int 0]), .inl (G.2 3, qs 8 (fun _ => none)), .inl (G.2 4, qs 20 (fun _ => none))] H1 := hI.put 0 e3 o3
  replace hz := z3.trans hz
  replace hS := hS1
  clear hS1
  refine lv_aload_n C.hx C.hb dX7_init_22 rfl (lv_at hl 0 rfl) ?_
  refine g_new (ci := 0) tyJx4a65c (fs := [.int 0, .null, .int 0]) C hS rfl wu_Jx4a65c tyJx4a65c_ok wl_X7_21 wi_Jx4a65c wz_Jx4a65c (fun j hj => by match j, hj with | 0, _ => rfl | 1, _ => rfl | 2, _ => rfl) (by decide) (by decide) dX7_init_23 (fun H1 hN o4 z4 hS1 => ?_)
  rw [hz] at hN o4 z4
  refine W.eq (g2 := F0 m_ 26 ls [.ref (a0 + 3), .ref a0]) (by rw [hz]) ?_
  replace hI := hI.kept o4
  replace hI : IW G a0 [.inr (8, [.ref (a0 + 1), .ref (a0 + 2), .null, .null, .null, .null, .null, .int 0, .int 0, .int 0]), .inl (G.2 3, qs 8 (fun _ => none)), .inl (G.2 4, qs 20 (fun _ => none)), .inr (0, [.int 0, .null, .int 0])] H1 := hI.snoc hN
  replace hz : H1.size = a0 + 4 := z4
  clear hN o4 z4
  replace hS := hS1
  clear hS1
  refine lv_dup C.hx C.hb dX7_init_26 rfl ?_
  refine kIWn (As := []) (rest := [.ref (a0 + 3), .ref a0]) C (cJ_init l G (a0 + 3) (a0 + 4) 0 .null (Nat.ne_of_lt (Nat.lt_of_lt_of_le h6 (Nat.le_add_right a0 _))) (Nat.ne_of_lt (Nat.lt_of_lt_of_le h8 (Nat.le_add_right a0 _)))) lk_X7_23 ⟨hI.1 3 _ rfl, hI.2.1, hz⟩ rfl rfl hl (Nat.le_of_ble_eq_true rfl) dX7_init_27 ⟨⟨by decide, by decide⟩, by decide, by decide⟩ hS (fun q h => by rw [h]; show a0 ≤ a0 + 3; omega) (fun H1 locs1 hPq hz2 hk2 hS1 => ?_)
  replace hI : IW G a0 [.inr (8, [.ref (a0 + 1), .ref (a0 + 2), .null, .null, .null, .null, .null, .int 0, .int 0, .int 0]), .inl (G.2 3, qs 8 (fun _ => none)), .inl (G.2 4, qs 20 (fun _ => none)), lob 0 (G.2 8) 0] H1 := IW.callI hI 3 hz hPq.1 hk2
  replace hz := hPq.2
  clear hPq hz2 hk2
  replace hS := hS1
  clear hS1
  refine g_putF (k := 2) tyX7 C hS (hI.1 0 _ rfl) (Nat.le_refl a0) rfl wu_X7 tyX7_ok nmX7 (by decide) wf_X7_24 rfl rfl hnm rfl rfl rfl (Nat.le_of_ble_eq_true rfl) dX7_init_30 (fun H1 locs1 e3 o3 z3 hS1 => ?_)
  replace hI : IW G a0 [.inr (8, [.ref (a0 + 1), .ref (a0 + 2), .ref (a0 + 3), .null, .null, .null, .null, .int 0, .int 0, .int 0]), .inl (G.2 3, qs 8 (fun _ => none)), .inl (G.2 4, qs 20 (fun _ => none)), lob 0 (G.2 8) 0] H1 := hI.put 0 e3 o3
  replace hz := z3.trans hz
  replace hS := hS1
  clear hS1
  refine lv_aload_n C.hx C.hb dX7_init_33 rfl (lv_at hl 0 rfl) ?_
  refine g_new (ci := 0) tyJx4a65c (fs := [.int 0, .null, .int 0]) C hS rfl wu_Jx4a65c tyJx4a65c_ok wl_X7_21 wi_Jx4a65c wz_Jx4a65c (fun j hj => by match j, hj with | 0, _ => rfl | 1, _ => rfl | 2, _ => rfl) (by decide) (by decide) dX7_init_34 (fun H1 hN o4 z4 hS1 => ?_)
  rw [hz] at hN o4 z4
  refine W.eq (g2 := F0 m_ 37 ls [.ref (a0 + 4), .ref a0]) (by rw [hz]) ?_
  replace hI := hI.kept o4
  replace hI : IW G a0 [.inr (8, [.ref (a0 + 1), .ref (a0 + 2), .ref (a0 + 3), .null, .null, .null, .null, .int 0, .int 0, .int 0]), .inl (G.2 3, qs 8 (fun _ => none)), .inl (G.2 4, qs 20 (fun _ => none)), lob 0 (G.2 8) 0, .inr (0, [.int 0, .null, .int 0])] H1 := hI.snoc hN
  replace hz : H1.size = a0 + 5 := z4
  clear hN o4 z4
  replace hS := hS1
  clear hS1
  refine lv_dup C.hx C.hb dX7_init_37 rfl ?_
  refine kIWn (As := []) (rest := [.ref (a0 + 4), .ref a0]) C (cJ_init l G (a0 + 4) (a0 + 5) 0 .null (Nat.ne_of_lt (Nat.lt_of_lt_of_le h6 (Nat.le_add_right a0 _))) (Nat.ne_of_lt (Nat.lt_of_lt_of_le h8 (Nat.le_add_right a0 _)))) lk_X7_23 ⟨hI.1 4 _ rfl, hI.2.1, hz⟩ rfl rfl hl (Nat.le_of_ble_eq_true rfl) dX7_init_38 ⟨⟨by decide, by decide⟩, by decide, by decide⟩ hS (fun q h => by rw [h]; show a0 ≤ a0 + 4; omega) (fun H1 locs1 hPq hz2 hk2 hS1 => ?_)
  replace hI : IW G a0 [.inr (8, [.ref (a0 + 1), .ref (a0 + 2), .ref (a0 + 3), .null, .null, .null, .null, .int 0, .int 0, .int 0]), .inl (G.2 3, qs 8 (fun _ => none)), .inl (G.2 4, qs 20 (fun _ => none)), lob 0 (G.2 8) 0, lob 0 (G.2 8) 0] H1 := IW.callI hI 4 hz hPq.1 hk2
  replace hz := hPq.2
  clear hPq hz2 hk2
  replace hS := hS1
  clear hS1
  refine g_putF (k := 3) tyX7 C hS (hI.1 0 _ rfl) (Nat.le_refl a0) rfl wu_X7 tyX7_ok nmX7 (by decide) wf_X7_28 rfl rfl hnm rfl rfl rfl (Nat.le_of_ble_eq_true rfl) dX7_init_41 (fun H1 locs1 e3 o3 z3 hS1 => ?_)
  replace hI : IW G a0 [.inr (8, [.ref (a0 + 1), .ref (a0 + 2), .ref (a0 + 3), .ref (a0 + 4), .null, .null, .null, .int 0, .int 0, .int 0]), .inl (G.2 3, qs 8 (fun _ => none)), .inl (G.2 4, qs 20 (fun _ => none)), lob 0 (G.2 8) 0, lob 0 (G.2 8) 0] H1 := hI.put 0 e3 o3
  replace hz := z3.trans hz
  replace hS := hS1
  clear hS1
  refine lv_aload_n C.hx C.hb dX7_init_44 rfl (lv_at hl 0 rfl) ?_
  refine g_new (ci := 0) tyJx4a65c (fs := [.int 0, .null, .int 0]) C hS rfl wu_Jx4a65c tyJx4a65c_ok wl_X7_21 wi_Jx4a65c wz_Jx4a65c (fun j hj => by match j, hj with | 0, _ => rfl | 1, _ => rfl | 2, _ => rfl) (by decide) (by decide) dX7_init_45 (fun H1 hN o4 z4 hS1 => ?_)
  rw [hz] at hN o4 z4
  refine W.eq (g2 := F0 m_ 48 ls [.ref (a0 + 5), .ref a0]) (by rw [hz]) ?_
  replace hI := hI.kept o4
  replace hI : IW G a0 [.inr (8, [.ref (a0 + 1), .ref (a0 + 2), .ref (a0 + 3), .ref (a0 + 4), .null, .null, .null, .int 0, .int 0, .int 0]), .inl (G.2 3, qs 8 (fun _ => none)), .inl (G.2 4, qs 20 (fun _ => none)), lob 0 (G.2 8) 0, lob 0 (G.2 8) 0, .inr (0, [.int 0, .null, .int 0])] H1 := hI.snoc hN
  replace hz : H1.size = a0 + 6 := z4
  clear hN o4 z4
  replace hS := hS1
  clear hS1
  refine lv_dup C.hx C.hb dX7_init_48 rfl ?_
  refine kIWn (As := []) (rest := [.ref (a0 + 5), .ref a0]) C (cJ_init l G (a0 + 5) (a0 + 6) 0 .null (Nat.ne_of_lt (Nat.lt_of_lt_of_le h6 (Nat.le_add_right a0 _))) (Nat.ne_of_lt (Nat.lt_of_lt_of_le h8 (Nat.le_add_right a0 _)))) lk_X7_23 ⟨hI.1 5 _ rfl, hI.2.1, hz⟩ rfl rfl hl (Nat.le_of_ble_eq_true rfl) dX7_init_49 ⟨⟨by decide, by decide⟩, by decide, by decide⟩ hS (fun q h => by rw [h]; show a0 ≤ a0 + 5; omega) (fun H1 locs1 hPq hz2 hk2 hS1 => ?_)
  replace hI : IW G a0 [.inr (8, [.ref (a0 + 1), .ref (a0 + 2), .ref (a0 + 3), .ref (a0 + 4), .null, .null, .null, .int 0, .int 0, .int 0]), .inl (G.2 3, qs 8 (fun _ => none)), .inl (G.2 4, qs 20 (fun _ => none)), lob 0 (G.2 8) 0, lob 0 (G.2 8) 0, lob 0 (G.2 8) 0] H1 := IW.callI hI 5 hz hPq.1 hk2
  replace hz := hPq.2
  clear hPq hz2 hk2
  replace hS := hS1
  clear hS1
  refine g_putF (k := 4) tyX7 C hS (hI.1 0 _ rfl) (Nat.le_refl a0) rfl wu_X7 tyX7_ok nmX7 (by decide) wf_X7_31 rfl rfl hnm rfl rfl rfl (Nat.le_of_ble_eq_true rfl) dX7_init_52 (fun H1 locs1 e3 o3 z3 hS1 => ?_)
  replace hI : IW G a0 [.inr (8, [.ref (a0 + 1), .ref (a0 + 2), .ref (a0 + 3), .ref (a0 + 4), .ref (a0 + 5), .null, .null, .int 0, .int 0, .int 0]), .inl (G.2 3, qs 8 (fun _ => none)), .inl (G.2 4, qs 20 (fun _ => none)), lob 0 (G.2 8) 0, lob 0 (G.2 8) 0, lob 0 (G.2 8) 0] H1 := hI.put 0 e3 o3
  replace hz := z3.trans hz
  replace hS := hS1
  clear hS1
  refine lv_aload_n C.hx C.hb dX7_init_55 rfl (lv_at hl 0 rfl) ?_
  refine lv_iconst (v := 3) C.hx C.hb dX7_init_56 (by decide) ?_
  refine g_newa (ty := .int) (t0 := 0) (N := 3) (a0 := (3, .inl (fun _ => 0))) C hS rfl wa_int rfl (fun h => h) (by decide) (by decide) rfl (by decide) (by decide) (by decide) dX7_init_57 (fun H1 hN o4 z4 hS1 => ?_)
  rw [hz] at hN o4 z4
  refine W.eq (g2 := F0 m_ 59 ls [.ref (a0 + 6), .ref a0]) (by rw [hz]) ?_
  replace hI := hI.kept o4
  replace hI : IW G a0 [.inr (8, [.ref (a0 + 1), .ref (a0 + 2), .ref (a0 + 3), .ref (a0 + 4), .ref (a0 + 5), .null, .null, .int 0, .int 0, .int 0]), .inl (G.2 3, qs 8 (fun _ => none)), .inl (G.2 4, qs 20 (fun _ => none)), lob 0 (G.2 8) 0, lob 0 (G.2 8) 0, lob 0 (G.2 8) 0, .inl (G.2 0, 3, .inl (fun _ => 0))] H1 := hI.snoc hN
  replace hz : H1.size = a0 + 7 := z4
  clear hN o4 z4
  replace hS := hS1
  clear hS1
  refine lv_dup C.hx C.hb dX7_init_59 rfl ?_
  refine lv_iconst (v := 0) C.hx C.hb dX7_init_60 (by decide) ?_
  refine lv_bipush (v := 10) C.hx C.hb dX7_init_61 (by decide) ?_
  refine g_iast (n := 3) (f := (fun _ => 0)) (k := 0) C hS (hI.1 6 _ rfl) (by show a0 ≤ a0 + 6; omega) (by decide) (by decide) (by decide) dX7_init_63 (fun H1 locs1 e3 o3 z3 hS1 => ?_)
  replace hI : IW G a0 [.inr (8, [.ref (a0 + 1), .ref (a0 + 2), .ref (a0 + 3), .ref (a0 + 4), .ref (a0 + 5), .null, .null, .int 0, .int 0, .int 0]), .inl (G.2 3, qs 8 (fun _ => none)), .inl (G.2 4, qs 20 (fun _ => none)), lob 0 (G.2 8) 0, lob 0 (G.2 8) 0, lob 0 (G.2 8) 0, .inl (G.2 0, 3, .inl (upd (fun _ => 0) 0 10))] H1 := hI.put 6 e3 o3
  replace hz := z3.trans hz
  replace hS := hS1
  clear hS1
  refine lv_dup C.hx C.hb dX7_init_64 rfl ?_
  refine lv_iconst (v := 1) C.hx C.hb dX7_init_65 (by decide) ?_
  refine lv_bipush (v := 20) C.hx C.hb dX7_init_66 (by decide) ?_
  refine g_iast (n := 3) (f := (upd (fun _ => 0) 0 10)) (k := 1) C hS (hI.1 6 _ rfl) (by show a0 ≤ a0 + 6; omega) (by decide) (by decide) (by decide) dX7_init_68 (fun H1 locs1 e3 o3 z3 hS1 => ?_)
  replace hI : IW G a0 [.inr (8, [.ref (a0 + 1), .ref (a0 + 2), .ref (a0 + 3), .ref (a0 + 4), .ref (a0 + 5), .null, .null, .int 0, .int 0, .int 0]), .inl (G.2 3, qs 8 (fun _ => none)), .inl (G.2 4, qs 20 (fun _ => none)), lob 0 (G.2 8) 0, lob 0 (G.2 8) 0, lob 0 (G.2 8) 0, .inl (G.2 0, 3, .inl (upd (upd (fun _ => 0) 0 10) 1 20))] H1 := hI.put 6 e3 o3
  replace hz := z3.trans hz
  replace hS := hS1
  clear hS1
  refine lv_dup C.hx C.hb dX7_init_69 rfl ?_
  refine lv_iconst (v := 2) C.hx C.hb dX7_init_70 (by decide) ?_
  refine lv_bipush (v := 30) C.hx C.hb dX7_init_71 (by decide) ?_
  refine g_iast (n := 3) (f := (upd (upd (fun _ => 0) 0 10) 1 20)) (k := 2) C hS (hI.1 6 _ rfl) (by show a0 ≤ a0 + 6; omega) (by decide) (by decide) (by decide) dX7_init_73 (fun H1 locs1 e3 o3 z3 hS1 => ?_)
  replace hI : IW G a0 [.inr (8, [.ref (a0 + 1), .ref (a0 + 2), .ref (a0 + 3), .ref (a0 + 4), .ref (a0 + 5), .null, .null, .int 0, .int 0, .int 0]), .inl (G.2 3, qs 8 (fun _ => none)), .inl (G.2 4, qs 20 (fun _ => none)), lob 0 (G.2 8) 0, lob 0 (G.2 8) 0, lob 0 (G.2 8) 0, .inl (G.2 0, 3, .inl (upd (upd (upd (fun _ => 0) 0 10) 1 20) 2 30))] H1 := hI.put 6 e3 o3
  replace hz := z3.trans hz
  replace hS := hS1
  clear hS1
  refine g_putF (k := 5) tyX7 C hS (hI.1 0 _ rfl) (Nat.le_refl a0) rfl wu_X7 tyX7_ok nmX7 (by decide) wf_X7_34 rfl rfl hnm rfl rfl rfl (Nat.le_of_ble_eq_true rfl) dX7_init_74 (fun H1 locs1 e3 o3 z3 hS1 => ?_)
  replace hI : IW G a0 [.inr (8, [.ref (a0 + 1), .ref (a0 + 2), .ref (a0 + 3), .ref (a0 + 4), .ref (a0 + 5), .ref (a0 + 6), .null, .int 0, .int 0, .int 0]), .inl (G.2 3, qs 8 (fun _ => none)), .inl (G.2 4, qs 20 (fun _ => none)), lob 0 (G.2 8) 0, lob 0 (G.2 8) 0, lob 0 (G.2 8) 0, .inl (G.2 0, 3, .inl (upd (upd (upd (fun _ => 0) 0 10) 1 20) 2 30))] H1 := hI.put 0 e3 o3
  replace hz := z3.trans hz
  replace hS := hS1
  clear hS1
  refine lv_aload_n C.hx C.hb dX7_init_77 rfl (lv_at hl 0 rfl) ?_
  refine g_new (ci := 5) tyX4 (fs := [.int 0, .int 0, .null, .int 0, .int 0, .int 0, .int 0, .int 0]) C hS rfl wu_X4 tyX4_ok wl_X7_38 wi_X4 wz_X4 (fun j hj => by match j, hj with | 0, _ => rfl | 1, _ => rfl | 2, _ => rfl | 3, _ => rfl | 4, _ => rfl | 5, _ => rfl | 6, _ => rfl | 7, _ => rfl) (by decide) (by decide) dX7_init_78 (fun H1 hN o4 z4 hS1 => ?_)
  rw [hz] at hN o4 z4
  refine W.eq (g2 := F0 m_ 81 ls [.ref (a0 + 7), .ref a0]) (by rw [hz]) ?_
  replace hI := hI.kept o4
  replace hI : IW G a0 [.inr (8, [.ref (a0 + 1), .ref (a0 + 2), .ref (a0 + 3), .ref (a0 + 4), .ref (a0 + 5), .ref (a0 + 6), .null, .int 0, .int 0, .int 0]), .inl (G.2 3, qs 8 (fun _ => none)), .inl (G.2 4, qs 20 (fun _ => none)), lob 0 (G.2 8) 0, lob 0 (G.2 8) 0, lob 0 (G.2 8) 0, .inl (G.2 0, 3, .inl (upd (upd (upd (fun _ => 0) 0 10) 1 20) 2 30)), .inr (5, [.int 0, .int 0, .null, .int 0, .int 0, .int 0, .int 0, .int 0])] H1 := hI.snoc hN
  replace hz : H1.size = a0 + 8 := z4
  clear hN o4 z4
  replace hS := hS1
  clear hS1
  refine lv_dup C.hx C.hb dX7_init_81 rfl ?_
  refine kINWn (As := []) (rest := [.ref (a0 + 7), .ref a0]) C (cC_X4_init l G (a0 + 7) (a0 + 8)) lk_X7_40 ⟨hI.1 7 _ rfl, hz⟩ rfl rfl hl (Nat.le_of_ble_eq_true rfl) dX7_init_82 ⟨⟨by decide, by decide⟩, by decide, by decide⟩ hS (fun q h => by show a0 ≤ q; omega) (fun H1 locs1 hPq hz2 hk2 hS1 => ?_)
  replace hI : IW G a0 [.inr (8, [.ref (a0 + 1), .ref (a0 + 2), .ref (a0 + 3), .ref (a0 + 4), .ref (a0 + 5), .ref (a0 + 6), .null, .int 0, .int 0, .int 0]), .inl (G.2 3, qs 8 (fun _ => none)), .inl (G.2 4, qs 20 (fun _ => none)), lob 0 (G.2 8) 0, lob 0 (G.2 8) 0, lob 0 (G.2 8) 0, .inl (G.2 0, 3, .inl (upd (upd (upd (fun _ => 0) 0 10) 1 20) 2 30)), .inr (5, [.int 100, .int 10, .ref (a0 + 8), .int 0, .int 0, .int 0, .int 0, .int (-1)])] H1 := IW.callI hI 7 hz hPq.1 (fun q g1 g2 => hk2 q g1 (by omega))
  replace hI : IW G a0 [.inr (8, [.ref (a0 + 1), .ref (a0 + 2), .ref (a0 + 3), .ref (a0 + 4), .ref (a0 + 5), .ref (a0 + 6), .null, .int 0, .int 0, .int 0]), .inl (G.2 3, qs 8 (fun _ => none)), .inl (G.2 4, qs 20 (fun _ => none)), lob 0 (G.2 8) 0, lob 0 (G.2 8) 0, lob 0 (G.2 8) 0, .inl (G.2 0, 3, .inl (upd (upd (upd (fun _ => 0) 0 10) 1 20) 2 30)), .inr (5, [.int 100, .int 10, .ref (a0 + 8), .int 0, .int 0, .int 0, .int 0, .int (-1)]), .inl (G.2 0, 400, .inl (fun _ => 0))] H1 := hI.snoc hPq.2.1
  replace hz := hPq.2.2
  clear hPq hz2 hk2
  replace hS := hS1
  clear hS1
  refine g_putF (k := 6) tyX7 C hS (hI.1 0 _ rfl) (Nat.le_refl a0) rfl wu_X7 tyX7_ok nmX7 (by decide) wf_X7_41 rfl rfl hnm rfl rfl rfl (Nat.le_of_ble_eq_true rfl) dX7_init_85 (fun H1 locs1 e3 o3 z3 hS1 => ?_)
  replace hI : IW G a0 [.inr (8, [.ref (a0 + 1), .ref (a0 + 2), .ref (a0 + 3), .ref (a0 + 4), .ref (a0 + 5), .ref (a0 + 6), .ref (a0 + 7), .int 0, .int 0, .int 0]), .inl (G.2 3, qs 8 (fun _ => none)), .inl (G.2 4, qs 20 (fun _ => none)), lob 0 (G.2 8) 0, lob 0 (G.2 8) 0, lob 0 (G.2 8) 0, .inl (G.2 0, 3, .inl (upd (upd (upd (fun _ => 0) 0 10) 1 20) 2 30)), .inr (5, [.int 100, .int 10, .ref (a0 + 8), .int 0, .int 0, .int 0, .int 0, .int (-1)]), .inl (G.2 0, 400, .inl (fun _ => 0))] H1 := hI.put 0 e3 o3
  replace hz := z3.trans hz
  replace hS := hS1
  clear hS1
  refine lv_aload_n C.hx C.hb dX7_init_88 rfl (lv_at hl 0 rfl) ?_
  refine lv_iconst (v := 0) C.hx C.hb dX7_init_89 (by decide) ?_
  refine g_put (k := 7) tyX7 C hS (hI.1 0 _ rfl) (Nat.le_refl a0) rfl wu_X7 tyX7_ok nmX7 (by decide) wf_X7_45 rfl rfl rfl rfl rfl (Nat.le_of_ble_eq_true rfl) dX7_init_90 (fun H1 locs1 e3 o3 z3 hS1 => ?_)
  replace hI : IW G a0 [.inr (8, [.ref (a0 + 1), .ref (a0 + 2), .ref (a0 + 3), .ref (a0 + 4), .ref (a0 + 5), .ref (a0 + 6), .ref (a0 + 7), .int 0, .int 0, .int 0]), .inl (G.2 3, qs 8 (fun _ => none)), .inl (G.2 4, qs 20 (fun _ => none)), lob 0 (G.2 8) 0, lob 0 (G.2 8) 0, lob 0 (G.2 8) 0, .inl (G.2 0, 3, .inl (upd (upd (upd (fun _ => 0) 0 10) 1 20) 2 30)), .inr (5, [.int 100, .int 10, .ref (a0 + 8), .int 0, .int 0, .int 0, .int 0, .int (-1)]), .inl (G.2 0, 400, .inl (fun _ => 0))] H1 := hI.put 0 e3 o3
  replace hz := z3.trans hz
  replace hS := hS1
  clear hS1
  refine lv_aload_n C.hx C.hb dX7_init_93 rfl (lv_at hl 0 rfl) ?_
  refine lv_bipush (v := 100) C.hx C.hb dX7_init_94 (by decide) ?_
  refine g_put (k := 8) tyX7 C hS (hI.1 0 _ rfl) (Nat.le_refl a0) rfl wu_X7 tyX7_ok nmX7 (by decide) wf_X7_49 rfl rfl rfl rfl rfl (Nat.le_of_ble_eq_true rfl) dX7_init_96 (fun H1 locs1 e3 o3 z3 hS1 => ?_)
  replace hI : IW G a0 [.inr (8, [.ref (a0 + 1), .ref (a0 + 2), .ref (a0 + 3), .ref (a0 + 4), .ref (a0 + 5), .ref (a0 + 6), .ref (a0 + 7), .int 0, .int 100, .int 0]), .inl (G.2 3, qs 8 (fun _ => none)), .inl (G.2 4, qs 20 (fun _ => none)), lob 0 (G.2 8) 0, lob 0 (G.2 8) 0, lob 0 (G.2 8) 0, .inl (G.2 0, 3, .inl (upd (upd (upd (fun _ => 0) 0 10) 1 20) 2 30)), .inr (5, [.int 100, .int 10, .ref (a0 + 8), .int 0, .int 0, .int 0, .int 0, .int (-1)]), .inl (G.2 0, 400, .inl (fun _ => 0))] H1 := hI.put 0 e3 o3
  replace hz := z3.trans hz
  replace hS := hS1
  clear hS1
  refine lv_aload_n C.hx C.hb dX7_init_99 rfl (lv_at hl 0 rfl) ?_
  refine lv_iconst (v := 0) C.hx C.hb dX7_init_100 (by decide) ?_
  refine g_put (k := 9) tyX7 C hS (hI.1 0 _ rfl) (Nat.le_refl a0) rfl wu_X7 tyX7_ok nmX7 (by decide) wf_X7_52 rfl rfl rfl rfl rfl (Nat.le_of_ble_eq_true rfl) dX7_init_101 (fun H1 locs1 e3 o3 z3 hS1 => ?_)
  replace hI : IW G a0 [.inr (8, [.ref (a0 + 1), .ref (a0 + 2), .ref (a0 + 3), .ref (a0 + 4), .ref (a0 + 5), .ref (a0 + 6), .ref (a0 + 7), .int 0, .int 100, .int 0]), .inl (G.2 3, qs 8 (fun _ => none)), .inl (G.2 4, qs 20 (fun _ => none)), lob 0 (G.2 8) 0, lob 0 (G.2 8) 0, lob 0 (G.2 8) 0, .inl (G.2 0, 3, .inl (upd (upd (upd (fun _ => 0) 0 10) 1 20) 2 30)), .inr (5, [.int 100, .int 10, .ref (a0 + 8), .int 0, .int 0, .int 0, .int 0, .int (-1)]), .inl (G.2 0, 400, .inl (fun _ => 0))] H1 := hI.put 0 e3 o3
  replace hz := z3.trans hz
  replace hS := hS1
  clear hS1
  refine lv_iconst (v := 0) C.hx C.hb dX7_init_104 (by decide) ?_
  refine lv_istore_n (lv' := [(1, .int 0), (0, .ref a0)]) C.hx C.hb dX7_init_105 rfl hl (by decide) rfl (fun ls hl => ?_)
  have hI0 : IW G a0 ([.inr (8, [.ref (a0 + 1), .ref (a0 + 2), .ref (a0 + 3), .ref (a0 + 4), .ref (a0 + 5), .ref (a0 + 6), .ref (a0 + 7), .int 0, .int 100, .int 0]), .inl (G.2 3, qs 8 (fun j => if j < 0 then some (a0 + 9 + j) else none)), .inl (G.2 4, qs 20 (fun _ => none)), lob 0 (G.2 8) 0, lob 0 (G.2 8) 0, lob 0 (G.2 8) 0, .inl (G.2 0, 3, .inl (upd (upd (upd (fun _ => 0) 0 10) 1 20) 2 30)), .inr (5, [.int 100, .int 10, .ref (a0 + 8), .int 0, .int 0, .int 0, .int 0, .int (-1)]), .inl (G.2 0, 400, .inl (fun _ => 0))] ++ (List.range 0).map ruC) _ := IW.cast (by rw [show (fun j => if j < 0 then some (a0 + 9 + j) else none) = (fun _ => none : Nat → Option Nat) from by funext j; rw [if_neg (by omega)]]; rfl) hI
  refine W.loopW (N := 8) (Inv := fun i ls H locs ce sl => lv_has ls 2 [(1, .int (nI i)), (0, .ref a0)] ∧ IW G a0 ([.inr (8, [.ref (a0 + 1), .ref (a0 + 2), .ref (a0 + 3), .ref (a0 + 4), .ref (a0 + 5), .ref (a0 + 6), .ref (a0 + 7), .int 0, .int 100, .int 0]), .inl (G.2 3, qs 8 (fun j => if j < i then some (a0 + 9 + j) else none)), .inl (G.2 4, qs 20 (fun _ => none)), lob 0 (G.2 8) 0, lob 0 (G.2 8) 0, lob 0 (G.2 8) 0, .inl (G.2 0, 3, .inl (upd (upd (upd (fun _ => 0) 0 10) 1 20) 2 30)), .inr (5, [.int 100, .int 10, .ref (a0 + 8), .int 0, .int 0, .int 0, .int 0, .int (-1)]), .inl (G.2 0, 400, .inl (fun _ => 0))] ++ (List.range i).map ruC) H ∧ H.size = a0 + 9 + i ∧ va_S (fun q => a0 ≤ q) s_.heap H locs ∧ ce = 8 + i ∧ sl = 448 + 4 * i) 106 [] (fun i1 ls H locs ce sl hi1 hq K1 => ?_) (fun ls H locs ce sl hq => ?_) 0 ls _ _ _ _ (Nat.zero_le _) ⟨hl, hI0, hz, hS, rfl, rfl⟩
  · clear hI hI0 hz hS hl
    obtain ⟨hl, hI, hz, hS, hce, hsl⟩ := hq
    refine lv_iload_n C.hx C.hb dX7_init_106 rfl (lv_at hl 0 rfl) ?_
    refine lv_bipush (v := 8) C.hx C.hb dX7_init_107 (by decide) ?_
    refine lv_icmp_ge (tgt := 132) C.hx C.hb dX7_init_109 (by decide) (fun c1 => ?_) (fun c1 => ?_)
    · exact absurd c1 (lt_nle (N := 8) rfl hi1 (by decide))
    · refine lv_aload_n C.hx C.hb dX7_init_112 rfl (lv_at hl 1 rfl) ?_
      refine g_get (k := 0) (v := .ref (a0 + 1)) C (hI.1 0 _ rfl) rfl wu_X7 (by decide) wf_X7_11 rfl rfl dX7_init_113 ?_
      refine lv_iload_n C.hx C.hb dX7_init_116 rfl (lv_at hl 0 rfl) ?_
      refine g_new (ci := 7) tyX6 (fs := [.int 0, .int 0, .int 0, .int 0]) C hS rfl wu_X6 tyX6_ok wl_X7_9 wi_X6 wz_X6 (fun j hj => by match j, hj with | 0, _ => rfl | 1, _ => rfl | 2, _ => rfl | 3, _ => rfl) (show ce + 1 ≤ 36 by omega) (show sl + 4 ≤ 640 by omega) dX7_init_117 (fun H1 hN o4 z4 hS1 => ?_)
      rw [hz] at hN o4 z4
      refine W.eq (g2 := F0 m_ 120 ls [.ref (a0 + 9 + i1), .int (nI i1), .ref (a0 + 1)]) (by rw [hz]) ?_
      replace hI := hI.kept (fun q hq => o4 q (by simp at hq; omega))
      replace hz : H1.size = a0 + 9 + i1 + 1 := z4
      clear o4 z4
      replace hS := hS1
      clear hS1
      refine lv_dup C.hx C.hb dX7_init_120 rfl ?_
      refine lv_iload_n C.hx C.hb dX7_init_121 rfl (lv_at hl 0 rfl) ?_
      refine kINWn (As := [.int (nI i1)]) (rest := [.ref (a0 + 9 + i1), .int (nI i1), .ref (a0 + 1)]) C (cC_X6_init l G (a0 + 9 + i1) (a0 + 9 + i1 + 1) (nI i1)) lk_X7_55 ⟨hN, hz⟩ rfl rfl hl (Nat.le_of_ble_eq_true rfl) dX7_init_122 ⟨⟨by decide, by decide⟩, (show ce + 1 + 0 ≤ 36 by omega), (show sl + 4 + 0 ≤ 640 by omega)⟩ hS (fun q h => by rw [h]; show a0 ≤ a0 + 9 + i1; omega) (fun H2 locs2 hPq hz2 hk2 hS1 => ?_)
      rw [hz] at hk2
      replace hI := hI.kept (fun q hq => hk2 q (by simp at hq; omega) (by simp at hq; omega))
      obtain ⟨hN2, hzz⟩ := hPq
      clear hN hz2 hk2
      replace hS := hS1
      clear hS1
      refine g_aast (t0 := 3) C hS (hI.1 1 _ rfl) (by show a0 ≤ a0 + 1; omega) rfl hN2 rfl (asg_self C (ci := 7) rfl) rfl hi1 (by decide) dX7_init_125 (fun H3 locs3 e3 o3 z3 hS1 => ?_)
      rw [grow_f (fun j => a0 + 9 + j) i1] at e3
      replace hI := hI.put 1 e3 o3
      have hN3 := hN2.kept (o3 _ (by show a0 + 9 + i1 ≠ a0 + 1; omega))
      replace hI : IW G a0 ([.inr (8, [.ref (a0 + 1), .ref (a0 + 2), .ref (a0 + 3), .ref (a0 + 4), .ref (a0 + 5), .ref (a0 + 6), .ref (a0 + 7), .int 0, .int 100, .int 0]), .inl (G.2 3, qs 8 (fun j => if j < (i1 + 1) then some (a0 + 9 + j) else none)), .inl (G.2 4, qs 20 (fun _ => none)), lob 0 (G.2 8) 0, lob 0 (G.2 8) 0, lob 0 (G.2 8) 0, .inl (G.2 0, 3, .inl (upd (upd (upd (fun _ => 0) 0 10) 1 20) 2 30)), .inr (5, [.int 100, .int 10, .ref (a0 + 8), .int 0, .int 0, .int 0, .int 0, .int (-1)]), .inl (G.2 0, 400, .inl (fun _ => 0))] ++ (List.range (i1 + 1)).map ruC) H3 := IW.cast (by rw [show List.range (i1 + 1) = List.range i1 ++ [i1] from List.range_succ, List.map_append]; rfl) (hI.snoc (e := ruC i1) (by rw [show a0 + List.length _ = a0 + 9 + i1 from by simp; omega]; exact hN3))
      replace hS := hS1
      clear hS1
      refine lv_iinc (v := (nI i1) + 1) (lv' := [(1, .int ((nI i1) + 1)), (0, .ref a0)]) C.hx C.hb dX7_init_126 hl (k := 0) rfl rfl (by decide) rfl (fun ls hl => ?_)
      refine lv_goto (tgt := 106) C.hx C.hb dX7_init_129 (by decide) ?_
      rw [nI_1 i1] at hl
      exact K1 _ _ _ _ _ ⟨hl, hI, by rw [z3, hzz]; omega, hS, by omega, by omega⟩
  · clear hI hI0 hz hS hl
    obtain ⟨hl, hI, hz, hS, hce, hsl⟩ := hq
    refine lv_iload_n C.hx C.hb dX7_init_106 rfl (lv_at hl 0 rfl) ?_
    refine lv_bipush (v := 8) C.hx C.hb dX7_init_107 (by decide) ?_
    refine lv_icmp_ge (tgt := 132) C.hx C.hb dX7_init_109 (by decide) (fun c2 => ?_) (fun c2 => ?_)
    · subst hce; subst hsl
      refine lv_iconst (v := 0) C.hx C.hb dX7_init_132 (by decide) ?_
      refine lv_istore_n (lv' := [(1, .int 0), (0, .ref a0)]) C.hx C.hb dX7_init_133 rfl hl (by decide) rfl (fun ls hl => ?_)
      have hI0 : IW G a0 (([.inr (8, [.ref (a0 + 1), .ref (a0 + 2), .ref (a0 + 3), .ref (a0 + 4), .ref (a0 + 5), .ref (a0 + 6), .ref (a0 + 7), .int 0, .int 100, .int 0]), .inl (G.2 3, qs 8 (fun j => if j < 8 then some (a0 + 9 + j) else none)), .inl (G.2 4, qs 20 (fun j => if j < 0 then some (a0 + 17 + j) else none)), lob 0 (G.2 8) 0, lob 0 (G.2 8) 0, lob 0 (G.2 8) 0, .inl (G.2 0, 3, .inl (upd (upd (upd (fun _ => 0) 0 10) 1 20) 2 30)), .inr (5, [.int 100, .int 10, .ref (a0 + 8), .int 0, .int 0, .int 0, .int 0, .int (-1)]), .inl (G.2 0, 400, .inl (fun _ => 0))] ++ (List.range 8).map ruC) ++ (List.range 0).map juC) _ := IW.cast (by rw [show (fun j => if j < 0 then some (a0 + 17 + j) else none) = (fun _ => none : Nat → Option Nat) from by funext j; rw [if_neg (by omega)]]; rfl) hI
      refine W.loopW (N := 20) (Inv := fun i ls H locs ce sl => lv_has ls 2 [(1, .int (nI i)), (0, .ref a0)] ∧ IW G a0 (([.inr (8, [.ref (a0 + 1), .ref (a0 + 2), .ref (a0 + 3), .ref (a0 + 4), .ref (a0 + 5), .ref (a0 + 6), .ref (a0 + 7), .int 0, .int 100, .int 0]), .inl (G.2 3, qs 8 (fun j => if j < 8 then some (a0 + 9 + j) else none)), .inl (G.2 4, qs 20 (fun j => if j < i then some (a0 + 17 + j) else none)), lob 0 (G.2 8) 0, lob 0 (G.2 8) 0, lob 0 (G.2 8) 0, .inl (G.2 0, 3, .inl (upd (upd (upd (fun _ => 0) 0 10) 1 20) 2 30)), .inr (5, [.int 100, .int 10, .ref (a0 + 8), .int 0, .int 0, .int 0, .int 0, .int (-1)]), .inl (G.2 0, 400, .inl (fun _ => 0))] ++ (List.range 8).map ruC) ++ (List.range i).map juC) H ∧ H.size = a0 + 17 + i ∧ va_S (fun q => a0 ≤ q) s_.heap H locs ∧ ce = 16 + i ∧ sl = 480 + 8 * i) 134 [] (fun i1 ls H locs ce sl hi1 hq K1 => ?_) (fun ls H locs ce sl hq => ?_) 0 ls _ _ _ _ (Nat.zero_le _) ⟨hl, hI0, hz, hS, rfl, rfl⟩
      · clear hI hI0 hz hS hl
        obtain ⟨hl, hI, hz, hS, hce, hsl⟩ := hq
        refine lv_iload_n C.hx C.hb dX7_init_134 rfl (lv_at hl 0 rfl) ?_
        refine lv_bipush (v := 20) C.hx C.hb dX7_init_135 (by decide) ?_
        refine lv_icmp_ge (tgt := 160) C.hx C.hb dX7_init_137 (by decide) (fun c1 => ?_) (fun c1 => ?_)
        · exact absurd c1 (lt_nle (N := 20) rfl hi1 (by decide))
        · refine lv_aload_n C.hx C.hb dX7_init_140 rfl (lv_at hl 1 rfl) ?_
          refine g_get (k := 1) (v := .ref (a0 + 2)) C (hI.1 0 _ rfl) rfl wu_X7 (by decide) wf_X7_17 rfl rfl dX7_init_141 ?_
          refine lv_iload_n C.hx C.hb dX7_init_144 rfl (lv_at hl 0 rfl) ?_
          refine g_new (ci := 4) tyX3 (fs := [.int 0, .int 0, .long 0, .int 0, .int 0, .int 0, .int 0, .int 0]) C hS rfl wu_X3 tyX3_ok wl_X7_15 wi_X3 wz_X3 (fun j hj => by match j, hj with | 0, _ => rfl | 1, _ => rfl | 2, _ => rfl | 3, _ => rfl | 4, _ => rfl | 5, _ => rfl | 6, _ => rfl | 7, _ => rfl) (show ce + 1 ≤ 36 by omega) (show sl + 8 ≤ 640 by omega) dX7_init_145 (fun H1 hN o4 z4 hS1 => ?_)
          rw [hz] at hN o4 z4
          refine W.eq (g2 := F0 m_ 148 ls [.ref (a0 + 17 + i1), .int (nI i1), .ref (a0 + 2)]) (by rw [hz]) ?_
          replace hI := hI.kept (fun q hq => o4 q (by simp at hq; omega))
          replace hz : H1.size = a0 + 17 + i1 + 1 := z4
          clear o4 z4
          replace hS := hS1
          clear hS1
          refine lv_dup C.hx C.hb dX7_init_148 rfl ?_
          refine lv_iload_n C.hx C.hb dX7_init_149 rfl (lv_at hl 0 rfl) ?_
          refine kINWn (As := [.int (nI i1)]) (rest := [.ref (a0 + 17 + i1), .int (nI i1), .ref (a0 + 2)]) C (cC_X3_init l G (a0 + 17 + i1) (a0 + 17 + i1 + 1) (nI i1)) lk_X7_58 ⟨hN, hz⟩ rfl rfl hl (Nat.le_of_ble_eq_true rfl) dX7_init_150 ⟨⟨by decide, by decide⟩, (show ce + 1 + 0 ≤ 36 by omega), (show sl + 8 + 0 ≤ 640 by omega)⟩ hS (fun q h => by rw [h]; show a0 ≤ a0 + 17 + i1; omega) (fun H2 locs2 hPq hz2 hk2 hS1 => ?_)
          rw [hz] at hk2
          replace hI := hI.kept (fun q hq => hk2 q (by simp at hq; omega) (by simp at hq; omega))
          obtain ⟨hN2, hzz⟩ := hPq
          clear hN hz2 hk2
          replace hS := hS1
          clear hS1
          refine g_aast (t0 := 4) C hS (hI.1 2 _ rfl) (by show a0 ≤ a0 + 2; omega) rfl hN2 rfl (asg_self C (ci := 4) rfl) rfl hi1 (by decide) dX7_init_153 (fun H3 locs3 e3 o3 z3 hS1 => ?_)
          rw [grow_f (fun j => a0 + 17 + j) i1] at e3
          replace hI := hI.put 2 e3 o3
          have hN3 := hN2.kept (o3 _ (by show a0 + 17 + i1 ≠ a0 + 2; omega))
          replace hI : IW G a0 (([.inr (8, [.ref (a0 + 1), .ref (a0 + 2), .ref (a0 + 3), .ref (a0 + 4), .ref (a0 + 5), .ref (a0 + 6), .ref (a0 + 7), .int 0, .int 100, .int 0]), .inl (G.2 3, qs 8 (fun j => if j < 8 then some (a0 + 9 + j) else none)), .inl (G.2 4, qs 20 (fun j => if j < (i1 + 1) then some (a0 + 17 + j) else none)), lob 0 (G.2 8) 0, lob 0 (G.2 8) 0, lob 0 (G.2 8) 0, .inl (G.2 0, 3, .inl (upd (upd (upd (fun _ => 0) 0 10) 1 20) 2 30)), .inr (5, [.int 100, .int 10, .ref (a0 + 8), .int 0, .int 0, .int 0, .int 0, .int (-1)]), .inl (G.2 0, 400, .inl (fun _ => 0))] ++ (List.range 8).map ruC) ++ (List.range (i1 + 1)).map juC) H3 := IW.cast (by rw [show List.range (i1 + 1) = List.range i1 ++ [i1] from List.range_succ, List.map_append]; rfl) (hI.snoc (e := juC i1) (by rw [show a0 + List.length _ = a0 + 17 + i1 from by simp; omega]; exact hN3))
          replace hS := hS1
          clear hS1
          refine lv_iinc (v := (nI i1) + 1) (lv' := [(1, .int ((nI i1) + 1)), (0, .ref a0)]) C.hx C.hb dX7_init_154 hl (k := 0) rfl rfl (by decide) rfl (fun ls hl => ?_)
          refine lv_goto (tgt := 134) C.hx C.hb dX7_init_157 (by decide) ?_
          rw [nI_1 i1] at hl
          exact K1 _ _ _ _ _ ⟨hl, hI, by rw [z3, hzz]; omega, hS, by omega, by omega⟩
      · clear hI hI0 hz hS hl
        obtain ⟨hl, hI, hz, hS, hce, hsl⟩ := hq
        refine lv_iload_n C.hx C.hb dX7_init_134 rfl (lv_at hl 0 rfl) ?_
        refine lv_bipush (v := 20) C.hx C.hb dX7_init_135 (by decide) ?_
        refine lv_icmp_ge (tgt := 160) C.hx C.hb dX7_init_137 (by decide) (fun c2 => ?_) (fun c2 => ?_)
        · subst hce; subst hsl
          exact wV C hr dX7_init_160 hS ⟨bench_world G A a0 hAq n6 n8 hI.2.1 (hI.1 0 _ rfl) (hI.1 1 _ rfl) (hI.1 2 _ rfl) (hI.1 3 _ rfl) (hI.1 4 _ rfl) (hI.1 5 _ rfl) (hI.1 6 _ rfl) (hI.1 7 _ rfl) (hI.1 8 _ rfl) (fun r hr => by match r, hr with | 0, _ => exact hI.1 9 _ rfl | 1, _ => exact hI.1 10 _ rfl | 2, _ => exact hI.1 11 _ rfl | 3, _ => exact hI.1 12 _ rfl | 4, _ => exact hI.1 13 _ rfl | 5, _ => exact hI.1 14 _ rfl | 6, _ => exact hI.1 15 _ rfl | 7, _ => exact hI.1 16 _ rfl | r + 8, hr => exact absurd hr (by omega)) (fun r hr => by match r, hr with | 0, _ => exact hI.1 17 _ rfl | 1, _ => exact hI.1 18 _ rfl | 2, _ => exact hI.1 19 _ rfl | 3, _ => exact hI.1 20 _ rfl | 4, _ => exact hI.1 21 _ rfl | 5, _ => exact hI.1 22 _ rfl | 6, _ => exact hI.1 23 _ rfl | 7, _ => exact hI.1 24 _ rfl | 8, _ => exact hI.1 25 _ rfl | 9, _ => exact hI.1 26 _ rfl | 10, _ => exact hI.1 27 _ rfl | 11, _ => exact hI.1 28 _ rfl | 12, _ => exact hI.1 29 _ rfl | 13, _ => exact hI.1 30 _ rfl | 14, _ => exact hI.1 31 _ rfl | 15, _ => exact hI.1 32 _ rfl | 16, _ => exact hI.1 33 _ rfl | 17, _ => exact hI.1 34 _ rfl | 18, _ => exact hI.1 35 _ rfl | 19, _ => exact hI.1 36 _ rfl | r + 20, hr => exact absurd hr (by omega)), hz⟩
        · exact absurd (le_eqn (N := 20) rfl) c2
    · exact absurd (le_eqn (N := 8) rfl) c2
