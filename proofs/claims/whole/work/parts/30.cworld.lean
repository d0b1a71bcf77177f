/-! THE CLASS'S WORLD. Kinds: 0 the bench, 1 rules, 2 judges, 3 posts, 4 cases, 5 hearings (2 c: first, 2 c + 1: second), 6 gifts (by place), 7 the lists (0 posts, 1 cases, 2 gifts), 8 their arrays, 9 the ladder, 10 int arrays (0 strikeTicks, 1 dueOfGrade), 11 rules' array, 12 judges' array.
ad k i: address of object i of kind k; x f i: int field f; y f i: references as numbers (0, 1, 5: 0 is null, c + 1 is case c; 4: is there a second hearing), y 20 l: how many in list l, y 21 l: its array's length; z j: kin -/
abbrev YY : Type := Nat → Nat → Nat
def opt (g : Nat → Nat) (n : Nat) : Value := match n with
  | 0 => .null
  | k + 1 => .ref (g k)
def lkd (l : Nat) : Nat := match l with
  | 0 => 3
  | 1 => 4
  | _ => 6
def cob (G : GG) (ad : YY) (x : XX) (y : YY) (z : Nat → Int64) (k i : Nat) : va_E := match k with
  | 0 => .inr (8, [.ref (ad 11 0), .ref (ad 12 0), .ref (ad 7 0), .ref (ad 7 1), .ref (ad 7 2), .ref (ad 10 1), .ref (ad 9 0), .int (x 0 i), .int (x 1 i), .int (x 2 i)])
  | 1 => .inr (7, [.int (nI i), .int (x 3 i), .int (x 4 i), .int (x 5 i)])
  | 2 => .inr (4, [.int ((1 : Int32) <<< (nI i &&& 31)), .int (x 6 i), .long (z i), .int (x 7 i), .int (x 8 i), .int (x 9 i), .int (x 10 i), .int (x 11 i)])
  | 3 => .inr (6, [.int (nI i), .int (x 12 i), .int (x 13 i), .int (x 14 i), .int (x 15 i), opt (ad 4) (y 0 i), opt (ad 4) (y 1 i)])
  | 4 => .inr (1, [.int (nI i), .ref (ad 3 (y 2 i)), .ref (ad 1 (y 3 i)), .int (x 16 i), .ref (ad 5 (2 * i)), opt (fun _ => ad 5 (2 * i + 1)) (y 4 i), .int (x 17 i), .int (x 18 i), .int (x 19 i), .int (x 20 i), .int (x 21 i), opt (ad 4) (y 5 i)])
  | 5 => .inr (3, [.int (x 22 i), .int (x 23 i), .int (x 24 i), .int (x 25 i), .int (x 26 i), .int (x 27 i), .int (x 28 i)])
  | 6 => .inr (2, [.ref (ad 2 (y 6 i)), .ref (ad 4 (y 7 i))])
  | 7 => lob (x 36 i) (if y 21 i = 0 then G.2 8 else ad 8 i) (y 20 i)
  | 8 => .inl (G.2 5, qs (y 21 i) (fun j => if j < y 20 i then some (ad (lkd i) j) else none))
  | 9 => .inr (5, [.int (x 37 i), .int (x 38 i), .ref (ad 10 0), .int (x 39 i), .int (x 40 i), .int (x 41 i), .int (x 42 i), .int (x 43 i)])
  | 10 => .inl (G.2 0, if i = 0 then 400 else 3, .inl (x (44 + i)))
  | 11 => .inl (G.2 3, qs 8 (fun j => some (ad 1 j)))
  | _ => .inl (G.2 4, qs 20 (fun j => some (ad 2 j)))
/-- which objects there are -/
def lv (y : YY) (k i : Nat) : Prop := match k with
  | 0 => i = 0
  | 1 => i < 8
  | 2 => i < 20
  | 3 => i < y 20 0
  | 4 => i < y 20 1
  | 5 => i / 2 < y 20 1 ∧ (i % 2 = 0 ∨ y 4 (i / 2) ≠ 0)
  | 6 => i < y 20 2
  | 7 => i < 3
  | 8 => i < 3 ∧ y 21 i ≠ 0
  | 9 => i = 0
  | 10 => i < 2
  | 11 => i = 0
  | 12 => i = 0
  | _ => False
def CWd (G : GG) (A : Nat → Prop) (ad : YY) (x : XX) (y : YY) (z : Nat → Int64) (H : Heap) : Prop :=
  (∀ k i, lv y k i → va_at G.1 vwCl (ad k i, cob G ad x y z k i) H ∧ A (ad k i)) ∧ (∀ k i k' i', lv y k i → lv y k' i' → ad k i = ad k' i' → k = k' ∧ i = i') ∧ DZ G H ∧ ¬ A (G.2 6) ∧ ¬ A (G.2 8)
section CW
variable {G : GG} {A : Nat → Prop} {ad : YY} {x x' : XX} {y y' : YY} {z z' : Nat → Int64} {H H1 : Heap}
theorem CWd.kept (h : CWd G A ad x y z H) (o : ∀ q, q < H.size → (A q ∨ q = G.2 6 ∨ q = G.2 8) → H1[q]? = H[q]?) : CWd G A ad x y z H1 := by
  have l6 : G.2 6 < H.size := by obtain ⟨c, hc, -⟩ := h.2.2.1.1; exact (Array.getElem?_eq_some_iff.mp hc).1
  have l8 : G.2 8 < H.size := by obtain ⟨c, hc, -⟩ := h.2.2.1.2; exact (Array.getElem?_eq_some_iff.mp hc).1
  exact ⟨fun k i hl => ⟨(h.1 k i hl).1.kept (o _ (h.1 k i hl).1.lt (Or.inl (h.1 k i hl).2)), (h.1 k i hl).2⟩, h.2.1, h.2.2.1.kept (o _ l6 (Or.inr (Or.inl rfl))) (o _ l8 (Or.inr (Or.inr rfl))), h.2.2.2⟩
/-- one object is written -/
theorem CWd.put (h : CWd G A ad x y z H) (k i : Nat) (hl : lv y k i) (e : va_at G.1 vwCl (ad k i, cob G ad x' y' z' k i) H1) (o : ∀ q, q ≠ ad k i → H1[q]? = H[q]?) (hy : ∀ k' i', lv y' k' i' → lv y k' i') (hc : ∀ k' i', ¬ (k' = k ∧ i' = i) → cob G ad x' y' z' k' i' = cob G ad x y z k' i') : CWd G A ad x' y' z' H1 := by
  have hA := (h.1 k i hl).2
  refine ⟨fun k' i' hl' => ?_, fun a b c d h1 h2 => h.2.1 a b c d (hy a b h1) (hy c d h2), h.2.2.1.kept (o _ (fun q => h.2.2.2.1 (by rw [q]; exact hA))) (o _ (fun q => h.2.2.2.2 (by rw [q]; exact hA))), h.2.2.2⟩
  by_cases hk : k' = k ∧ i' = i
  · obtain ⟨rfl, rfl⟩ := hk
    exact ⟨e, hA⟩
  · have h0 := h.1 k' i' (hy k' i' hl')
    rw [hc k' i' hk]
    exact ⟨h0.1.kept (o _ (fun q => hk (h.2.1 k' i' k i (hy k' i' hl') hl q))), h0.2⟩
theorem cu_0 {i : Nat} {v : Int32} : ∀ k' i', ¬ (k' = 0 ∧ i' = i) → cob G ad (up2 x 0 i v) y z k' i' = cob G ad x y z k' i' := fun k' i' hn => match k', hn with
  | 0, hn => (by have h : i' ≠ i := fun q => hn ⟨rfl, q⟩; simp [cob, up2, upd, h])
  | 1, hn => rfl
  | 2, hn => rfl
  | 3, hn => rfl
  | 4, hn => rfl
  | 5, hn => rfl
  | 6, hn => rfl
  | 7, hn => rfl
  | 8, hn => rfl
  | 9, hn => rfl
  | 10, hn => (by simp only [cob]; rw [up2_ne (by omega)])
  | 11, hn => rfl
  | 12, hn => rfl
  | _ + 13, _ => rfl
theorem cu_1 {i : Nat} {v : Int32} : ∀ k' i', ¬ (k' = 0 ∧ i' = i) → cob G ad (up2 x 1 i v) y z k' i' = cob G ad x y z k' i' := fun k' i' hn => match k', hn with
  | 0, hn => (by have h : i' ≠ i := fun q => hn ⟨rfl, q⟩; simp [cob, up2, upd, h])
  | 1, hn => rfl
  | 2, hn => rfl
  | 3, hn => rfl
  | 4, hn => rfl
  | 5, hn => rfl
  | 6, hn => rfl
  | 7, hn => rfl
  | 8, hn => rfl
  | 9, hn => rfl
  | 10, hn => (by simp only [cob]; rw [up2_ne (by omega)])
  | 11, hn => rfl
  | 12, hn => rfl
  | _ + 13, _ => rfl
theorem cu_2 {i : Nat} {v : Int32} : ∀ k' i', ¬ (k' = 0 ∧ i' = i) → cob G ad (up2 x 2 i v) y z k' i' = cob G ad x y z k' i' := fun k' i' hn => match k', hn with
  | 0, hn => (by have h : i' ≠ i := fun q => hn ⟨rfl, q⟩; simp [cob, up2, upd, h])
  | 1, hn => rfl
  | 2, hn => rfl
  | 3, hn => rfl
  | 4, hn => rfl
  | 5, hn => rfl
  | 6, hn => rfl
  | 7, hn => rfl
  | 8, hn => rfl
  | 9, hn => rfl
  | 10, hn => (by simp only [cob]; rw [up2_ne (by omega)])
  | 11, hn => rfl
  | 12, hn => rfl
  | _ + 13, _ => rfl
theorem cu_3 {i : Nat} {v : Int32} : ∀ k' i', ¬ (k' = 1 ∧ i' = i) → cob G ad (up2 x 3 i v) y z k' i' = cob G ad x y z k' i' := fun k' i' hn => match k', hn with
  | 0, hn => rfl
  | 1, hn => (by have h : i' ≠ i := fun q => hn ⟨rfl, q⟩; simp [cob, up2, upd, h])
  | 2, hn => rfl
  | 3, hn => rfl
  | 4, hn => rfl
  | 5, hn => rfl
  | 6, hn => rfl
  | 7, hn => rfl
  | 8, hn => rfl
  | 9, hn => rfl
  | 10, hn => (by simp only [cob]; rw [up2_ne (by omega)])
  | 11, hn => rfl
  | 12, hn => rfl
  | _ + 13, _ => rfl
theorem cu_4 {i : Nat} {v : Int32} : ∀ k' i', ¬ (k' = 1 ∧ i' = i) → cob G ad (up2 x 4 i v) y z k' i' = cob G ad x y z k' i' := fun k' i' hn => match k', hn with
  | 0, hn => rfl
  | 1, hn => (by have h : i' ≠ i := fun q => hn ⟨rfl, q⟩; simp [cob, up2, upd, h])
  | 2, hn => rfl
  | 3, hn => rfl
  | 4, hn => rfl
  | 5, hn => rfl
  | 6, hn => rfl
  | 7, hn => rfl
  | 8, hn => rfl
  | 9, hn => rfl
  | 10, hn => (by simp only [cob]; rw [up2_ne (by omega)])
  | 11, hn => rfl
  | 12, hn => rfl
  | _ + 13, _ => rfl
theorem cu_5 {i : Nat} {v : Int32} : ∀ k' i', ¬ (k' = 1 ∧ i' = i) → cob G ad (up2 x 5 i v) y z k' i' = cob G ad x y z k' i' := fun k' i' hn => match k', hn with
  | 0, hn => rfl
  | 1, hn => (by have h : i' ≠ i := fun q => hn ⟨rfl, q⟩; simp [cob, up2, upd, h])
  | 2, hn => rfl
  | 3, hn => rfl
  | 4, hn => rfl
  | 5, hn => rfl
  | 6, hn => rfl
  | 7, hn => rfl
  | 8, hn => rfl
  | 9, hn => rfl
  | 10, hn => (by simp only [cob]; rw [up2_ne (by omega)])
  | 11, hn => rfl
  | 12, hn => rfl
  | _ + 13, _ => rfl
theorem cu_6 {i : Nat} {v : Int32} : ∀ k' i', ¬ (k' = 2 ∧ i' = i) → cob G ad (up2 x 6 i v) y z k' i' = cob G ad x y z k' i' := fun k' i' hn => match k', hn with
  | 0, hn => rfl
  | 1, hn => rfl
  | 2, hn => (by have h : i' ≠ i := fun q => hn ⟨rfl, q⟩; simp [cob, up2, upd, h])
  | 3, hn => rfl
  | 4, hn => rfl
  | 5, hn => rfl
  | 6, hn => rfl
  | 7, hn => rfl
  | 8, hn => rfl
  | 9, hn => rfl
  | 10, hn => (by simp only [cob]; rw [up2_ne (by omega)])
  | 11, hn => rfl
  | 12, hn => rfl
  | _ + 13, _ => rfl
theorem cu_7 {i : Nat} {v : Int32} : ∀ k' i', ¬ (k' = 2 ∧ i' = i) → cob G ad (up2 x 7 i v) y z k' i' = cob G ad x y z k' i' := fun k' i' hn => match k', hn with
  | 0, hn => rfl
  | 1, hn => rfl
  | 2, hn => (by have h : i' ≠ i := fun q => hn ⟨rfl, q⟩; simp [cob, up2, upd, h])
  | 3, hn => rfl
  | 4, hn => rfl
  | 5, hn => rfl
  | 6, hn => rfl
  | 7, hn => rfl
  | 8, hn => rfl
  | 9, hn => rfl
  | 10, hn => (by simp only [cob]; rw [up2_ne (by omega)])
  | 11, hn => rfl
  | 12, hn => rfl
  | _ + 13, _ => rfl
theorem cu_8 {i : Nat} {v : Int32} : ∀ k' i', ¬ (k' = 2 ∧ i' = i) → cob G ad (up2 x 8 i v) y z k' i' = cob G ad x y z k' i' := fun k' i' hn => match k', hn with
  | 0, hn => rfl
  | 1, hn => rfl
  | 2, hn => (by have h : i' ≠ i := fun q => hn ⟨rfl, q⟩; simp [cob, up2, upd, h])
  | 3, hn => rfl
  | 4, hn => rfl
  | 5, hn => rfl
  | 6, hn => rfl
  | 7, hn => rfl
  | 8, hn => rfl
  | 9, hn => rfl
  | 10, hn => (by simp only [cob]; rw [up2_ne (by omega)])
  | 11, hn => rfl
  | 12, hn => rfl
  | _ + 13, _ => rfl
theorem cu_9 {i : Nat} {v : Int32} : ∀ k' i', ¬ (k' = 2 ∧ i' = i) → cob G ad (up2 x 9 i v) y z k' i' = cob G ad x y z k' i' := fun k' i' hn => match k', hn with
  | 0, hn => rfl
  | 1, hn => rfl
  | 2, hn => (by have h : i' ≠ i := fun q => hn ⟨rfl, q⟩; simp [cob, up2, upd, h])
  | 3, hn => rfl
  | 4, hn => rfl
  | 5, hn => rfl
  | 6, hn => rfl
  | 7, hn => rfl
  | 8, hn => rfl
  | 9, hn => rfl
  | 10, hn => (by simp only [cob]; rw [up2_ne (by omega)])
  | 11, hn => rfl
  | 12, hn => rfl
  | _ + 13, _ => rfl
theorem cu_10 {i : Nat} {v : Int32} : ∀ k' i', ¬ (k' = 2 ∧ i' = i) → cob G ad (up2 x 10 i v) y z k' i' = cob G ad x y z k' i' := fun k' i' hn => match k', hn with
  | 0, hn => rfl
  | 1, hn => rfl
  | 2, hn => (by have h : i' ≠ i := fun q => hn ⟨rfl, q⟩; simp [cob, up2, upd, h])
  | 3, hn => rfl
  | 4, hn => rfl
  | 5, hn => rfl
  | 6, hn => rfl
  | 7, hn => rfl
  | 8, hn => rfl
  | 9, hn => rfl
  | 10, hn => (by simp only [cob]; rw [up2_ne (by omega)])
  | 11, hn => rfl
  | 12, hn => rfl
  | _ + 13, _ => rfl
theorem cu_11 {i : Nat} {v : Int32} : ∀ k' i', ¬ (k' = 2 ∧ i' = i) → cob G ad (up2 x 11 i v) y z k' i' = cob G ad x y z k' i' := fun k' i' hn => match k', hn with
  | 0, hn => rfl
  | 1, hn => rfl
  | 2, hn => (by have h : i' ≠ i := fun q => hn ⟨rfl, q⟩; simp [cob, up2, upd, h])
  | 3, hn => rfl
  | 4, hn => rfl
  | 5, hn => rfl
  | 6, hn => rfl
  | 7, hn => rfl
  | 8, hn => rfl
  | 9, hn => rfl
  | 10, hn => (by simp only [cob]; rw [up2_ne (by omega)])
  | 11, hn => rfl
  | 12, hn => rfl
  | _ + 13, _ => rfl
theorem cu_12 {i : Nat} {v : Int32} : ∀ k' i', ¬ (k' = 3 ∧ i' = i) → cob G ad (up2 x 12 i v) y z k' i' = cob G ad x y z k' i' := fun k' i' hn => match k', hn with
  | 0, hn => rfl
  | 1, hn => rfl
  | 2, hn => rfl
  | 3, hn => (by have h : i' ≠ i := fun q => hn ⟨rfl, q⟩; simp [cob, up2, upd, h])
  | 4, hn => rfl
  | 5, hn => rfl
  | 6, hn => rfl
  | 7, hn => rfl
  | 8, hn => rfl
  | 9, hn => rfl
  | 10, hn => (by simp only [cob]; rw [up2_ne (by omega)])
  | 11, hn => rfl
  | 12, hn => rfl
  | _ + 13, _ => rfl
theorem cu_13 {i : Nat} {v : Int32} : ∀ k' i', ¬ (k' = 3 ∧ i' = i) → cob G ad (up2 x 13 i v) y z k' i' = cob G ad x y z k' i' := fun k' i' hn => match k', hn with
  | 0, hn => rfl
  | 1, hn => rfl
  | 2, hn => rfl
  | 3, hn => (by have h : i' ≠ i := fun q => hn ⟨rfl, q⟩; simp [cob, up2, upd, h])
  | 4, hn => rfl
  | 5, hn => rfl
  | 6, hn => rfl
  | 7, hn => rfl
  | 8, hn => rfl
  | 9, hn => rfl
  | 10, hn => (by simp only [cob]; rw [up2_ne (by omega)])
  | 11, hn => rfl
  | 12, hn => rfl
  | _ + 13, _ => rfl
theorem cu_14 {i : Nat} {v : Int32} : ∀ k' i', ¬ (k' = 3 ∧ i' = i) → cob G ad (up2 x 14 i v) y z k' i' = cob G ad x y z k' i' := fun k' i' hn => match k', hn with
  | 0, hn => rfl
  | 1, hn => rfl
  | 2, hn => rfl
  | 3, hn => (by have h : i' ≠ i := fun q => hn ⟨rfl, q⟩; simp [cob, up2, upd, h])
  | 4, hn => rfl
  | 5, hn => rfl
  | 6, hn => rfl
  | 7, hn => rfl
  | 8, hn => rfl
  | 9, hn => rfl
  | 10, hn => (by simp only [cob]; rw [up2_ne (by omega)])
  | 11, hn => rfl
  | 12, hn => rfl
  | _ + 13, _ => rfl
theorem cu_15 {i : Nat} {v : Int32} : ∀ k' i', ¬ (k' = 3 ∧ i' = i) → cob G ad (up2 x 15 i v) y z k' i' = cob G ad x y z k' i' := fun k' i' hn => match k', hn with
  | 0, hn => rfl
  | 1, hn => rfl
  | 2, hn => rfl
  | 3, hn => (by have h : i' ≠ i := fun q => hn ⟨rfl, q⟩; simp [cob, up2, upd, h])
  | 4, hn => rfl
  | 5, hn => rfl
  | 6, hn => rfl
  | 7, hn => rfl
  | 8, hn => rfl
  | 9, hn => rfl
  | 10, hn => (by simp only [cob]; rw [up2_ne (by omega)])
  | 11, hn => rfl
  | 12, hn => rfl
  | _ + 13, _ => rfl
theorem cu_16 {i : Nat} {v : Int32} : ∀ k' i', ¬ (k' = 4 ∧ i' = i) → cob G ad (up2 x 16 i v) y z k' i' = cob G ad x y z k' i' := fun k' i' hn => match k', hn with
  | 0, hn => rfl
  | 1, hn => rfl
  | 2, hn => rfl
  | 3, hn => rfl
  | 4, hn => (by have h : i' ≠ i := fun q => hn ⟨rfl, q⟩; simp [cob, up2, upd, h])
  | 5, hn => rfl
  | 6, hn => rfl
  | 7, hn => rfl
  | 8, hn => rfl
  | 9, hn => rfl
  | 10, hn => (by simp only [cob]; rw [up2_ne (by omega)])
  | 11, hn => rfl
  | 12, hn => rfl
  | _ + 13, _ => rfl
theorem cu_17 {i : Nat} {v : Int32} : ∀ k' i', ¬ (k' = 4 ∧ i' = i) → cob G ad (up2 x 17 i v) y z k' i' = cob G ad x y z k' i' := fun k' i' hn => match k', hn with
  | 0, hn => rfl
  | 1, hn => rfl
  | 2, hn => rfl
  | 3, hn => rfl
  | 4, hn => (by have h : i' ≠ i := fun q => hn ⟨rfl, q⟩; simp [cob, up2, upd, h])
  | 5, hn => rfl
  | 6, hn => rfl
  | 7, hn => rfl
  | 8, hn => rfl
  | 9, hn => rfl
  | 10, hn => (by simp only [cob]; rw [up2_ne (by omega)])
  | 11, hn => rfl
  | 12, hn => rfl
  | _ + 13, _ => rfl
theorem cu_18 {i : Nat} {v : Int32} : ∀ k' i', ¬ (k' = 4 ∧ i' = i) → cob G ad (up2 x 18 i v) y z k' i' = cob G ad x y z k' i' := fun k' i' hn => match k', hn with
  | 0, hn => rfl
  | 1, hn => rfl
  | 2, hn => rfl
  | 3, hn => rfl
  | 4, hn => (by have h : i' ≠ i := fun q => hn ⟨rfl, q⟩; simp [cob, up2, upd, h])
  | 5, hn => rfl
  | 6, hn => rfl
  | 7, hn => rfl
  | 8, hn => rfl
  | 9, hn => rfl
  | 10, hn => (by simp only [cob]; rw [up2_ne (by omega)])
  | 11, hn => rfl
  | 12, hn => rfl
  | _ + 13, _ => rfl
theorem cu_19 {i : Nat} {v : Int32} : ∀ k' i', ¬ (k' = 4 ∧ i' = i) → cob G ad (up2 x 19 i v) y z k' i' = cob G ad x y z k' i' := fun k' i' hn => match k', hn with
  | 0, hn => rfl
  | 1, hn => rfl
  | 2, hn => rfl
  | 3, hn => rfl
  | 4, hn => (by have h : i' ≠ i := fun q => hn ⟨rfl, q⟩; simp [cob, up2, upd, h])
  | 5, hn => rfl
  | 6, hn => rfl
  | 7, hn => rfl
  | 8, hn => rfl
  | 9, hn => rfl
  | 10, hn => (by simp only [cob]; rw [up2_ne (by omega)])
  | 11, hn => rfl
  | 12, hn => rfl
  | _ + 13, _ => rfl
theorem cu_20 {i : Nat} {v : Int32} : ∀ k' i', ¬ (k' = 4 ∧ i' = i) → cob G ad (up2 x 20 i v) y z k' i' = cob G ad x y z k' i' := fun k' i' hn => match k', hn with
  | 0, hn => rfl
  | 1, hn => rfl
  | 2, hn => rfl
  | 3, hn => rfl
  | 4, hn => (by have h : i' ≠ i := fun q => hn ⟨rfl, q⟩; simp [cob, up2, upd, h])
  | 5, hn => rfl
  | 6, hn => rfl
  | 7, hn => rfl
  | 8, hn => rfl
  | 9, hn => rfl
  | 10, hn => (by simp only [cob]; rw [up2_ne (by omega)])
  | 11, hn => rfl
  | 12, hn => rfl
  | _ + 13, _ => rfl
theorem cu_21 {i : Nat} {v : Int32} : ∀ k' i', ¬ (k' = 4 ∧ i' = i) → cob G ad (up2 x 21 i v) y z k' i' = cob G ad x y z k' i' := fun k' i' hn => match k', hn with
  | 0, hn => rfl
  | 1, hn => rfl
  | 2, hn => rfl
  | 3, hn => rfl
  | 4, hn => (by have h : i' ≠ i := fun q => hn ⟨rfl, q⟩; simp [cob, up2, upd, h])
  | 5, hn => rfl
  | 6, hn => rfl
  | 7, hn => rfl
  | 8, hn => rfl
  | 9, hn => rfl
  | 10, hn => (by simp only [cob]; rw [up2_ne (by omega)])
  | 11, hn => rfl
  | 12, hn => rfl
  | _ + 13, _ => rfl
theorem cu_22 {i : Nat} {v : Int32} : ∀ k' i', ¬ (k' = 5 ∧ i' = i) → cob G ad (up2 x 22 i v) y z k' i' = cob G ad x y z k' i' := fun k' i' hn => match k', hn with
  | 0, hn => rfl
  | 1, hn => rfl
  | 2, hn => rfl
  | 3, hn => rfl
  | 4, hn => rfl
  | 5, hn => (by have h : i' ≠ i := fun q => hn ⟨rfl, q⟩; simp [cob, up2, upd, h])
  | 6, hn => rfl
  | 7, hn => rfl
  | 8, hn => rfl
  | 9, hn => rfl
  | 10, hn => (by simp only [cob]; rw [up2_ne (by omega)])
  | 11, hn => rfl
  | 12, hn => rfl
  | _ + 13, _ => rfl
theorem cu_23 {i : Nat} {v : Int32} : ∀ k' i', ¬ (k' = 5 ∧ i' = i) → cob G ad (up2 x 23 i v) y z k' i' = cob G ad x y z k' i' := fun k' i' hn => match k', hn with
  | 0, hn => rfl
  | 1, hn => rfl
  | 2, hn => rfl
  | 3, hn => rfl
  | 4, hn => rfl
  | 5, hn => (by have h : i' ≠ i := fun q => hn ⟨rfl, q⟩; simp [cob, up2, upd, h])
  | 6, hn => rfl
  | 7, hn => rfl
  | 8, hn => rfl
  | 9, hn => rfl
  | 10, hn => (by simp only [cob]; rw [up2_ne (by omega)])
  | 11, hn => rfl
  | 12, hn => rfl
  | _ + 13, _ => rfl
theorem cu_24 {i : Nat} {v : Int32} : ∀ k' i', ¬ (k' = 5 ∧ i' = i) → cob G ad (up2 x 24 i v) y z k' i' = cob G ad x y z k' i' := fun k' i' hn => match k', hn with
  | 0, hn => rfl
  | 1, hn => rfl
  | 2, hn => rfl
  | 3, hn => rfl
  | 4, hn => rfl
  | 5, hn => (by have h : i' ≠ i := fun q => hn ⟨rfl, q⟩; simp [cob, up2, upd, h])
  | 6, hn => rfl
  | 7, hn => rfl
  | 8, hn => rfl
  | 9, hn => rfl
  | 10, hn => (by simp only [cob]; rw [up2_ne (by omega)])
  | 11, hn => rfl
  | 12, hn => rfl
  | _ + 13, _ => rfl
theorem cu_25 {i : Nat} {v : Int32} : ∀ k' i', ¬ (k' = 5 ∧ i' = i) → cob G ad (up2 x 25 i v) y z k' i' = cob G ad x y z k' i' := fun k' i' hn => match k', hn with
  | 0, hn => rfl
  | 1, hn => rfl
  | 2, hn => rfl
  | 3, hn => rfl
  | 4, hn => rfl
  | 5, hn => (by have h : i' ≠ i := fun q => hn ⟨rfl, q⟩; simp [cob, up2, upd, h])
  | 6, hn => rfl
  | 7, hn => rfl
  | 8, hn => rfl
  | 9, hn => rfl
  | 10, hn => (by simp only [cob]; rw [up2_ne (by omega)])
  | 11, hn => rfl
  | 12, hn => rfl
  | _ + 13, _ => rfl
theorem cu_26 {i : Nat} {v : Int32} : ∀ k' i', ¬ (k' = 5 ∧ i' = i) → cob G ad (up2 x 26 i v) y z k' i' = cob G ad x y z k' i' := fun k' i' hn => match k', hn with
  | 0, hn => rfl
  | 1, hn => rfl
  | 2, hn => rfl
  | 3, hn => rfl
  | 4, hn => rfl
  | 5, hn => (by have h : i' ≠ i := fun q => hn ⟨rfl, q⟩; simp [cob, up2, upd, h])
  | 6, hn => rfl
  | 7, hn => rfl
  | 8, hn => rfl
  | 9, hn => rfl
  | 10, hn => (by simp only [cob]; rw [up2_ne (by omega)])
  | 11, hn => rfl
  | 12, hn => rfl
  | _ + 13, _ => rfl
theorem cu_27 {i : Nat} {v : Int32} : ∀ k' i', ¬ (k' = 5 ∧ i' = i) → cob G ad (up2 x 27 i v) y z k' i' = cob G ad x y z k' i' := fun k' i' hn => match k', hn with
  | 0, hn => rfl
  | 1, hn => rfl
  | 2, hn => rfl
  | 3, hn => rfl
  | 4, hn => rfl
  | 5, hn => (by have h : i' ≠ i := fun q => hn ⟨rfl, q⟩; simp [cob, up2, upd, h])
  | 6, hn => rfl
  | 7, hn => rfl
  | 8, hn => rfl
  | 9, hn => rfl
  | 10, hn => (by simp only [cob]; rw [up2_ne (by omega)])
  | 11, hn => rfl
  | 12, hn => rfl
  | _ + 13, _ => rfl
theorem cu_28 {i : Nat} {v : Int32} : ∀ k' i', ¬ (k' = 5 ∧ i' = i) → cob G ad (up2 x 28 i v) y z k' i' = cob G ad x y z k' i' := fun k' i' hn => match k', hn with
  | 0, hn => rfl
  | 1, hn => rfl
  | 2, hn => rfl
  | 3, hn => rfl
  | 4, hn => rfl
  | 5, hn => (by have h : i' ≠ i := fun q => hn ⟨rfl, q⟩; simp [cob, up2, upd, h])
  | 6, hn => rfl
  | 7, hn => rfl
  | 8, hn => rfl
  | 9, hn => rfl
  | 10, hn => (by simp only [cob]; rw [up2_ne (by omega)])
  | 11, hn => rfl
  | 12, hn => rfl
  | _ + 13, _ => rfl
theorem cu_36 {i : Nat} {v : Int32} : ∀ k' i', ¬ (k' = 7 ∧ i' = i) → cob G ad (up2 x 36 i v) y z k' i' = cob G ad x y z k' i' := fun k' i' hn => match k', hn with
  | 0, hn => rfl
  | 1, hn => rfl
  | 2, hn => rfl
  | 3, hn => rfl
  | 4, hn => rfl
  | 5, hn => rfl
  | 6, hn => rfl
  | 7, hn => (by have h : i' ≠ i := fun q => hn ⟨rfl, q⟩; simp [cob, up2, upd, h])
  | 8, hn => rfl
  | 9, hn => rfl
  | 10, hn => (by simp only [cob]; rw [up2_ne (by omega)])
  | 11, hn => rfl
  | 12, hn => rfl
  | _ + 13, _ => rfl
theorem cu_37 {i : Nat} {v : Int32} : ∀ k' i', ¬ (k' = 9 ∧ i' = i) → cob G ad (up2 x 37 i v) y z k' i' = cob G ad x y z k' i' := fun k' i' hn => match k', hn with
  | 0, hn => rfl
  | 1, hn => rfl
  | 2, hn => rfl
  | 3, hn => rfl
  | 4, hn => rfl
  | 5, hn => rfl
  | 6, hn => rfl
  | 7, hn => rfl
  | 8, hn => rfl
  | 9, hn => (by have h : i' ≠ i := fun q => hn ⟨rfl, q⟩; simp [cob, up2, upd, h])
  | 10, hn => (by simp only [cob]; rw [up2_ne (by omega)])
  | 11, hn => rfl
  | 12, hn => rfl
  | _ + 13, _ => rfl
theorem cu_38 {i : Nat} {v : Int32} : ∀ k' i', ¬ (k' = 9 ∧ i' = i) → cob G ad (up2 x 38 i v) y z k' i' = cob G ad x y z k' i' := fun k' i' hn => match k', hn with
  | 0, hn => rfl
  | 1, hn => rfl
  | 2, hn => rfl
  | 3, hn => rfl
  | 4, hn => rfl
  | 5, hn => rfl
  | 6, hn => rfl
  | 7, hn => rfl
  | 8, hn => rfl
  | 9, hn => (by have h : i' ≠ i := fun q => hn ⟨rfl, q⟩; simp [cob, up2, upd, h])
  | 10, hn => (by simp only [cob]; rw [up2_ne (by omega)])
  | 11, hn => rfl
  | 12, hn => rfl
  | _ + 13, _ => rfl
theorem cu_39 {i : Nat} {v : Int32} : ∀ k' i', ¬ (k' = 9 ∧ i' = i) → cob G ad (up2 x 39 i v) y z k' i' = cob G ad x y z k' i' := fun k' i' hn => match k', hn with
  | 0, hn => rfl
  | 1, hn => rfl
  | 2, hn => rfl
  | 3, hn => rfl
  | 4, hn => rfl
  | 5, hn => rfl
  | 6, hn => rfl
  | 7, hn => rfl
  | 8, hn => rfl
  | 9, hn => (by have h : i' ≠ i := fun q => hn ⟨rfl, q⟩; simp [cob, up2, upd, h])
  | 10, hn => (by simp only [cob]; rw [up2_ne (by omega)])
  | 11, hn => rfl
  | 12, hn => rfl
  | _ + 13, _ => rfl
theorem cu_40 {i : Nat} {v : Int32} : ∀ k' i', ¬ (k' = 9 ∧ i' = i) → cob G ad (up2 x 40 i v) y z k' i' = cob G ad x y z k' i' := fun k' i' hn => match k', hn with
  | 0, hn => rfl
  | 1, hn => rfl
  | 2, hn => rfl
  | 3, hn => rfl
  | 4, hn => rfl
  | 5, hn => rfl
  | 6, hn => rfl
  | 7, hn => rfl
  | 8, hn => rfl
  | 9, hn => (by have h : i' ≠ i := fun q => hn ⟨rfl, q⟩; simp [cob, up2, upd, h])
  | 10, hn => (by simp only [cob]; rw [up2_ne (by omega)])
  | 11, hn => rfl
  | 12, hn => rfl
  | _ + 13, _ => rfl
theorem cu_41 {i : Nat} {v : Int32} : ∀ k' i', ¬ (k' = 9 ∧ i' = i) → cob G ad (up2 x 41 i v) y z k' i' = cob G ad x y z k' i' := fun k' i' hn => match k', hn with
  | 0, hn => rfl
  | 1, hn => rfl
  | 2, hn => rfl
  | 3, hn => rfl
  | 4, hn => rfl
  | 5, hn => rfl
  | 6, hn => rfl
  | 7, hn => rfl
  | 8, hn => rfl
  | 9, hn => (by have h : i' ≠ i := fun q => hn ⟨rfl, q⟩; simp [cob, up2, upd, h])
  | 10, hn => (by simp only [cob]; rw [up2_ne (by omega)])
  | 11, hn => rfl
  | 12, hn => rfl
  | _ + 13, _ => rfl
theorem cu_42 {i : Nat} {v : Int32} : ∀ k' i', ¬ (k' = 9 ∧ i' = i) → cob G ad (up2 x 42 i v) y z k' i' = cob G ad x y z k' i' := fun k' i' hn => match k', hn with
  | 0, hn => rfl
  | 1, hn => rfl
  | 2, hn => rfl
  | 3, hn => rfl
  | 4, hn => rfl
  | 5, hn => rfl
  | 6, hn => rfl
  | 7, hn => rfl
  | 8, hn => rfl
  | 9, hn => (by have h : i' ≠ i := fun q => hn ⟨rfl, q⟩; simp [cob, up2, upd, h])
  | 10, hn => (by simp only [cob]; rw [up2_ne (by omega)])
  | 11, hn => rfl
  | 12, hn => rfl
  | _ + 13, _ => rfl
theorem cu_43 {i : Nat} {v : Int32} : ∀ k' i', ¬ (k' = 9 ∧ i' = i) → cob G ad (up2 x 43 i v) y z k' i' = cob G ad x y z k' i' := fun k' i' hn => match k', hn with
  | 0, hn => rfl
  | 1, hn => rfl
  | 2, hn => rfl
  | 3, hn => rfl
  | 4, hn => rfl
  | 5, hn => rfl
  | 6, hn => rfl
  | 7, hn => rfl
  | 8, hn => rfl
  | 9, hn => (by have h : i' ≠ i := fun q => hn ⟨rfl, q⟩; simp [cob, up2, upd, h])
  | 10, hn => (by simp only [cob]; rw [up2_ne (by omega)])
  | 11, hn => rfl
  | 12, hn => rfl
  | _ + 13, _ => rfl
end CW
