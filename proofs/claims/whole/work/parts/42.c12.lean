section CX2
variable {G : GG} {A : Nat → Prop} {ad ad' : YY} {x x' : XX} {y y' : YY} {z z' : Nat → Int64} {H H1 : Heap}
theorem CWd.kp (h : CWd G A ad x y z H) (o : ∀ k i, lv y k i → H1[ad k i]? = H[ad k i]?) (h6 : H1[G.2 6]? = H[G.2 6]?) (h8 : H1[G.2 8]? = H[G.2 8]?) : CWd G A ad x y z H1 :=
  ⟨fun k i hl => ⟨(h.1 k i hl).1.kept (o k i hl), (h.1 k i hl).2⟩, h.2.1, h.2.2.1.kept h6 h8, h.2.2.2⟩
/-- a world with new things: sp tells where they lie -/
theorem CWd.ext (sp : List (Nat × Nat × Nat)) (h : CWd G A ad x y z H) (hk : ∀ k i, lv y' k i → (lv y k i ∧ ad' k i = ad k i ∧ (cob G ad' x' y' z' k i = cob G ad x y z k i ∧ H1[ad k i]? = H[ad k i]? ∨ va_at G.1 vwCl (ad k i, cob G ad' x' y' z' k i) H1)) ∨ (∃ v, (k, i, v) ∈ sp ∧ ad' k i = v ∧ H.size ≤ v ∧ va_at G.1 vwCl (v, cob G ad' x' y' z' k i) H1 ∧ A v)) (hd : ∀ k i v k' i' v', (k, i, v) ∈ sp → (k', i', v') ∈ sp → v = v' → k = k' ∧ i = i') (h6 : H1[G.2 6]? = H[G.2 6]?) (h8 : H1[G.2 8]? = H[G.2 8]?) : CWd G A ad' x' y' z' H1 := by
  refine ⟨fun k i hl => ?_, fun k i k' i' h1 h2 q => ?_, h.2.2.1.kept h6 h8, h.2.2.2⟩
  · rcases hk k i hl with ⟨l0, e1, e2⟩ | ⟨v, -, e1, -, h1, h2⟩
    · rcases e2 with ⟨e2, e3⟩ | e2
      · rw [e1, e2]; exact ⟨(h.1 k i l0).1.kept e3, (h.1 k i l0).2⟩
      · rw [e1]; exact ⟨e2, (h.1 k i l0).2⟩
    · rw [e1]; exact ⟨h1, h2⟩
  · rcases hk k i h1 with ⟨l0, e1, -⟩ | ⟨v, hm, e1, s1, -⟩
    · have lt0 := (h.1 k i l0).1.lt
      rcases hk k' i' h2 with ⟨l0', e1', -⟩ | ⟨v', hm', e1', s1', -⟩
      · exact h.2.1 k i k' i' l0 l0' (by rw [← e1, ← e1', q])
      · exact absurd lt0 (by show ¬ ad k i < H.size; rw [← e1, q, e1']; omega)
    · rcases hk k' i' h2 with ⟨l0', e1', -⟩ | ⟨v', hm', e1', s1', -⟩
      · have lt0 := (h.1 k' i' l0').1.lt
        exact absurd lt0 (by show ¬ ad k' i' < H.size; rw [← e1', ← q, e1]; omega)
      · exact hd k i v k' i' v' hm hm' (by rw [← e1, q, e1'])
def upY (y : YY) (k i v : Nat) : YY := fun k' i' => if k' = k ∧ i' = i then v else y k' i'
/-- a post more -/
def poY (y : YY) (cp : Nat) : YY := upY (upY (upY (upY y 20 0 (y 20 0 + 1)) 21 0 cp) 0 (y 20 0) 0) 1 (y 20 0) 0
def poA (ad : YY) (n q ed : Nat) : YY := upY (upY ad 3 n q) 8 0 ed
def poX (x : XX) (n : Nat) (au re ma ca : Int32) : XX := up2 (up2 (up2 (up2 (up2 x 36 0 ((x 36 0) + 1)) 12 n au) 13 n re) 14 n ma) 15 n ca

theorem CWd.addP (h : CWd G A ad x y z H) (hI : CI y) {q ed cp : Nat} {au re ma ca : Int32} (hA : ∀ r : Nat, H.size ≤ r → A r) (hq : H.size ≤ q) (hqe : q ≠ ed) (hed : (y 21 0 ≠ 0 ∧ ed = ad 8 0) ∨ H.size ≤ ed)
    (e3 : va_at G.1 vwCl (q, .inr (6, [.int (nI (y 20 0)), .int au, .int re, .int ma, .int ca, .null, .null])) H1) (e7 : va_at G.1 vwCl (ad 7 0, lob (x 36 0 + 1) ed (y 20 0 + 1)) H1) (e8 : va_at G.1 vwCl (ed, .inl (G.2 5, qs cp (va_up (fun j => if j < y 20 0 then some (ad 3 j) else none) (y 20 0) (some q)))) H1) (hcp : y 20 0 < cp) (o : ∀ r : Nat, r < H.size → r ≠ ad 7 0 → (y 21 0 ≠ 0 → r ≠ ad 8 0) → H1[r]? = H[r]?) : CWd G A (poA ad (y 20 0) q ed) (poX x (y 20 0) au re ma ca) (poY y cp) z H1 := by
  have l70 : lv y 7 0 := (by decide : 0 < 3)
  have kp : ∀ k j, lv y k j → ¬ (k = 7 ∧ j = 0) → ¬ (k = 8 ∧ j = 0) → H1[ad k j]? = H[ad k j]? := fun k j hl n1 n2 => o _ (h.1 k j hl).1.lt (fun q => n1 (h.2.1 k j 7 0 hl l70 q)) (fun h8 q => n2 (h.2.1 k j 8 0 hl ⟨by decide, h8⟩ q))
  have k6 := o _ h.l6 (fun q => h.2.2.2.1 (by rw [q]; exact (h.1 7 0 l70).2)) (fun h8 q => h.2.2.2.1 (by rw [q]; exact (h.1 8 0 ⟨by decide, h8⟩).2))
  have k8 := o _ h.l8 (fun q => h.2.2.2.2 (by rw [q]; exact (h.1 7 0 l70).2)) (fun h8 q => h.2.2.2.2 (by rw [q]; exact (h.1 8 0 ⟨by decide, h8⟩).2))
  have ef : va_up (fun j => if j < y 20 0 then some (ad 3 j) else none) (y 20 0) (some q) = (fun j => if j < y 20 0 + 1 then some ((poA ad (y 20 0) q ed) 3 j) else none) := by
    funext j
    unfold va_up
    by_cases e : j = y 20 0
    · simp [e, poA, upY]
    · rw [if_neg e]
      show (if j < y 20 0 then some (ad 3 j) else none) = _
      by_cases e2 : j < y 20 0
      · rw [if_pos e2, if_pos (by omega)]; simp [poA, upY, e]
      · rw [if_neg e2, if_neg (by omega)]
  refine CWd.ext [(3, y 20 0, q), (8, 0, ed)] h (fun k i hl => ?_) ?_ k6 k8
  · exact match k, i, hl with
    | 0, i, hl => Or.inl ⟨hl, rfl, Or.inl ⟨rfl, kp 0 i hl (by omega) (by omega)⟩⟩
    | 1, i, hl => Or.inl ⟨hl, rfl, Or.inl ⟨rfl, kp 1 i hl (by omega) (by omega)⟩⟩
    | 2, i, hl => Or.inl ⟨hl, rfl, Or.inl ⟨rfl, kp 2 i hl (by omega) (by omega)⟩⟩
    | 3, i, hl => by
        by_cases e : i = y 20 0
        · subst e
          refine Or.inr ⟨q, by simp, by simp [poA, upY], hq, ?_, hA _ hq⟩
          have ec : cob G (poA ad (y 20 0) q ed) (poX x (y 20 0) au re ma ca) (poY y cp) z 3 (y 20 0) = .inr (6, [.int (nI (y 20 0)), .int au, .int re, .int ma, .int ca, .null, .null]) := by simp [cob, poX, poY, upY, up2, upd, opt]
          rw [ec]; exact e3
        · have hl : i < y 20 0 + 1 := hl
          have hl2 : lv y 3 i := (show i < y 20 0 by omega)
          refine Or.inl ⟨hl2, by simp [poA, upY, e], Or.inl ⟨?_, kp 3 i hl2 (by omega) (by omega)⟩⟩
          have ea : poA ad (y 20 0) q ed 4 = ad 4 := rfl
          simp [cob, poX, poY, upY, up2, upd, ea, e]
    | 4, i, hl => Or.inl ⟨hl, rfl, Or.inl ⟨by
        have e := (hI.1 i hl).1
        have ea : (poA ad (y 20 0) q ed) 3 (y 2 i) = ad 3 (y 2 i) := by show (if (3 : Nat) = 3 ∧ y 2 i = y 20 0 then q else ad 3 (y 2 i)) = _; rw [if_neg (by omega)]
        have e2 : cob G (poA ad (y 20 0) q ed) (poX x (y 20 0) au re ma ca) (poY y cp) z 4 i = .inr (1, [.int (nI i), .ref ((poA ad (y 20 0) q ed) 3 (y 2 i)), .ref (ad 1 (y 3 i)), .int (x 16 i), .ref (ad 5 (2 * i)), opt (fun _ => ad 5 (2 * i + 1)) (y 4 i), .int (x 17 i), .int (x 18 i), .int (x 19 i), .int (x 20 i), .int (x 21 i), opt (ad 4) (y 5 i)]) := rfl
        rw [e2, ea]; rfl, kp 4 i hl (by omega) (by omega)⟩⟩
    | 5, i, hl => Or.inl ⟨hl, rfl, Or.inl ⟨rfl, kp 5 i hl (by omega) (by omega)⟩⟩
    | 6, i, hl => Or.inl ⟨hl, rfl, Or.inl ⟨rfl, kp 6 i hl (by omega) (by omega)⟩⟩
    | 7, 0, hl => Or.inl ⟨hl, rfl, Or.inr (by show va_at _ _ (ad 7 0, lob (x 36 0 + 1) (if cp = 0 then G.2 8 else ed) (y 20 0 + 1)) H1; rw [if_neg (by omega)]; exact e7)⟩
    | 7, 1, hl => Or.inl ⟨hl, rfl, Or.inl ⟨rfl, kp 7 1 hl (by omega) (by omega)⟩⟩
    | 7, 2, hl => Or.inl ⟨hl, rfl, Or.inl ⟨rfl, kp 7 2 hl (by omega) (by omega)⟩⟩
    | 7, i + 3, hl => absurd (show i + 3 < 3 from hl) (by omega)
    | 8, 0, hl => hed.elim (fun h9 => Or.inl ⟨⟨by decide, h9.1⟩, h9.2, Or.inr (by rw [← h9.2]; rw [ef] at e8; exact e8)⟩) (fun h9 => Or.inr ⟨ed, by simp, rfl, h9, (by rw [ef] at e8; exact e8), hA _ h9⟩)
    | 8, 1, hl => Or.inl ⟨hl, rfl, Or.inl ⟨rfl, kp 8 1 hl (by omega) (by omega)⟩⟩
    | 8, 2, hl => Or.inl ⟨hl, rfl, Or.inl ⟨rfl, kp 8 2 hl (by omega) (by omega)⟩⟩
    | 8, i + 3, hl => absurd (show i + 3 < 3 from hl.1) (by omega)
    | 9, i, hl => Or.inl ⟨hl, rfl, Or.inl ⟨rfl, kp 9 i hl (by omega) (by omega)⟩⟩
    | 10, i, hl => Or.inl ⟨hl, rfl, Or.inl ⟨by simp only [cob]; unfold poX; rw [up2_ne (by omega), up2_ne (by omega), up2_ne (by omega), up2_ne (by omega), up2_ne (by omega)], kp 10 i hl (by omega) (by omega)⟩⟩
    | 11, i, hl => Or.inl ⟨hl, rfl, Or.inl ⟨rfl, kp 11 i hl (by omega) (by omega)⟩⟩
    | 12, i, hl => Or.inl ⟨hl, rfl, Or.inl ⟨rfl, kp 12 i hl (by omega) (by omega)⟩⟩
    | _ + 13, i, hl => hl.elim
  · intro k i v k' i' v' h1 h2 e
    simp only [List.mem_cons, List.not_mem_nil, or_false, Prod.mk.injEq] at h1 h2
    rcases h1 with ⟨rfl, rfl, rfl⟩ | ⟨rfl, rfl, rfl⟩ <;> rcases h2 with ⟨rfl, rfl, rfl⟩ | ⟨rfl, rfl, rfl⟩ <;> first | exact ⟨rfl, rfl⟩ | exact absurd e hqe | exact absurd e.symm hqe
/-- a gift more -/
def giY (y : YY) (cp j c : Nat) : YY := upY (upY (upY (upY y 20 2 (y 20 2 + 1)) 21 2 cp) 6 (y 20 2) j) 7 (y 20 2) c
def giA (ad : YY) (n q ed : Nat) : YY := upY (upY ad 6 n q) 8 2 ed
theorem CWd.addG (h : CWd G A ad x y z H) (hI : CI y) {q ed cp : Nat} {j0 c0 : Nat} (hA : ∀ r : Nat, H.size ≤ r → A r) (hq : H.size ≤ q) (hqe : q ≠ ed) (hed : (y 21 2 ≠ 0 ∧ ed = ad 8 2) ∨ H.size ≤ ed)
    (e3 : va_at G.1 vwCl (q, .inr (2, [.ref (ad 2 j0), .ref (ad 4 c0)])) H1) (e7 : va_at G.1 vwCl (ad 7 2, lob (x 36 2 + 1) ed (y 20 2 + 1)) H1) (e8 : va_at G.1 vwCl (ed, .inl (G.2 5, qs cp (va_up (fun j => if j < y 20 2 then some (ad 6 j) else none) (y 20 2) (some q)))) H1) (hcp : y 20 2 < cp) (o : ∀ r : Nat, r < H.size → r ≠ ad 7 2 → (y 21 2 ≠ 0 → r ≠ ad 8 2) → H1[r]? = H[r]?) : CWd G A (giA ad (y 20 2) q ed) (up2 x 36 2 ((x 36 2) + 1)) (giY y cp j0 c0) z H1 := by
  have l70 : lv y 7 2 := (by decide : 2 < 3)
  have kp : ∀ k j, lv y k j → ¬ (k = 7 ∧ j = 2) → ¬ (k = 8 ∧ j = 2) → H1[ad k j]? = H[ad k j]? := fun k j hl n1 n2 => o _ (h.1 k j hl).1.lt (fun q => n1 (h.2.1 k j 7 2 hl l70 q)) (fun h8 q => n2 (h.2.1 k j 8 2 hl ⟨by decide, h8⟩ q))
  have k6 := o _ h.l6 (fun q => h.2.2.2.1 (by rw [q]; exact (h.1 7 2 l70).2)) (fun h8 q => h.2.2.2.1 (by rw [q]; exact (h.1 8 2 ⟨by decide, h8⟩).2))
  have k8 := o _ h.l8 (fun q => h.2.2.2.2 (by rw [q]; exact (h.1 7 2 l70).2)) (fun h8 q => h.2.2.2.2 (by rw [q]; exact (h.1 8 2 ⟨by decide, h8⟩).2))
  have ef : va_up (fun j => if j < y 20 2 then some (ad 6 j) else none) (y 20 2) (some q) = (fun j => if j < y 20 2 + 1 then some ((giA ad (y 20 2) q ed) 6 j) else none) := by
    funext j
    unfold va_up
    by_cases e : j = y 20 2
    · simp [e, giA, upY]
    · rw [if_neg e]
      show (if j < y 20 2 then some (ad 6 j) else none) = _
      by_cases e2 : j < y 20 2
      · rw [if_pos e2, if_pos (by omega)]; simp [giA, upY, e]
      · rw [if_neg e2, if_neg (by omega)]
  refine CWd.ext [(6, y 20 2, q), (8, 2, ed)] h (fun k i hl => ?_) ?_ k6 k8
  · exact match k, i, hl with
    | 0, i, hl => Or.inl ⟨hl, rfl, Or.inl ⟨rfl, kp 0 i hl (by omega) (by omega)⟩⟩
    | 1, i, hl => Or.inl ⟨hl, rfl, Or.inl ⟨rfl, kp 1 i hl (by omega) (by omega)⟩⟩
    | 2, i, hl => Or.inl ⟨hl, rfl, Or.inl ⟨rfl, kp 2 i hl (by omega) (by omega)⟩⟩
    | 3, i, hl => Or.inl ⟨hl, rfl, Or.inl ⟨rfl, kp 3 i hl (by omega) (by omega)⟩⟩
    | 4, i, hl => Or.inl ⟨hl, rfl, Or.inl ⟨rfl, kp 4 i hl (by omega) (by omega)⟩⟩
    | 5, i, hl => Or.inl ⟨hl, rfl, Or.inl ⟨rfl, kp 5 i hl (by omega) (by omega)⟩⟩
    | 6, i, hl => by
        by_cases e : i = y 20 2
        · subst e
          refine Or.inr ⟨q, by simp, by simp [giA, upY], hq, ?_, hA _ hq⟩
          have ec : cob G (giA ad (y 20 2) q ed) (up2 x 36 2 ((x 36 2) + 1)) (giY y cp j0 c0) z 6 (y 20 2) = .inr (2, [.ref (ad 2 j0), .ref (ad 4 c0)]) := by simp [cob, giY, giA, upY]
          rw [ec]; exact e3
        · have hl : i < y 20 2 + 1 := hl
          have hl2 : lv y 6 i := (show i < y 20 2 by omega)
          refine Or.inl ⟨hl2, by simp [giA, upY, e], Or.inl ⟨?_, kp 6 i hl2 (by omega) (by omega)⟩⟩
          simp [cob, giY, giA, upY, e]
    | 7, 0, hl => Or.inl ⟨hl, rfl, Or.inl ⟨rfl, kp 7 0 hl (by omega) (by omega)⟩⟩
    | 7, 1, hl => Or.inl ⟨hl, rfl, Or.inl ⟨rfl, kp 7 1 hl (by omega) (by omega)⟩⟩
    | 7, 2, hl => Or.inl ⟨hl, rfl, Or.inr (by show va_at _ _ (ad 7 2, lob (x 36 2 + 1) (if cp = 0 then G.2 8 else ed) (y 20 2 + 1)) H1; rw [if_neg (by omega)]; exact e7)⟩
    | 7, i + 3, hl => absurd (show i + 3 < 3 from hl) (by omega)
    | 8, 0, hl => Or.inl ⟨hl, rfl, Or.inl ⟨rfl, kp 8 0 hl (by omega) (by omega)⟩⟩
    | 8, 1, hl => Or.inl ⟨hl, rfl, Or.inl ⟨rfl, kp 8 1 hl (by omega) (by omega)⟩⟩
    | 8, 2, hl => hed.elim (fun h9 => Or.inl ⟨⟨by decide, h9.1⟩, h9.2, Or.inr (by rw [← h9.2]; rw [ef] at e8; exact e8)⟩) (fun h9 => Or.inr ⟨ed, by simp, rfl, h9, (by rw [ef] at e8; exact e8), hA _ h9⟩)
    | 8, i + 3, hl => absurd (show i + 3 < 3 from hl.1) (by omega)
    | 9, i, hl => Or.inl ⟨hl, rfl, Or.inl ⟨rfl, kp 9 i hl (by omega) (by omega)⟩⟩
    | 10, i, hl => Or.inl ⟨hl, rfl, Or.inl ⟨by simp only [cob]; rw [up2_ne (by omega)], kp 10 i hl (by omega) (by omega)⟩⟩
    | 11, i, hl => Or.inl ⟨hl, rfl, Or.inl ⟨rfl, kp 11 i hl (by omega) (by omega)⟩⟩
    | 12, i, hl => Or.inl ⟨hl, rfl, Or.inl ⟨rfl, kp 12 i hl (by omega) (by omega)⟩⟩
    | _ + 13, i, hl => hl.elim
  · intro k i v k' i' v' h1 h2 e
    simp only [List.mem_cons, List.not_mem_nil, or_false, Prod.mk.injEq] at h1 h2
    rcases h1 with ⟨rfl, rfl, rfl⟩ | ⟨rfl, rfl, rfl⟩ <;> rcases h2 with ⟨rfl, rfl, rfl⟩ | ⟨rfl, rfl, rfl⟩ <;> first | exact ⟨rfl, rfl⟩ | exact absurd e hqe | exact absurd e.symm hqe
/-- a case more, not yet hung to its post -/
def caY (y : YY) (cp p r : Nat) : YY := upY (upY (upY (upY (upY (upY y 20 1 (y 20 1 + 1)) 21 1 cp) 2 (y 20 1) p) 3 (y 20 1) r) 4 (y 20 1) 0) 5 (y 20 1) 0
def caA (ad : YY) (n q hq ed : Nat) : YY := upY (upY (upY ad 4 n q) 5 (2 * n) hq) 8 1 ed
def caX (x : XX) (n : Nat) (g si : Int32) : XX := up2 (up2 (up2 (up2 (up2 (up2 (up2 (up2 (up2 (up2 (up2 (up2 (up2 (up2 x 36 1 ((x 36 1) + 1)) 16 n g) 17 n si) 18 n 1) 19 n 0) 20 n (-1)) 21 n 0) 22 (2 * n) (1 + (2 * g))) 23 (2 * n) 0) 24 (2 * n) 0) 25 (2 * n) 0) 26 (2 * n) 0) 27 (2 * n) 0) 28 (2 * n) 0
theorem CWd.addC (h : CWd G A ad x y z H) (hI : CI y) {q ed cp : Nat} {hh p0 r0 : Nat} {g si : Int32} (hA : ∀ r : Nat, H.size ≤ r → A r) (hq : H.size ≤ q) (hqe : q ≠ ed) (hed : (y 21 1 ≠ 0 ∧ ed = ad 8 1) ∨ H.size ≤ ed)
    (e3 : va_at G.1 vwCl (q, .inr (1, [.int (nI (y 20 1)), .ref (ad 3 p0), .ref (ad 1 r0), .int g, .ref hh, .null, .int si, .int 1, .int 0, .int (-1), .int 0, .null])) H1) (e7 : va_at G.1 vwCl (ad 7 1, lob (x 36 1 + 1) ed (y 20 1 + 1)) H1) (e8 : va_at G.1 vwCl (ed, .inl (G.2 5, qs cp (va_up (fun j => if j < y 20 1 then some (ad 4 j) else none) (y 20 1) (some q)))) H1) (hcp : y 20 1 < cp) (hhq : H.size ≤ hh) (hqh : q ≠ hh) (heh : ed ≠ hh) (e5h : va_at G.1 vwCl (hh, .inr (3, [.int (1 + (2 * g)), .int 0, .int 0, .int 0, .int 0, .int 0, .int 0])) H1) (o : ∀ r : Nat, r < H.size → r ≠ ad 7 1 → (y 21 1 ≠ 0 → r ≠ ad 8 1) → H1[r]? = H[r]?) : CWd G A (caA ad (y 20 1) q hh ed) (caX x (y 20 1) g si) (caY y cp p0 r0) z H1 := by
  have l70 : lv y 7 1 := (by decide : 1 < 3)
  have kp : ∀ k j, lv y k j → ¬ (k = 7 ∧ j = 1) → ¬ (k = 8 ∧ j = 1) → H1[ad k j]? = H[ad k j]? := fun k j hl n1 n2 => o _ (h.1 k j hl).1.lt (fun q => n1 (h.2.1 k j 7 1 hl l70 q)) (fun h8 q => n2 (h.2.1 k j 8 1 hl ⟨by decide, h8⟩ q))
  have k6 := o _ h.l6 (fun q => h.2.2.2.1 (by rw [q]; exact (h.1 7 1 l70).2)) (fun h8 q => h.2.2.2.1 (by rw [q]; exact (h.1 8 1 ⟨by decide, h8⟩).2))
  have k8 := o _ h.l8 (fun q => h.2.2.2.2 (by rw [q]; exact (h.1 7 1 l70).2)) (fun h8 q => h.2.2.2.2 (by rw [q]; exact (h.1 8 1 ⟨by decide, h8⟩).2))
  have ef : va_up (fun j => if j < y 20 1 then some (ad 4 j) else none) (y 20 1) (some q) = (fun j => if j < y 20 1 + 1 then some ((caA ad (y 20 1) q hh ed) 4 j) else none) := by
    funext j
    unfold va_up
    by_cases e : j = y 20 1
    · simp [e, caA, upY]
    · rw [if_neg e]
      show (if j < y 20 1 then some (ad 4 j) else none) = _
      by_cases e2 : j < y 20 1
      · rw [if_pos e2, if_pos (by omega)]; simp [caA, upY, e]
      · rw [if_neg e2, if_neg (by omega)]
  have oc4 : ∀ k, k ≤ y 20 1 → opt ((caA ad (y 20 1) q hh ed) 4) k = opt (ad 4) k := fun k hk => by
    cases k with
    | zero => rfl
    | succ k => show Value.ref ((caA ad (y 20 1) q hh ed) 4 k) = Value.ref (ad 4 k); rw [show (caA ad (y 20 1) q hh ed) 4 k = ad 4 k by show (if (4 : Nat) = 4 ∧ k = y 20 1 then q else ad 4 k) = _; rw [if_neg (by omega)]]
  refine CWd.ext [(4, y 20 1, q), (5, 2 * y 20 1, hh), (8, 1, ed)] h (fun k i hl => ?_) ?_ k6 k8
  · exact match k, i, hl with
    | 0, i, hl => Or.inl ⟨hl, rfl, Or.inl ⟨rfl, kp 0 i hl (by omega) (by omega)⟩⟩
    | 1, i, hl => Or.inl ⟨hl, rfl, Or.inl ⟨rfl, kp 1 i hl (by omega) (by omega)⟩⟩
    | 2, i, hl => Or.inl ⟨hl, rfl, Or.inl ⟨rfl, kp 2 i hl (by omega) (by omega)⟩⟩
    | 3, i, hl => Or.inl ⟨hl, rfl, Or.inl ⟨by
        have e := hI.2.1 i hl
        have e0 : ∀ k, k ≤ y 20 1 → opt ((caA ad (y 20 1) q hh ed) 4) k = opt (ad 4) k := oc4
        have e2 : cob G (caA ad (y 20 1) q hh ed) (caX x (y 20 1) g si) (caY y cp p0 r0) z 3 i = .inr (6, [.int (nI i), .int (x 12 i), .int (x 13 i), .int (x 14 i), .int (x 15 i), opt ((caA ad (y 20 1) q hh ed) 4) (y 0 i), opt ((caA ad (y 20 1) q hh ed) 4) (y 1 i)]) := rfl
        rw [e2, e0 _ e.1, e0 _ e.2]; rfl, kp 3 i hl (by omega) (by omega)⟩⟩
    | 4, i, hl => by
        by_cases e : i = y 20 1
        · subst e
          refine Or.inr ⟨q, by simp, by simp [caA, upY], hq, ?_, hA _ hq⟩
          have ec : cob G (caA ad (y 20 1) q hh ed) (caX x (y 20 1) g si) (caY y cp p0 r0) z 4 (y 20 1) = .inr (1, [.int (nI (y 20 1)), .ref (ad 3 p0), .ref (ad 1 r0), .int g, .ref hh, .null, .int si, .int 1, .int 0, .int (-1), .int 0, .null]) := by simp [cob, caX, caY, caA, upY, up2, upd, opt]
          rw [ec]; exact e3
        · have hl : i < y 20 1 + 1 := hl
          have hl2 : lv y 4 i := (show i < y 20 1 by omega)
          refine Or.inl ⟨hl2, by simp [caA, upY, e], Or.inl ⟨?_, kp 4 i hl2 (by omega) (by omega)⟩⟩
          have e0 := oc4 (y 5 i) (hI.1 i hl2).2.2
          have e5 : (caA ad (y 20 1) q hh ed) 5 (2 * i) = ad 5 (2 * i) := by simp [caA, upY]; intro h9; omega
          have e6 : (caA ad (y 20 1) q hh ed) 5 (2 * i + 1) = ad 5 (2 * i + 1) := by simp [caA, upY]; intro h9; omega
          have ey2 : (caY y cp p0 r0) 2 i = y 2 i := by simp [caY, upY, e]
          have ey3 : (caY y cp p0 r0) 3 i = y 3 i := by simp [caY, upY, e]
          have ey4 : (caY y cp p0 r0) 4 i = y 4 i := by simp [caY, upY, e]
          have ey5 : (caY y cp p0 r0) 5 i = y 5 i := by simp [caY, upY, e]
          have ex : ∀ f, f = 16 ∨ f = 17 ∨ f = 18 ∨ f = 19 ∨ f = 20 ∨ f = 21 → (caX x (y 20 1) g si) f i = x f i := by
            intro f hf
            rcases hf with hf | hf | hf | hf | hf | hf <;> subst hf <;> simp [caX, up2, upd, e]
          have e3a : (caA ad (y 20 1) q hh ed) 3 = ad 3 := rfl
          have e1a : (caA ad (y 20 1) q hh ed) 1 = ad 1 := rfl
          simp only [cob]
          rw [ey2, ey3, ey4, ey5, e5, e6, e0, e3a, e1a, ex 16 (by simp), ex 17 (by simp), ex 18 (by simp), ex 19 (by simp), ex 20 (by simp), ex 21 (by simp)]
    | 5, i, hl => by
        by_cases e : i = 2 * y 20 1
        · subst e
          refine Or.inr ⟨hh, by simp, by simp [caA, upY], hhq, ?_, hA _ hhq⟩
          have ec : cob G (caA ad (y 20 1) q hh ed) (caX x (y 20 1) g si) (caY y cp p0 r0) z 5 (2 * y 20 1) = .inr (3, [.int (1 + (2 * g)), .int 0, .int 0, .int 0, .int 0, .int 0, .int 0]) := by simp [cob, caX, up2, upd]
          rw [ec]; exact e5h
        · have hl : i / 2 < y 20 1 + 1 ∧ (i % 2 = 0 ∨ (caY y cp p0 r0) 4 (i / 2) ≠ 0) := hl
          have hl2 : lv y 5 i := by
            have h2 : i / 2 < y 20 1 := by
              rcases Nat.lt_or_ge (i / 2) (y 20 1) with h9 | h9
              · exact h9
              · have h8 : i / 2 = y 20 1 := by omega
                rcases hl.2 with h7 | h7
                · omega
                · rw [h8] at h7; exact absurd (by simp [caY, upY]) h7
            refine ⟨h2, ?_⟩
            rcases hl.2 with h7 | h7
            · exact Or.inl h7
            · refine Or.inr ?_
              have h6 : (caY y cp p0 r0) 4 (i / 2) = y 4 (i / 2) := by simp [caY, upY]; intro h9; omega
              rw [h6] at h7; exact h7
          refine Or.inl ⟨hl2, by simp [caA, upY, e], Or.inl ⟨?_, kp 5 i hl2 (by omega) (by omega)⟩⟩
          have ex : ∀ f, f = 22 ∨ f = 23 ∨ f = 24 ∨ f = 25 ∨ f = 26 ∨ f = 27 ∨ f = 28 → (caX x (y 20 1) g si) f i = x f i := by
            intro f hf
            rcases hf with hf | hf | hf | hf | hf | hf | hf <;> subst hf <;> simp [caX, up2, upd, e]
          simp only [cob]
          rw [ex 22 (by simp), ex 23 (by simp), ex 24 (by simp), ex 25 (by simp), ex 26 (by simp), ex 27 (by simp), ex 28 (by simp)]
    | 6, i, hl => Or.inl ⟨hl, rfl, Or.inl ⟨by
        have e := (hI.2.2.1 i hl).2
        have ea : (caA ad (y 20 1) q hh ed) 4 (y 7 i) = ad 4 (y 7 i) := by show (if (4 : Nat) = 4 ∧ y 7 i = y 20 1 then q else ad 4 (y 7 i)) = _; rw [if_neg (by omega)]
        have e2 : cob G (caA ad (y 20 1) q hh ed) (caX x (y 20 1) g si) (caY y cp p0 r0) z 6 i = .inr (2, [.ref (ad 2 (y 6 i)), .ref ((caA ad (y 20 1) q hh ed) 4 (y 7 i))]) := rfl
        rw [e2, ea]; rfl, kp 6 i hl (by omega) (by omega)⟩⟩
    | 7, 0, hl => Or.inl ⟨hl, rfl, Or.inl ⟨rfl, kp 7 0 hl (by omega) (by omega)⟩⟩
    | 7, 1, hl => Or.inl ⟨hl, rfl, Or.inr (by show va_at _ _ (ad 7 1, lob (x 36 1 + 1) (if cp = 0 then G.2 8 else ed) (y 20 1 + 1)) H1; rw [if_neg (by omega)]; exact e7)⟩
    | 7, 2, hl => Or.inl ⟨hl, rfl, Or.inl ⟨rfl, kp 7 2 hl (by omega) (by omega)⟩⟩
    | 7, i + 3, hl => absurd (show i + 3 < 3 from hl) (by omega)
    | 8, 0, hl => Or.inl ⟨hl, rfl, Or.inl ⟨rfl, kp 8 0 hl (by omega) (by omega)⟩⟩
    | 8, 1, hl => hed.elim (fun h9 => Or.inl ⟨⟨by decide, h9.1⟩, h9.2, Or.inr (by rw [← h9.2]; rw [ef] at e8; exact e8)⟩) (fun h9 => Or.inr ⟨ed, by simp, rfl, h9, (by rw [ef] at e8; exact e8), hA _ h9⟩)
    | 8, 2, hl => Or.inl ⟨hl, rfl, Or.inl ⟨rfl, kp 8 2 hl (by omega) (by omega)⟩⟩
    | 8, i + 3, hl => absurd (show i + 3 < 3 from hl.1) (by omega)
    | 9, i, hl => Or.inl ⟨hl, rfl, Or.inl ⟨rfl, kp 9 i hl (by omega) (by omega)⟩⟩
    | 10, i, hl => Or.inl ⟨hl, rfl, Or.inl ⟨by simp only [cob]; unfold caX; rw [up2_ne (by omega), up2_ne (by omega), up2_ne (by omega), up2_ne (by omega), up2_ne (by omega), up2_ne (by omega), up2_ne (by omega), up2_ne (by omega), up2_ne (by omega), up2_ne (by omega), up2_ne (by omega), up2_ne (by omega), up2_ne (by omega), up2_ne (by omega)], kp 10 i hl (by omega) (by omega)⟩⟩
    | 11, i, hl => Or.inl ⟨hl, rfl, Or.inl ⟨rfl, kp 11 i hl (by omega) (by omega)⟩⟩
    | 12, i, hl => Or.inl ⟨hl, rfl, Or.inl ⟨rfl, kp 12 i hl (by omega) (by omega)⟩⟩
    | _ + 13, i, hl => hl.elim
  · intro k i v k' i' v' h1 h2 e
    simp only [List.mem_cons, List.not_mem_nil, or_false, Prod.mk.injEq] at h1 h2
    rcases h1 with ⟨rfl, rfl, rfl⟩ | ⟨rfl, rfl, rfl⟩ | ⟨rfl, rfl, rfl⟩ <;> rcases h2 with ⟨rfl, rfl, rfl⟩ | ⟨rfl, rfl, rfl⟩ | ⟨rfl, rfl, rfl⟩ <;> first | exact ⟨rfl, rfl⟩ | exact absurd e hqe | exact absurd e.symm hqe | exact absurd e hqh | exact absurd e.symm hqh | exact absurd e heh | exact absurd e.symm heh
end CX2
