def bt (x : Int32) (i : Nat) : Bool := x.toBitVec.getLsbD i
theorem b_ext {x y : Int32} (h : ∀ i, i < 32 → bt x i = bt y i) : x = y := Int32.toBitVec_inj.mp (BitVec.eq_of_getLsbD_eq (fun i hi => h i hi))
theorem b_or (x y : Int32) (i : Nat) : bt (x ||| y) i = (bt x i || bt y i) := by unfold bt; rw [Int32.toBitVec_or, BitVec.getLsbD_or]
theorem b_and (x y : Int32) (i : Nat) : bt (x &&& y) i = (bt x i && bt y i) := by unfold bt; rw [Int32.toBitVec_and, BitVec.getLsbD_and]
theorem b_xor (x y : Int32) (i : Nat) : bt (x ^^^ y) i = (bt x i ^^ bt y i) := by unfold bt; rw [Int32.toBitVec_xor, BitVec.getLsbD_xor]
theorem b_big {x : Int32} {i : Nat} (h : 32 ≤ i) : bt x i = false := BitVec.getLsbD_of_ge _ _ h
theorem b_255 (i : Nat) : bt 255 i = decide (i < 8) := by
  rcases Nat.lt_or_ge i 32 with h | h
  · exact (by decide +kernel : ∀ i, i < 32 → bt 255 i = decide (i < 8)) i h
  · rw [b_big h, decide_eq_false (by omega)]
theorem b_65535 (i : Nat) : bt 65535 i = decide (i < 16) := by
  rcases Nat.lt_or_ge i 32 with h | h
  · exact (by decide +kernel : ∀ i, i < 32 → bt 65535 i = decide (i < 16)) i h
  · rw [b_big h, decide_eq_false (by omega)]
theorem b_m1 : ∀ i, i < 32 → bt (-1) i = true := by decide +kernel
theorem b_0 (i : Nat) : bt 0 i = false := BitVec.getLsbD_zero
theorem s_l : ∀ n, n < 32 → ((nI n &&& 31).toBitVec.smod 32).toNat = n := by decide +kernel
theorem s_u : ∀ n, n < 32 → (((nI n).toUInt32 &&& Int32.toUInt32 31).toBitVec % 32).toNat = n := by decide +kernel
theorem b_shl (n : Nat) (hn : n < 32) (x : Int32) {i : Nat} (hi : i < 32) : bt (x <<< (nI n &&& 31)) i = (decide (n ≤ i) && bt x (i - n)) := by
  unfold bt
  rw [Int32.toBitVec_shiftLeft]
  show (x.toBitVec <<< ((nI n &&& 31).toBitVec.smod 32).toNat).getLsbD i = _
  rw [s_l n hn, BitVec.getLsbD_shiftLeft]
  rcases Nat.lt_or_ge i n with h | h
  · simp [h, Nat.not_le.mpr h]
  · simp [hi, h, Nat.not_lt.mpr h]
theorem b_ushr (n : Nat) (hn : n < 32) (x : Int32) (i : Nat) : bt ((x.toUInt32 >>> ((nI n).toUInt32 &&& Int32.toUInt32 31)).toInt32) i = bt x (n + i) := by
  show (x.toUInt32 >>> ((nI n).toUInt32 &&& Int32.toUInt32 31)).toBitVec.getLsbD i = x.toUInt32.toBitVec.getLsbD (n + i)
  rw [UInt32.toBitVec_shiftRight]
  show (x.toUInt32.toBitVec >>> (((nI n).toUInt32 &&& Int32.toUInt32 31).toBitVec % 32).toNat).getLsbD i = _
  rw [s_u n hn, BitVec.getLsbD_ushiftRight]
theorem b_sshr (n : Nat) (hn : n < 32) (x : Int32) {i : Nat} (hi : i < 32) : bt (x >>> (nI n &&& 31)) i = if n + i < 32 then bt x (n + i) else bt x 31 := by
  unfold bt
  rw [Int32.toBitVec_shiftRight]
  show (x.toBitVec.sshiftRight ((nI n &&& 31).toBitVec.smod 32).toNat).getLsbD i = _
  rw [s_l n hn, BitVec.getLsbD_sshiftRight, BitVec.msb_eq_getLsbD_last]
  simp [hi]
theorem nx_and (a b : Nat) : nI a &&& nI b = nI (a &&& b) := by
  apply Int32.toBitVec_inj.1
  show BitVec.ofNat 32 a &&& BitVec.ofNat 32 b = BitVec.ofNat 32 (a &&& b)
  apply BitVec.eq_of_getLsbD_eq
  intro i hi
  simp [hi]
/-! bits of a mask, and how many -/
def bit (j : Nat) : Int32 := (1 : Int32) <<< (nI j &&& 31)
theorem bt_bit : ∀ j, j < 32 → ∀ i, i < 32 → bt (bit j) i = decide (i = j) := by decide +kernel
theorem and_bit {a : Int32} {j : Nat} (hj : j < 32) : a &&& bit j = 0 ↔ bt a j = false := by
  constructor
  · intro h
    have h1 := congrArg (fun q => bt q j) h
    simp only [b_and, bt_bit j hj j hj, b_0, decide_true, Bool.and_true] at h1
    exact h1
  · intro h
    refine b_ext (fun i hi => ?_)
    rw [b_and, bt_bit j hj i hi, b_0]
    by_cases e : i = j
    · rw [e, h]; rfl
    · rw [decide_eq_false e, Bool.and_false]
theorem b_orbit {a : Int32} {j i : Nat} (hj : j < 32) (hi : i < 32) : bt (a ||| bit j) i = (bt a i || decide (i = j)) := by rw [b_or, bt_bit j hj i hi]
theorem b_clr {a : Int32} {j i : Nat} (hj : j < 32) (hi : i < 32) : bt (a &&& (bit j ^^^ (-1))) i = (bt a i && !decide (i = j)) := by
  rw [b_and, b_xor, bt_bit j hj i hi, b_m1 i hi, Bool.xor_true]
theorem clr_or {a : Int32} {j : Nat} (hj : j < 32) (h : bt a j = true) : (a &&& (bit j ^^^ (-1))) ||| bit j = a := by
  refine b_ext (fun i hi => ?_)
  rw [b_orbit hj hi, b_clr hj hi]
  by_cases e : i = j
  · rw [e, h]; simp
  · rw [decide_eq_false e]; simp
theorem land16 {a b m M : Nat} (ha : a < 16) (hm : m < 16) : (a + 16 * b) &&& (m + 16 * M) = (a &&& m) + 16 * (b &&& M) := by
  have h1 : ((a + 16 * b) &&& (m + 16 * M)) % 2 ^ 4 = a &&& m := by
    rw [Nat.and_mod_two_pow, show (a + 16 * b) % 2 ^ 4 = a by omega, show (m + 16 * M) % 2 ^ 4 = m by omega]
  have h2 : ((a + 16 * b) &&& (m + 16 * M)) / 2 ^ 4 = b &&& M := by
    rw [Nat.and_div_two_pow, show (a + 16 * b) / 2 ^ 4 = b by omega, show (m + 16 * M) / 2 ^ 4 = M by omega]
  omega
def msk (m : Nat) : Nat → Nat
  | 0 => 0
  | k + 1 => m + 16 * msk m k
def dg (f : Nat → Nat) : Nat → Nat → Nat
  | 0, _ => 0
  | k + 1, n => f (n % 16) + 16 * dg f k (n / 16)
theorem dg_msk {s : Nat → Nat} {m : Nat} (f : Nat → Nat) (hm : m < 16) (hs : ∀ n, s n = s n % 16 + 16 * s (n / 16)) (hf : ∀ n, (s n % 16) &&& m = f (n % 16)) : ∀ k n, s n &&& msk m k = dg f k n
  | 0, n => Nat.and_zero _
  | k + 1, n => by
    show s n &&& (m + 16 * msk m k) = f (n % 16) + 16 * dg f k (n / 16)
    have h := land16 (a := s n % 16) (b := s (n / 16)) (m := m) (M := msk m k) (Nat.mod_lt _ (by decide)) hm
    rw [← hs n] at h
    rw [h, hf, dg_msk f hm hs hf k (n / 16)]
theorem dg_add (f g : Nat → Nat) : ∀ k n, dg f k n + dg g k n = dg (fun h => f h + g h) k n
  | 0, _ => rfl
  | k + 1, n => by
    show (f (n % 16) + 16 * dg f k (n / 16)) + (g (n % 16) + 16 * dg g k (n / 16)) = (f (n % 16) + g (n % 16)) + 16 * dg (fun h => f h + g h) k (n / 16)
    rw [← dg_add f g k (n / 16)]; omega
theorem dg_id : ∀ k n, n < 16 ^ k → dg (fun h => h) k n = n
  | 0, n, h => by have : n = 0 := by simpa using h
                  subst this; rfl
  | k + 1, n, h => by
    show n % 16 + 16 * dg (fun h => h) k (n / 16) = n
    rw [dg_id k (n / 16) (by rw [Nat.pow_succ] at h; omega)]; omega
theorem dg_cmp (f g : Nat → Nat) (hf : ∀ h, h < 16 → f h < 16) : ∀ k n, dg g k (dg f k n) = dg (fun h => g (f h)) k n
  | 0, _ => rfl
  | k + 1, n => by
    have hb := hf (n % 16) (Nat.mod_lt _ (by decide))
    show g ((f (n % 16) + 16 * dg f k (n / 16)) % 16) + 16 * dg g k ((f (n % 16) + 16 * dg f k (n / 16)) / 16) = g (f (n % 16)) + 16 * dg (fun h => g (f h)) k (n / 16)
    rw [show (f (n % 16) + 16 * dg f k (n / 16)) % 16 = f (n % 16) by omega, show (f (n % 16) + 16 * dg f k (n / 16)) / 16 = dg f k (n / 16) by omega, dg_cmp f g hf k (n / 16)]
theorem dg_sub (f g : Nat → Nat) (h : ∀ q, q < 16 → g q ≤ f q) : ∀ k n, dg f k n - dg g k n = dg (fun q => f q - g q) k n ∧ dg g k n ≤ dg f k n
  | 0, _ => ⟨rfl, Nat.le_refl _⟩
  | k + 1, n => by
    have h1 := dg_sub f g h k (n / 16)
    have h2 := h (n % 16) (Nat.mod_lt _ (by decide))
    show (f (n % 16) + 16 * dg f k (n / 16)) - (g (n % 16) + 16 * dg g k (n / 16)) = (f (n % 16) - g (n % 16)) + 16 * dg (fun q => f q - g q) k (n / 16) ∧ (g (n % 16) + 16 * dg g k (n / 16)) ≤ (f (n % 16) + 16 * dg f k (n / 16))
    rw [← h1.1]; omega
theorem dg_cg {f g : Nat → Nat} (h : ∀ q, q < 16 → f q = g q) : ∀ k n, dg f k n = dg g k n
  | 0, _ => rfl
  | k + 1, n => by
    show f (n % 16) + 16 * dg f k (n / 16) = g (n % 16) + 16 * dg g k (n / 16)
    rw [h _ (Nat.mod_lt _ (by decide)), dg_cg h k (n / 16)]
theorem bt_nI (n i : Nat) : bt (nI n) i = (decide (i < 32) && n.testBit i) := by
  show (BitVec.ofNat 32 n).getLsbD i = _
  rw [BitVec.getLsbD_ofNat]
theorem ush_nI {k : Nat} (j : Nat) (hk : k < 2 ^ 32) (hj : j < 32) : ((nI k).toUInt32 >>> ((nI j).toUInt32 &&& Int32.toUInt32 31)).toInt32 = nI (k / 2 ^ j) := by
  refine b_ext (fun i hi => ?_)
  rw [b_ushr j hj, bt_nI, bt_nI, decide_eq_true hi, Bool.true_and, Nat.testBit_div_two_pow]
  rcases Nat.lt_or_ge (j + i) 32 with h | h
  · rw [decide_eq_true h, Bool.true_and, Nat.add_comm]
  · rw [decide_eq_false (by omega), Bool.false_and]
    exact (Nat.testBit_lt_two_pow (Nat.lt_of_lt_of_le hk (Nat.pow_le_pow_right (by decide) (by omega)))).symm
def aN (h : Nat) : Nat := h - (h / 2 &&& 5)
def pN (h : Nat) : Nat := (aN h &&& 3) + (aN h / 4 &&& 3)
theorem aN_lt : ∀ h, h < 16 → aN h < 16 := by decide
theorem pN_le : ∀ h, h < 16 → pN h ≤ 4 := by decide
theorem bcA_n {n : Nat} (hn : n < 2 ^ 32) : bcA (nI n) = nI (dg aN 8 n) := by
  unfold bcA
  rw [show (1 : Int32) = nI 1 from rfl, ush_nI 1 hn (by decide), show (1431655765 : Int32) = nI (msk 5 8) from by decide, nx_and]
  have e := dg_msk (s := fun n => n / 2 ^ 1) (m := 5) (fun h => h / 2 &&& 5) (by decide) (fun n => by show n / 2 ^ 1 = n / 2 ^ 1 % 16 + 16 * (n / 16 / 2 ^ 1); omega) (fun n => by
    show (n / 2 ^ 1 % 16) &&& 5 = (n % 16) / 2 &&& 5
    have key : ∀ a, a < 16 → ∀ b, b < 2 → (a / 2 + 8 * b) &&& 5 = a / 2 &&& 5 := by decide
    rw [show n / 2 ^ 1 % 16 = n % 16 / 2 + 8 * (n / 16 % 2) by omega]
    exact key _ (Nat.mod_lt _ (by decide)) _ (Nat.mod_lt _ (by decide))) 8 n
  have e : n / 2 ^ 1 &&& msk 5 8 = dg (fun h => h / 2 &&& 5) 8 n := e
  rw [e]
  have h1 := dg_sub (fun h => h) (fun h => h / 2 &&& 5) (by decide) 8 n
  rw [dg_id 8 n (by omega)] at h1
  rw [pk_sub h1.2, h1.1]
  rfl
theorem bcB_n {n : Nat} (hn : n < 2 ^ 32) : bcB (nI n) = nI (dg (fun h => (h &&& 3) + (h / 4 &&& 3)) 8 n) := by
  unfold bcB
  rw [show (2 : Int32) = nI 2 from rfl, ush_nI 2 hn (by decide), show (858993459 : Int32) = nI (msk 3 8) from by decide, nx_and, nx_and, nI_add]
  have e1 := dg_msk (s := fun n => n) (m := 3) (fun h => h &&& 3) (by decide) (fun n => by show n = n % 16 + 16 * (n / 16); omega) (fun n => rfl) 8 n
  have e1 : n &&& msk 3 8 = dg (fun h => h &&& 3) 8 n := e1
  have e2 := dg_msk (s := fun n => n / 2 ^ 2) (m := 3) (fun h => h / 4 &&& 3) (by decide) (fun n => by show n / 2 ^ 2 = n / 2 ^ 2 % 16 + 16 * (n / 16 / 2 ^ 2); omega) (fun n => by
    show (n / 2 ^ 2 % 16) &&& 3 = (n % 16) / 4 &&& 3
    have key : ∀ a, a < 16 → ∀ b, b < 4 → (a / 4 + 4 * b) &&& 3 = a / 4 &&& 3 := by decide
    rw [show n / 2 ^ 2 % 16 = n % 16 / 4 + 4 * (n / 16 % 4) by omega]
    exact key _ (Nat.mod_lt _ (by decide)) _ (Nat.mod_lt _ (by decide))) 8 n
  have e2 : n / 2 ^ 2 &&& msk 3 8 = dg (fun h => h / 4 &&& 3) 8 n := e2
  rw [e1, e2, dg_add]
/-- how many bits of the first k hex digits -/
def sg : Nat → Nat → Nat
  | 0, _ => 0
  | k + 1, n => pN (n % 16) + sg k (n / 16)
theorem dg_lt (f : Nat → Nat) (hf : ∀ h, h < 16 → f h < 16) : ∀ k n, dg f k n < 16 ^ k
  | 0, _ => (by decide : 0 < 1)
  | k + 1, n => by
    have h1 := hf (n % 16) (Nat.mod_lt _ (by decide))
    have h2 := dg_lt f hf k (n / 16)
    show f (n % 16) + 16 * dg f k (n / 16) < 16 ^ (k + 1)
    rw [Nat.pow_succ]; omega
theorem last_n (e0 e1 e2 e3 e4 e5 e6 e7 : Nat) (h0 : e0 ≤ 4) (h1 : e1 ≤ 4) (h2 : e2 ≤ 4) (h3 : e3 ≤ 4) (h4 : e4 ≤ 4) (h5 : e5 ≤ 4) (h6 : e6 ≤ 4) (h7 : e7 ≤ 4) : bcE (bcD (bcC (nI (e0 + 16 * (e1 + 16 * (e2 + 16 * (e3 + 16 * (e4 + 16 * (e5 + 16 * (e6 + 16 * (e7 + 16 * 0)))))))))) ) &&& 63 = nI (e0 + e1 + e2 + e3 + e4 + e5 + e6 + e7) := by
  generalize hv : e0 + 16 * (e1 + 16 * (e2 + 16 * (e3 + 16 * (e4 + 16 * (e5 + 16 * (e6 + 16 * (e7 + 16 * 0))))))) = v
  have hvl : v < 2 ^ 32 := by omega
  have hC : bcC (nI v) = nI ((e0 + e1) + 256 * (e2 + e3) + 65536 * (e4 + e5) + 16777216 * (e6 + e7)) := by
    unfold bcC
    rw [show (4 : Int32) = nI 4 from rfl, ush_nI 4 hvl (by decide), nI_add, show (252645135 : Int32) = nI (15 + 16 * (0 + 16 * (15 + 16 * (0 + 16 * (15 + 16 * (0 + 16 * (15 + 16 * 0))))))) from by decide, nx_and]
    rw [show v + v / 2 ^ 4 = (e0 + e1) + 16 * ((e1 + e2) + 16 * ((e2 + e3) + 16 * ((e3 + e4) + 16 * ((e4 + e5) + 16 * ((e5 + e6) + 16 * ((e6 + e7) + 16 * e7)))))) by omega]
    rw [land16 (by omega) (by decide), land16 (by omega) (by decide), land16 (by omega) (by decide), land16 (by omega) (by decide), land16 (by omega) (by decide), land16 (by omega) (by decide), land16 (by omega) (by decide)]
    have k15 : ∀ a, a < 16 → a &&& 15 = a := by decide
    rw [k15 _ (by omega), k15 _ (by omega), k15 _ (by omega), k15 _ (by omega), Nat.and_zero, Nat.and_zero, Nat.and_zero, Nat.and_zero]
    congr 1
    omega
  rw [hC]
  generalize hf0 : e0 + e1 = f0
  generalize hf1 : e2 + e3 = f1
  generalize hf2 : e4 + e5 = f2
  generalize hf3 : e6 + e7 = f3
  have b0 : f0 ≤ 8 := by omega
  have b1 : f1 ≤ 8 := by omega
  have b2 : f2 ≤ 8 := by omega
  have b3 : f3 ≤ 8 := by omega
  rw [show f0 + e2 + e3 + e4 + e5 + e6 + e7 = f0 + f1 + f2 + f3 by omega]
  clear hC hv hvl hf0 hf1 hf2 hf3 h0 h1 h2 h3 h4 h5 h6 h7
  unfold bcE bcD
  have s1 : (f0 + 256 * f1 + 65536 * f2 + 16777216 * f3) / 2 ^ 8 = f1 + 256 * f2 + 65536 * f3 := by omega
  rw [show (8 : Int32) = nI 8 from rfl, ush_nI 8 (by omega) (by decide), nI_add, s1]
  have s2 : (f0 + 256 * f1 + 65536 * f2 + 16777216 * f3 + (f1 + 256 * f2 + 65536 * f3)) / 2 ^ 16 = f2 + f3 + 256 * f3 := by omega
  rw [show (16 : Int32) = nI 16 from rfl, ush_nI 16 (by omega) (by decide), nI_add, s2, show (63 : Int32) = nI (2 ^ 6 - 1) from by decide, nx_and, Nat.and_two_pow_sub_one_eq_mod]
  congr 1
  omega
theorem bc_n {n : Nat} (hn : n < 2 ^ 32) : s_bitCount (nI n) = nI (sg 8 n) := by
  unfold s_bitCount
  have l1 : dg aN 8 n < 16 ^ 8 := dg_lt aN aN_lt 8 n
  rw [bcA_n hn, bcB_n (by omega), dg_cmp aN (fun h => (h &&& 3) + (h / 4 &&& 3)) aN_lt]
  have p : ∀ h, h < 16 → pN h ≤ 4 := pN_le
  have q : ∀ m : Nat, pN (m % 16) ≤ 4 := fun m => p _ (Nat.mod_lt _ (by decide))
  exact (last_n _ _ _ _ _ _ _ _ (q n) (q (n / 16)) (q (n / 16 / 16)) (q (n / 16 / 16 / 16)) (q (n / 16 / 16 / 16 / 16)) (q (n / 16 / 16 / 16 / 16 / 16)) (q (n / 16 / 16 / 16 / 16 / 16 / 16)) (q (n / 16 / 16 / 16 / 16 / 16 / 16 / 16))).trans (congrArg nI (by show _ = pN (n % 16) + (pN (n / 16 % 16) + (pN (n / 16 / 16 % 16) + (pN (n / 16 / 16 / 16 % 16) + (pN (n / 16 / 16 / 16 / 16 % 16) + (pN (n / 16 / 16 / 16 / 16 / 16 % 16) + (pN (n / 16 / 16 / 16 / 16 / 16 / 16 % 16) + (pN (n / 16 / 16 / 16 / 16 / 16 / 16 / 16 % 16) + 0))))))); omega))
theorem sg_or : ∀ k j n, j < 4 * k → n.testBit j = false → sg k (n ||| 2 ^ j) = sg k n + 1
  | 0, j, n, hj, _ => absurd hj (by omega)
  | k + 1, j, n, hj, h => by
    have e1 : (n ||| 2 ^ j) % 16 = n % 16 ||| 2 ^ j % 16 := Nat.or_mod_two_pow (n := 4)
    have e2 : (n ||| 2 ^ j) / 16 = n / 16 ||| 2 ^ j / 16 := Nat.or_div_two_pow (n := 4)
    show pN ((n ||| 2 ^ j) % 16) + sg k ((n ||| 2 ^ j) / 16) = pN (n % 16) + sg k (n / 16) + 1
    rw [e1, e2]
    rcases Nat.lt_or_ge j 4 with q | q
    · have key : ∀ r, r < 4 → ∀ a, a < 16 → a / 2 ^ r % 2 = 0 → pN (a ||| 2 ^ r % 16) = pN a + 1 := by decide
      have hb : (n % 16) / 2 ^ j % 2 = 0 := by
        rw [Nat.testBit_eq_decide_div_mod_eq, decide_eq_false_iff_not] at h
        rcases (show j = 0 ∨ j = 1 ∨ j = 2 ∨ j = 3 by omega) with r | r | r | r <;> subst r <;> omega
      have h0 : 2 ^ j / 16 = 0 := by rcases (show j = 0 ∨ j = 1 ∨ j = 2 ∨ j = 3 by omega) with r | r | r | r <;> subst r <;> rfl
      rw [key j q _ (Nat.mod_lt _ (by decide)) hb, h0, Nat.or_zero]
      omega
    · obtain ⟨i, rfl⟩ : ∃ i, j = i + 4 := ⟨j - 4, by omega⟩
      have h0 : 2 ^ (i + 4) % 16 = 0 := by rw [Nat.pow_add]; exact Nat.mul_mod_left _ _
      have h1 : 2 ^ (i + 4) / 16 = 2 ^ i := by rw [Nat.pow_add]; exact Nat.mul_div_cancel _ (by decide)
      have hb : (n / 16).testBit i = false := by
        have h9 : (n / 2 ^ 4).testBit i = n.testBit (i + 4) := Nat.testBit_div_two_pow n i
        exact h9.trans h
      rw [h0, h1, Nat.or_zero, sg_or k i (n / 16) (by omega) hb]
      omega
theorem bit_nI : ∀ j, j < 32 → bit j = nI (2 ^ j) := by decide +kernel
theorem of_nI (a : Int32) : ∃ n, n < 2 ^ 32 ∧ a = nI n := ⟨a.toBitVec.toNat, a.toBitVec.isLt, Int32.toBitVec_inj.mp (by show _ = BitVec.ofNat 32 _; simp)⟩
/-- a bit more is one more -/
theorem bc_or {a : Int32} {j : Nat} (hj : j < 32) (h : bt a j = false) : s_bitCount (a ||| bit j) = s_bitCount a + 1 := by
  obtain ⟨n, hn, rfl⟩ := of_nI a
  have hb : n.testBit j = false := by rw [bt_nI, decide_eq_true hj, Bool.true_and] at h; exact h
  have e : nI n ||| bit j = nI (n ||| 2 ^ j) := by
    rw [bit_nI j hj]
    apply Int32.toBitVec_inj.1
    show BitVec.ofNat 32 n ||| BitVec.ofNat 32 (2 ^ j) = BitVec.ofNat 32 (n ||| 2 ^ j)
    rw [BitVec.ofNat_or]
  have hl : n ||| 2 ^ j < 2 ^ 32 := Nat.or_lt_two_pow hn (Nat.pow_lt_pow_right (by decide) hj)
  rw [e, bc_n hl, bc_n hn, sg_or 8 j n (by omega) hb, ← nI_1]
theorem bc_clr {a : Int32} {j : Nat} (hj : j < 32) (h : bt a j = true) : s_bitCount (a &&& (bit j ^^^ (-1))) + 1 = s_bitCount a := by
  have h1 := bc_or (a := a &&& (bit j ^^^ (-1))) hj (by rw [b_clr hj hj, decide_eq_true rfl]; simp)
  rw [clr_or hj h] at h1
  exact h1.symm
theorem bc_8 : ∀ n, n < 256 → s_bitCount (nI n) = itr (fun b a => a + ((nI n >>> ((nI b) &&& 31)) &&& 1)) 0 8 := by decide +kernel
theorem bc_0 : s_bitCount 0 = 0 := by decide +kernel
