/-! Integer.bitCount counts the bits -/
theorem and_split (w : Nat) {x y u v : Nat} (hy : y < 2 ^ w) (hv : v < 2 ^ w) : (2 ^ w * x + y) &&& (2 ^ w * u + v) = 2 ^ w * (x &&& u) + (y &&& v) := by
  refine Nat.eq_of_testBit_eq (fun i => ?_)
  rw [Nat.testBit_and, Nat.testBit_two_pow_mul_add x hy, Nat.testBit_two_pow_mul_add u hv, Nat.testBit_two_pow_mul_add (x &&& u) (Nat.lt_of_le_of_lt Nat.and_le_left hy)]
  by_cases h : i < w
  · simp [h]
  · simp [h]
theorem pcn_congr {a b : Nat} : ∀ k, (∀ i, i < k → a.testBit i = b.testBit i) → pcn a k = pcn b k := by
  intro k
  induction k with
  | zero => intro _; rfl
  | succ k ih => intro h; show pcn a k + _ = pcn b k + _; rw [ih (fun i hi => h i (by omega)), h k (by omega)]
theorem pcn_split {x y w : Nat} (hy : y < 2 ^ w) : ∀ k, pcn (2 ^ w * x + y) (w + k) = pcn y w + pcn x k := by
  intro k
  induction k with
  | zero =>
    rw [Nat.add_zero, pcn_congr (b := y) w (fun i hi => by rw [Nat.testBit_two_pow_mul_add x hy, if_pos hi])]
    rfl
  | succ k ih =>
    show pcn (2 ^ w * x + y) (w + k) + (if (2 ^ w * x + y).testBit (w + k) = true then 1 else 0) = pcn y w + (pcn x k + (if x.testBit k = true then 1 else 0))
    rw [ih, Nat.testBit_two_pow_mul_add x hy, if_neg (show ¬ w + k < w by omega), show w + k - w = k by omega]
    omega
def bf1 (b : Nat) : Nat := b - (b / 2 &&& 85)
def bf2 (c : Nat) : Nat := (c &&& 51) + (c / 4 &&& 51)
def bf3 (c : Nat) : Nat := (c + c / 16) &&& 15
theorem bf_all : ∀ b, b < 256 → bf1 b < 256 ∧ bf2 (bf1 b) < 256 ∧ bf2 (bf1 b) % 16 ≤ 4 ∧ bf2 (bf1 b) / 16 ≤ 4 ∧ bf3 (bf2 (bf1 b)) = pcn b 8 := by decide +kernel
theorem bf_e1 : ∀ b, b < 256 → ∀ e, e < 2 → (128 * e + b / 2) &&& 85 = b / 2 &&& 85 := by decide +kernel
theorem bf_e2 : ∀ b, b < 256 → ∀ e, e < 4 → (64 * e + b / 4) &&& 51 = b / 4 &&& 51 := by decide +kernel
theorem bt1 {x b u : Nat} (hb : b < 256) : (256 * x + b) - ((256 * x + b) / 2 &&& (256 * u + 85)) = 256 * (x - (x / 2 &&& u)) + bf1 b := by
  have h1 : (256 * x + b) / 2 = 2 ^ 8 * (x / 2) + (128 * (x % 2) + b / 2) := by omega
  rw [h1, show 256 * u + 85 = 2 ^ 8 * u + 85 from rfl, and_split 8 (by omega) (by omega), bf_e1 b hb _ (Nat.mod_lt _ (by omega))]
  have h2 : (x / 2 &&& u) ≤ x := Nat.le_trans Nat.and_le_left (Nat.div_le_self _ _)
  have h3 : (b / 2 &&& 85) ≤ b := Nat.le_trans Nat.and_le_left (Nat.div_le_self _ _)
  unfold bf1
  omega
theorem bt2 {x b u : Nat} (hb : b < 256) : ((256 * x + b) &&& (256 * u + 51)) + ((256 * x + b) / 4 &&& (256 * u + 51)) = 256 * ((x &&& u) + (x / 4 &&& u)) + bf2 b := by
  have h1 : (256 * x + b) / 4 = 2 ^ 8 * (x / 4) + (64 * (x % 4) + b / 4) := by omega
  rw [h1, show 256 * u + 51 = 2 ^ 8 * u + 51 from rfl, show 256 * x + b = 2 ^ 8 * x + b from rfl, and_split 8 (show b < 2 ^ 8 from hb) (by omega), and_split 8 (by omega) (by omega), bf_e2 b hb _ (Nat.mod_lt _ (by omega))]
  unfold bf2
  omega
theorem bt3 {x b u : Nat} (hx : x % 16 ≤ 4) (hb : b % 16 ≤ 4 ∧ b / 16 ≤ 4) : ((256 * x + b) + (256 * x + b) / 16 &&& (256 * u + 15)) = 256 * ((x + x / 16) &&& u) + bf3 b := by
  have h1 : (256 * x + b) + (256 * x + b) / 16 = 2 ^ 8 * (x + x / 16) + (16 * (x % 16) + b + b / 16) := by omega
  rw [h1, show 256 * u + 15 = 2 ^ 8 * u + 15 from rfl, and_split 8 (by omega) (by omega)]
  unfold bf3
  have h2 : ∀ z : Nat, z &&& 15 = z % 16 := fun z => Nat.and_two_pow_sub_one_eq_mod z 4
  rw [h2, h2]
  omega
def bcN (a : Nat) : Nat :=
  let t1 := a - (a / 2 &&& 1431655765)
  let t2 := (t1 &&& 858993459) + (t1 / 4 &&& 858993459)
  let t3 := (t2 + t2 / 16) &&& 252645135
  let t4 := t3 + t3 / 256
  let t5 := t4 + t4 / 65536
  t5 &&& 63
theorem bc_parts {a : Nat} (ha : a < 2 ^ 32) : ∃ p0 p1 p2 p3 : Nat, p0 ≤ 8 ∧ p1 ≤ 8 ∧ p2 ≤ 8 ∧ p3 ≤ 8 ∧ p0 + p1 + p2 + p3 = pcn a 32 ∧ ((a - (a / 2 &&& 1431655765) &&& 858993459) + ((a - (a / 2 &&& 1431655765)) / 4 &&& 858993459) + ((a - (a / 2 &&& 1431655765) &&& 858993459) + ((a - (a / 2 &&& 1431655765)) / 4 &&& 858993459)) / 16 &&& 252645135) = p0 + 256 * p1 + 65536 * p2 + 16777216 * p3 := by
  obtain ⟨b0, b1, b2, b3, h0, h1, h2, h3, rfl⟩ : ∃ b0 b1 b2 b3 : Nat, b0 < 256 ∧ b1 < 256 ∧ b2 < 256 ∧ b3 < 256 ∧ a = 256 * (256 * (256 * b3 + b2) + b1) + b0 := ⟨a % 256, a / 256 % 256, a / 65536 % 256, a / 16777216, by omega, by omega, by omega, by omega, by omega⟩
  obtain ⟨q0, r0, s0, t0, e0⟩ := bf_all b0 h0
  obtain ⟨q1, r1, s1, t1, e1⟩ := bf_all b1 h1
  obtain ⟨q2, r2, s2, t2, e2⟩ := bf_all b2 h2
  obtain ⟨q3, r3, s3, t3, e3⟩ := bf_all b3 h3
  have g1 : (256 * (256 * (256 * b3 + b2) + b1) + b0) - ((256 * (256 * (256 * b3 + b2) + b1) + b0) / 2 &&& 1431655765) = 256 * (256 * (256 * bf1 b3 + bf1 b2) + bf1 b1) + bf1 b0 := by
    rw [show 1431655765 = 256 * 5592405 + 85 from rfl, bt1 h0, show 5592405 = 256 * 21845 + 85 from rfl, bt1 h1, show 21845 = 256 * 85 + 85 from rfl, bt1 h2]
    rfl
  have g2 : ((256 * (256 * (256 * bf1 b3 + bf1 b2) + bf1 b1) + bf1 b0) &&& 858993459) + ((256 * (256 * (256 * bf1 b3 + bf1 b2) + bf1 b1) + bf1 b0) / 4 &&& 858993459) = 256 * (256 * (256 * bf2 (bf1 b3) + bf2 (bf1 b2)) + bf2 (bf1 b1)) + bf2 (bf1 b0) := by
    rw [show 858993459 = 256 * 3355443 + 51 from rfl, bt2 q0, show 3355443 = 256 * 13107 + 51 from rfl, bt2 q1, show 13107 = 256 * 51 + 51 from rfl, bt2 q2]
    rfl
  have g3 : ((256 * (256 * (256 * bf2 (bf1 b3) + bf2 (bf1 b2)) + bf2 (bf1 b1)) + bf2 (bf1 b0)) + (256 * (256 * (256 * bf2 (bf1 b3) + bf2 (bf1 b2)) + bf2 (bf1 b1)) + bf2 (bf1 b0)) / 16 &&& 252645135) = 256 * (256 * (256 * bf3 (bf2 (bf1 b3)) + bf3 (bf2 (bf1 b2))) + bf3 (bf2 (bf1 b1))) + bf3 (bf2 (bf1 b0)) := by
    rw [show 252645135 = 256 * 986895 + 15 from rfl, bt3 (by omega) ⟨s0, t0⟩, show 986895 = 256 * 3855 + 15 from rfl, bt3 (by omega) ⟨s1, t1⟩, show 3855 = 256 * 15 + 15 from rfl, bt3 (by omega) ⟨s2, t2⟩]
    rfl
  refine ⟨pcn b0 8, pcn b1 8, pcn b2 8, pcn b3 8, pcn_le _ _, pcn_le _ _, pcn_le _ _, pcn_le _ _, ?_, ?_⟩
  · have k1 := pcn_split (x := 256 * (256 * b3 + b2) + b1) (y := b0) (w := 8) h0 24
    have k2 := pcn_split (x := 256 * b3 + b2) (y := b1) (w := 8) h1 16
    have k3 := pcn_split (x := b3) (y := b2) (w := 8) h2 8
    rw [show (2 : Nat) ^ 8 = 256 from rfl] at k1 k2 k3
    have e1 : (32 : Nat) = 8 + 24 := by decide
    have e2 : (24 : Nat) = 8 + 16 := by decide
    have e3 : (16 : Nat) = 8 + 8 := by decide
    rw [e1, k1, e2, k2, e3, k3]
    omega
  · rw [g1, g2, g3, e0, e1, e2, e3]
    omega
theorem e_bitCount {a : Nat} (ha : a < 2 ^ 31) : q_J6_bitCount_0f7a4 (nI a) = some (nI (pcn a 32)) := by
  obtain ⟨p0, p1, p2, p3, h0, h1, h2, h3, hs, ht⟩ := bc_parts (a := a) (by omega)
  have us : ∀ (n : Nat) (s : Int32) (k : Nat), n < 2 ^ 32 → (((s.toUInt32 &&& Int32.toUInt32 31).toBitVec % 32).toNat = k) → ((nI n).toUInt32 >>> (s.toUInt32 &&& Int32.toUInt32 31)).toInt32 = nI (n / 2 ^ k) := fun n s k hn hk => pk_ushrN hn s k hk
  have a1 : (a / 2 &&& 1431655765) ≤ a := Nat.le_trans Nat.and_le_left (Nat.div_le_self _ _)
  generalize ht1 : a - (a / 2 &&& 1431655765) = t1 at ht
  have b1 : t1 < 2 ^ 31 := by omega
  generalize ht2 : (t1 &&& 858993459) + (t1 / 4 &&& 858993459) = t2 at ht
  have b2 : t2 < 2 ^ 32 := by
    have c1 : (t1 &&& 858993459) ≤ 858993459 := Nat.and_le_right
    have c2 : (t1 / 4 &&& 858993459) ≤ 858993459 := Nat.and_le_right
    omega
  unfold q_J6_bitCount_0f7a4
  rw [ob_some, us a 1 1 (by omega) (by decide), show (1431655765 : Int32) = nI 1431655765 from rfl, fa_and, pk_sub (by simpa using a1)]
  rw [show 2 ^ 1 = 2 from rfl, ht1]
  rw [ob_some, us t1 2 2 (by omega) (by decide), show (858993459 : Int32) = nI 858993459 from rfl, fa_and, fa_and, nI_add, show 2 ^ 2 = 4 from rfl, ht2]
  rw [ob_some, us t2 4 4 (by omega) (by decide), show (252645135 : Int32) = nI 252645135 from rfl, nI_add, fa_and, show 2 ^ 4 = 16 from rfl, ht]
  rw [ob_some, us _ 8 8 (by omega) (by decide), nI_add, show 2 ^ 8 = 256 from rfl]
  rw [ob_some, us _ 16 16 (by omega) (by decide), nI_add, show 2 ^ 16 = 65536 from rfl]
  rw [show (63 : Int32) = nI (2 ^ 6 - 1) from rfl, fa_mask]
  congr 2
  rw [← hs]
  clear us ht ht1 ht2 hs b1 b2 a1
  have q1 : (p0 + 256 * p1 + 65536 * p2 + 16777216 * p3) / 256 = p1 + 256 * p2 + 65536 * p3 := by omega
  rw [q1]
  have q2 : (p0 + 256 * p1 + 65536 * p2 + 16777216 * p3 + (p1 + 256 * p2 + 65536 * p3)) / 65536 = p2 + p3 + 256 * p3 := by omega
  rw [q2]
  omega
theorem pcn_30 {a : Nat} (ha : a < 2 ^ 30) : pcn a 32 = pcn a 30 := by
  show pcn a 30 + (if a.testBit 30 = true then 1 else 0) + (if a.testBit 31 = true then 1 else 0) = _
  rw [Nat.testBit_lt_two_pow ha, Nat.testBit_lt_two_pow (Nat.lt_of_lt_of_le ha (by decide))]
  rfl
