-- 24: the two worlds' small functions are the same
theorem ob_ha {o l : Nat} (ho : o < 64) (hl : l < 6) : ob (nI o) (nI l) = haS (nI o) (nI l) := (show ∀ o, o < 64 → ∀ l, l < 6 → ob (nI o) (nI l) = haS (nI o) (nI l) by decide +kernel) o ho l hl
theorem bt_bc {n : Nat} (h : n < 256) : btS (nI n) 8 0 0 = bcn (nI n) := (show ∀ n, n < 256 → btS (nI n) 8 0 0 = bcn (nI n) by decide +kernel) n h
theorem say_say {k : Nat} (h : k ≤ 6) (v n r : Int32) : sayS (nI k) v n r = sayM (nI k) v n r := by
  have : k = 0 ∨ k = 1 ∨ k = 2 ∨ k = 3 ∨ k = 4 ∨ k = 5 ∨ k = 6 := by omega
  rcases this with rfl | rfl | rfl | rfl | rfl | rfl | rfl <;> rfl
theorem nI_or (a b : Nat) : nI a ||| nI b = nI (a ||| b) := by
  apply Int32.toBitVec_inj.mp
  apply BitVec.eq_of_toNat_eq
  show (a % 2 ^ 32) ||| (b % 2 ^ 32) = (a ||| b) % 2 ^ 32
  exact (Nat.or_mod_two_pow).symm
theorem or_1 (a : Nat) {b : Nat} (h : b < 2) : nI (2 * a) ||| nI b = nI (2 * a + b) := by
  rw [nI_or]
  have := Nat.two_pow_add_eq_or_of_lt (i := 1) (b := b) (by omega) a
  rw [show 2 ^ 1 * a = 2 * a by omega] at this
  rw [this]
theorem shl_1 {a : Nat} (h : a < 2 ^ 30) : nI a <<< (1 &&& 31) = nI (2 * a) := by
  have := pk_shlN (n := a) (1 &&& 31) 1 (by decide +kernel) (by omega)
  rw [this, Nat.mul_comm]
theorem shr_1 {a b : Nat} (h : a < 2 ^ 30) (hb : b < 2) : nI (2 * a + b) >>> (1 &&& 31) = nI a := by
  have := pk_shrN (n := 2 * a + b) (by omega) (1 &&& 31) 1 (by decide +kernel)
  rw [this, show (2 * a + b) / 2 ^ 1 = a by omega]
theorem and_1 {a b : Nat} (h : a < 2 ^ 30) (hb : b < 2) : nI (2 * a + b) &&& 1 = nI b := by
  have := pk_andN (n := 2 * a + b) (by omega) (m := 1) 1 (by decide +kernel)
  rw [this, show (2 * a + b) % 2 ^ 1 = b by omega]
theorem and_m1 (x : Int32) : x &&& (-1) = x := by
  apply Int32.toBitVec_inj.mp
  show x.toBitVec &&& BitVec.allOnes 32 = x.toBitVec
  exact BitVec.and_allOnes
theorem nI_and (a b : Nat) : nI a &&& nI b = nI (a &&& b) := by
  apply Int32.toBitVec_inj.mp
  apply BitVec.eq_of_toNat_eq
  show (a % 2 ^ 32) &&& (b % 2 ^ 32) = (a &&& b) % 2 ^ 32
  exact (Nat.and_mod_two_pow).symm
theorem nI_xor (a b : Nat) : nI a ^^^ nI b = nI (a ^^^ b) := by
  apply Int32.toBitVec_inj.mp
  apply BitVec.eq_of_toNat_eq
  show (a % 2 ^ 32) ^^^ (b % 2 ^ 32) = (a ^^^ b) % 2 ^ 32
  exact (Nat.xor_mod_two_pow).symm
theorem and_m2 {a b : Nat} (h : a < 2 ^ 30) (hb : b < 2) : nI (2 * a + b) &&& (-2) = nI (2 * a) := by
  rw [show (-2 : Int32) = nI (2 ^ 32 - 2) by decide +kernel, nI_and]
  refine congrArg nI (Nat.eq_of_testBit_eq fun i => ?_)
  rw [Nat.testBit_and]
  cases i with
  | zero =>
    rw [Nat.testBit_zero, Nat.testBit_zero, Nat.testBit_zero]
    rw [show decide ((2 ^ 32 - 2) % 2 = 1) = false by decide, Bool.and_false]
    exact (decide_eq_false (by omega)).symm
  | succ i =>
    rw [Nat.testBit_succ, Nat.testBit_succ, Nat.testBit_succ, show (2 * a + b) / 2 = a by omega, show 2 * a / 2 = a by omega, show (2 ^ 32 - 2) / 2 = 2 ^ 31 - 1 by decide, Nat.testBit_two_pow_sub_one]
    by_cases hi : i < 31
    · rw [decide_eq_true hi, Bool.and_true]
    · rw [decide_eq_false hi, Bool.and_false]
      refine (Nat.testBit_lt_two_pow (Nat.lt_of_lt_of_le h (Nat.pow_le_pow_right (by decide) (by omega)))).symm
theorem xor_1 {a b : Nat} (hb : b < 2) : nI (2 * a + b) ^^^ 1 = nI (2 * a + (1 - b)) := by
  rw [show (1 : Int32) = nI 1 from rfl, nI_xor]
  refine congrArg nI (Nat.eq_of_testBit_eq fun i => ?_)
  rw [Nat.testBit_xor]
  cases i with
  | zero =>
    rw [Nat.testBit_zero, Nat.testBit_zero, Nat.testBit_zero]
    have : b = 0 ∨ b = 1 := by omega
    rcases this with rfl | rfl
    · rw [show decide ((2 * a + 0) % 2 = 1) = false from decide_eq_false (by omega), show decide ((2 * a + (1 - 0)) % 2 = 1) = true from decide_eq_true (by omega)]; rfl
    · rw [show decide ((2 * a + 1) % 2 = 1) = true from decide_eq_true (by omega), show decide ((2 * a + (1 - 1)) % 2 = 1) = false from decide_eq_false (by omega)]; rfl
  | succ i =>
    rw [Nat.testBit_succ, Nat.testBit_succ, Nat.testBit_succ, show (2 * a + b) / 2 = a by omega, show (2 * a + (1 - b)) / 2 = a by omega, show 1 / 2 = 0 by decide, Nat.zero_testBit, Bool.xor_false]
/-- the stack as a number: the n bits of p, the last one lowest -/
def enc (p : Nat → Bool) : Nat → Nat
  | 0 => 0
  | n + 1 => 2 * enc p n + (if p n then 1 else 0)
theorem enc_lt (p : Nat → Bool) : ∀ n, enc p n < 2 ^ n
  | 0 => by rw [enc]; decide
  | n + 1 => by
    have := enc_lt p n
    rw [enc, Nat.pow_succ]
    split <;> omega
theorem enc_up (p : Nat → Bool) (i : Nat) (b : Bool) : ∀ n, n ≤ i → enc (upB p i b) n = enc p n
  | 0, _ => rfl
  | n + 1, h => by
    rw [enc, enc, enc_up p i b n (by omega), upB_n p i n b (by omega)]
theorem bi_nI (b : Bool) : bi b = nI (if b then 1 else 0) := by cases b <;> rfl
