/-! Sets of bowls as bits. -/
theorem nb_and (a b : Nat) : nI a &&& nI b = nI (a &&& b) := by
  apply Int32.toBitVec_inj.mp
  rw [Int32.toBitVec_and]
  show BitVec.ofNat 32 a &&& BitVec.ofNat 32 b = BitVec.ofNat 32 (a &&& b)
  exact BitVec.eq_of_getLsbD_eq (fun i hi => by simp [BitVec.getLsbD_ofNat])
theorem nb_or (a b : Nat) : nI a ||| nI b = nI (a ||| b) := by
  apply Int32.toBitVec_inj.mp
  rw [Int32.toBitVec_or]
  show BitVec.ofNat 32 a ||| BitVec.ofNat 32 b = BitVec.ofNat 32 (a ||| b)
  exact BitVec.eq_of_getLsbD_eq (fun i hi => by simp [BitVec.getLsbD_ofNat])
theorem nb_xor (a b : Nat) : nI a ^^^ nI b = nI (a ^^^ b) := by
  apply Int32.toBitVec_inj.mp
  rw [Int32.toBitVec_xor]
  show BitVec.ofNat 32 a ^^^ BitVec.ofNat 32 b = BitVec.ofNat 32 (a ^^^ b)
  exact BitVec.eq_of_getLsbD_eq (fun i hi => by simp [BitVec.getLsbD_ofNat])
theorem nb_sh1 : ∀ b, b < 31 → (1 : Int32) <<< (nI b &&& 31) = nI (2 ^ b) := by decide +kernel
theorem nb_all : ∀ c, c < 31 → (1 : Int32) <<< (nI c &&& 31) - 1 = nI (2 ^ c - 1) := by decide +kernel
theorem nb_bit0 : ∀ s, s < 1024 → ∀ b, b < 11 → ((nI s >>> (nI b &&& 31)) &&& 1 = 1 ↔ s.testBit b = true) := by decide +kernel
theorem iBit_nI {s b : Nat} (hs : s < 1024) (hb : b < 11) : iBit (nI s) b = s.testBit b := by
  unfold iBit
  have h := nb_bit0 s hs b hb
  cases q : s.testBit b
  · rw [q] at h; exact decide_eq_false (fun e => by simpa using h.mp e)
  · exact decide_eq_true (h.mpr q)
theorem nb_low : ∀ s, s < 1024 → s ≠ 0 → ∃ j, j < 10 ∧ nI s &&& -(nI s) = nI (2 ^ j) ∧ s.testBit j = true ∧ ∀ i, i < j → s.testBit i = false := by decide +kernel
theorem nb_m1 : (-1 : Int32) = nI 4294967295 := by decide +kernel
theorem tb_4294967295 (i : Nat) : (4294967295 : Nat).testBit i = decide (i < 32) := by
  rw [show (4294967295 : Nat) = 2 ^ 32 - 1 from rfl, Nat.testBit_two_pow_sub_one]
/-- bits of a that b hasn't -/
def nDif (a b : Nat) : Nat := a &&& (b ^^^ 4294967295)
theorem nb_dif (a b : Nat) : nI a &&& (nI b ^^^ (-1)) = nI (nDif a b) := by rw [nb_m1, nb_xor, nb_and]; rfl
theorem tb_dif {a b i : Nat} (ha : a < 2 ^ 32) : (nDif a b).testBit i = (a.testBit i && !b.testBit i) := by
  unfold nDif
  rw [Nat.testBit_and, Nat.testBit_xor, tb_4294967295]
  by_cases h : i < 32
  · simp [h]
  · have : a.testBit i = false := Nat.testBit_lt_two_pow (Nat.lt_of_lt_of_le ha (Nat.pow_le_pow_right (by decide) (by omega)))
    simp [this]
theorem nDif_le (a b : Nat) : nDif a b ≤ a := Nat.and_le_left
theorem or_lt {a b n : Nat} (ha : a < 2 ^ n) (hb : b < 2 ^ n) : a ||| b < 2 ^ n := Nat.or_lt_two_pow ha hb
theorem tb_one (b i : Nat) : (2 ^ b).testBit i = decide (b = i) := Nat.testBit_two_pow
/-- how many of the first n bits -/
def pop (s : Nat) : Nat → Nat
  | 0 => 0
  | n + 1 => pop s n + if s.testBit n then 1 else 0
theorem pop_le (s : Nat) : ∀ n, pop s n ≤ n
  | 0 => Nat.le_refl _
  | n + 1 => by have := pop_le s n; rw [pop]; split <;> omega
