/-! the reference: digest and identifier -/
theorem lt32 {i : Nat} (h : i < 32) : i = 0 ∨ i = 1 ∨ i = 2 ∨ i = 3 ∨ i = 4 ∨ i = 5 ∨ i = 6 ∨ i = 7 ∨ i = 8 ∨ i = 9 ∨ i = 10 ∨ i = 11 ∨ i = 12 ∨ i = 13 ∨ i = 14 ∨ i = 15 ∨ i = 16 ∨ i = 17 ∨ i = 18 ∨ i = 19 ∨ i = 20 ∨ i = 21 ∨ i = 22 ∨ i = 23 ∨ i = 24 ∨ i = 25 ∨ i = 26 ∨ i = 27 ∨ i = 28 ∨ i = 29 ∨ i = 30 ∨ i = 31 := by omega
theorem shl32 (y : Int32) (s : Int32) (n : Nat) (h : ((s &&& 31).toBitVec.smod 32).toNat = n) : (y <<< (s &&& 31)).toBitVec = y.toBitVec <<< n := by
  rw [Int32.toBitVec_shiftLeft, BitVec.shiftLeft_eq', h]
theorem shr32 (y : Int32) (s : Int32) (n : Nat) (h : ((s.toUInt32 &&& Int32.toUInt32 31).toBitVec % 32).toNat = n) : (y.toUInt32 >>> (s.toUInt32 &&& Int32.toUInt32 31)).toInt32.toBitVec = y.toBitVec >>> n := by
  show (y.toUInt32 >>> (s.toUInt32 &&& Int32.toUInt32 31)).toBitVec = _
  rw [UInt32.toBitVec_shiftRight, BitVec.ushiftRight_eq', h]
  rfl
theorem rev4_bv (x : Int32) : (rev4 x).toBitVec = (((x.toBitVec <<< 24) ||| ((x.toBitVec &&& 65280#32) <<< 8)) ||| ((x.toBitVec >>> 8) &&& 65280#32)) ||| (x.toBitVec >>> 24) := by
  unfold rev4
  rw [Int32.toBitVec_or, Int32.toBitVec_or, Int32.toBitVec_or, Int32.toBitVec_and, shl32 x 24 24 (by decide), shl32 _ 8 8 (by decide), shr32 x 8 8 (by decide), shr32 x 24 24 (by decide), Int32.toBitVec_and]
  rfl
theorem rev4_bit (x : Int32) {i : Nat} (hi : i < 32) : (rev4 x).toBitVec.getLsbD i = x.toBitVec.getLsbD (24 - 8 * (i / 8) + i % 8) := by
  rw [rev4_bv]
  simp only [BitVec.getLsbD_or, BitVec.getLsbD_and, BitVec.getLsbD_shiftLeft, BitVec.getLsbD_ushiftRight]
  rcases lt32 hi with rfl | rfl | rfl | rfl | rfl | rfl | rfl | rfl | rfl | rfl | rfl | rfl | rfl | rfl | rfl | rfl | rfl | rfl | rfl | rfl | rfl | rfl | rfl | rfl | rfl | rfl | rfl | rfl | rfl | rfl | rfl | rfl <;> simp
/-- the bits of the first eight bytes of the hash, the first byte lowest -/
def hbit (h : Nat → Int32) (j : Nat) : Bool := (h (j / 32)).toBitVec.getLsbD (24 - 8 * (j / 8 % 4) + j % 8)
theorem shl64 (y : Int64) (s : Int32) (n : Nat) (h : ((s.toInt64 &&& 63).toBitVec.smod 64).toNat = n) : (y <<< (s.toInt64 &&& 63)).toBitVec = y.toBitVec <<< n := by
  rw [Int64.toBitVec_shiftLeft, BitVec.shiftLeft_eq', h]
theorem ext_lo (x : Int32) {i : Nat} (hi : i < 32) : x.toInt64.toBitVec.getLsbD i = x.toBitVec.getLsbD i := by
  rw [Int32.toBitVec_toInt64, BitVec.getLsbD_signExtend]
  simp [hi, show i < 64 by omega]
theorem msk32 {i : Nat} (hi : i < 64) : (4294967295 : Int64).toBitVec.getLsbD i = decide (i < 32) := by
  show (4294967295#64).getLsbD i = _
  rw [show (4294967295#64) = BitVec.ofNat 64 (2 ^ 32 - 1) from rfl, BitVec.getLsbD_ofNat, Nat.testBit_two_pow_sub_one]
  simp [hi]
theorem id8_bit (h : Nat → Int32) {i : Nat} (hi : i < 64) : (id8 (h 0) (h 1)).toBitVec.getLsbD i = hbit h i := by
  unfold id8
  rw [Int64.toBitVec_or, Int64.toBitVec_and, BitVec.getLsbD_or, BitVec.getLsbD_and, shl64 _ 32 32 (by decide), BitVec.getLsbD_shiftLeft, msk32 hi]
  by_cases h32 : i < 32
  · rw [ext_lo _ h32, rev4_bit _ h32, hbit, show i / 32 = 0 by omega, show i / 8 % 4 = i / 8 by omega]
    simp [h32]
  · rw [ext_lo (i := i - 32) _ (by omega), rev4_bit _ (by omega), hbit, show i / 32 = 1 by omega, show i / 8 % 4 = (i - 32) / 8 by omega, show (i - 32) % 8 = i % 8 by omega]
    simp [h32, hi]
theorem nI64 : ∀ x, x < 256 → (nI x).toInt64.toBitVec = BitVec.ofNat 64 x := by decide +kernel
theorem sh8_bit (v : Int64) {x i : Nat} (hx : x < 256) (hi : i < 64) : (v <<< ((8 : Int32).toInt64 &&& 63) ||| (nI x).toInt64).toBitVec.getLsbD i = if i < 8 then x.testBit i else v.toBitVec.getLsbD (i - 8) := by
  rw [Int64.toBitVec_or, BitVec.getLsbD_or, shl64 _ 8 8 (by decide), BitVec.getLsbD_shiftLeft, nI64 x hx, BitVec.getLsbD_ofNat]
  by_cases h8 : i < 8
  · simp [h8, hi]
  · rw [Nat.testBit_lt_two_pow (x := x) (i := i) (Nat.lt_of_lt_of_le hx (show 2 ^ 8 ≤ 2 ^ i from Nat.pow_le_pow_right (by decide) (by omega)))]
    simp [h8, hi]
theorem byb (y : Int32) {q i : Nat} (hi : i < 8) : (y.toBitVec.toNat / 2 ^ (8 * q) % 256).testBit i = y.toBitVec.getLsbD (8 * q + i) := by
  rw [show (256 : Nat) = 2 ^ 8 from rfl, Nat.testBit_mod_two_pow, Nat.testBit_div_two_pow]
  simp [hi, BitVec.getLsbD]
  rw [Nat.add_comm]
