/-! the four bytes of an int -/
def bx (x : Int32) (k : Nat) : Nat := x.toUInt32.toNat / 2 ^ k % 256
theorem bx_lt (x : Int32) (k : Nat) : bx x k < 256 := Nat.mod_lt _ (by omega)
def bq (x : Int32) : List Nat := [bx x 24, bx x 16, bx x 8, bx x 0]
theorem by8_n (n : Nat) : by8 (nI n) = sx (n % 256) := by
  have h0 : ∀ c, c < 256 → Int8.toInt32 (Int8.ofNat c) = sx c := by decide +kernel
  have h1 : Int32.toInt8 (nI n) = Int8.ofNat (n % 256) := by
    apply Int8.toBitVec_inj.mp
    show (Int32.toInt8 (Int32.ofNat n)).toBitVec = _
    rw [Int32.toBitVec_toInt8, Int32.toBitVec_ofNat', Int8.toBitVec_ofNat']
    apply BitVec.eq_of_getLsbD_eq
    intro i hi
    rw [BitVec.getLsbD_signExtend, BitVec.getLsbD_ofNat, BitVec.getLsbD_ofNat]
    rw [show (256 : Nat) = 2 ^ 8 from rfl, Nat.testBit_mod_two_pow]
    have h32 : i < 32 := by omega
    simp [hi, h32]
  unfold by8
  rw [h1, h0 _ (by omega)]
theorem nI_self (x : Int32) : x = nI x.toUInt32.toNat := by
  apply Int32.toBitVec_inj.mp
  simp [nI]
theorem u_shift (x : Int32) (k : Nat) (hk : k < 32) (u : UInt32) (hu : u.toNat = k) : (Int32.toUInt32 x >>> u).toInt32 = nI (x.toUInt32.toNat / 2 ^ k) := by
  have h := nI_self ((Int32.toUInt32 x >>> u).toInt32)
  rw [h]
  congr 1
  show (Int32.toUInt32 x >>> u).toNat = _
  rw [UInt32.toNat_shiftRight, hu, Nat.mod_eq_of_lt hk, Nat.shiftRight_eq_div_pow]
theorem by4_sx (x : Int32) : by4 x = (bq x).map sx := by
  have h0 : by8 x = sx (bx x 0) := by
    have := by8_n x.toUInt32.toNat
    rw [← nI_self] at this
    rw [this]; simp [bx]
  unfold by4 bq
  simp only [List.map_cons, List.map_nil]
  rw [u_shift x 24 (by omega) _ (by decide), u_shift x 16 (by omega) _ (by decide), u_shift x 8 (by omega) _ (by decide), by8_n, by8_n, by8_n, h0]
  rfl
theorem r_byte (x : Int32) (k : Nat) (hk : k ≤ 24) (s : Int32) (hs : s.toBitVec.smod 32 = BitVec.ofNat 32 k) : (x >>> s) &&& 255 = nI (bx x k) := by
  apply Int32.toBitVec_inj.mp
  show _ = (Int32.ofNat (bx x k)).toBitVec
  rw [Int32.toBitVec_and, Int32.toBitVec_shiftRight, hs, Int32.toBitVec_ofNat']
  apply BitVec.eq_of_getLsbD_eq
  intro i hi
  have h255 : ∀ i, i < 32 → (Int32.toBitVec 255).getLsbD i = decide (i < 8) := by decide +kernel
  rw [BitVec.getLsbD_and, h255 i hi, BitVec.getLsbD_ofNat]
  show ((x.toBitVec.sshiftRight (BitVec.ofNat 32 k).toNat).getLsbD i && decide (i < 8)) = _
  have hkn : (BitVec.ofNat 32 k).toNat = k := by rw [BitVec.toNat_ofNat]; omega
  rw [hkn, BitVec.getLsbD_sshiftRight]
  unfold bx
  rw [show (256 : Nat) = 2 ^ 8 from rfl, Nat.testBit_mod_two_pow, Nat.testBit_div_two_pow]
  by_cases h8 : i < 8
  · have h1 : k + i < 32 := by omega
    have h2 : ¬ 32 ≤ i := by omega
    simp only [h8, hi, h1, h2, decide_true, decide_false, Bool.not_false, Bool.true_and, Bool.and_true, if_true]
    rw [show i + k = k + i by omega]
    rfl
  · simp [h8]
theorem sh20 : ∀ j, j < 20 → ((24 - (8 * (nI j - nI j / 4 * 4))) &&& 31 : Int32).toBitVec.smod 32 = BitVec.ofNat 32 (24 - 8 * (j % 4)) := by decide +kernel
