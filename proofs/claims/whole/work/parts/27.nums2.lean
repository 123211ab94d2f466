/-! ===== numbers at and above 0: bits ===== -/
theorem z_bv {a : Nat} (ha : a < 2147483648) : (Int32.ofInt (a : Int)).toBitVec = BitVec.ofNat 32 a := by
  show BitVec.ofInt 32 (a : Int) = _
  rw [BitVec.ofInt_natCast]
theorem z_bvL {a : Nat} (ha : a < 9223372036854775808) : (Int64.ofInt (a : Int)).toBitVec = BitVec.ofNat 64 a := by
  show BitVec.ofInt 64 (a : Int) = _
  rw [BitVec.ofInt_natCast]
theorem z_ti {v : BitVec 32} {n : Nat} (h : v.toNat = n) (hn : n < 2147483648) : v.toInt = (n : Int) := by
  rw [BitVec.toInt_eq_toNat_of_lt (by omega), h]
theorem z_tiL {v : BitVec 64} {n : Nat} (h : v.toNat = n) (hn : n < 9223372036854775808) : v.toInt = (n : Int) := by
  rw [BitVec.toInt_eq_toNat_of_lt (by omega), h]
theorem zand_n {a b : Nat} (ha : a < 2147483648) (hb : b < 2147483648) : zand (a : Int) (b : Int) = ((a &&& b : Nat) : Int) := by
  refine z_ti (v := (Int32.ofInt (a : Int) &&& Int32.ofInt (b : Int)).toBitVec) ?_ (Nat.lt_of_le_of_lt Nat.and_le_left ha)
  rw [Int32.toBitVec_and, z_bv ha, z_bv hb, BitVec.toNat_and, BitVec.toNat_ofNat, BitVec.toNat_ofNat, Nat.mod_eq_of_lt (by omega), Nat.mod_eq_of_lt (by omega)]
theorem zor_n {a b : Nat} (ha : a < 2147483648) (hb : b < 2147483648) : zor (a : Int) (b : Int) = ((a ||| b : Nat) : Int) := by
  refine z_ti (v := (Int32.ofInt (a : Int) ||| Int32.ofInt (b : Int)).toBitVec) ?_ (Nat.or_lt_two_pow (n := 31) ha hb)
  rw [Int32.toBitVec_or, z_bv ha, z_bv hb, BitVec.toNat_or, BitVec.toNat_ofNat, BitVec.toNat_ofNat, Nat.mod_eq_of_lt (by omega), Nat.mod_eq_of_lt (by omega)]
theorem zxor_n {a b : Nat} (ha : a < 2147483648) (hb : b < 2147483648) : zxor (a : Int) (b : Int) = ((a ^^^ b : Nat) : Int) := by
  refine z_ti (v := (Int32.ofInt (a : Int) ^^^ Int32.ofInt (b : Int)).toBitVec) ?_ (Nat.xor_lt_two_pow (n := 31) ha hb)
  rw [Int32.toBitVec_xor, z_bv ha, z_bv hb, BitVec.toNat_xor, BitVec.toNat_ofNat, BitVec.toNat_ofNat, Nat.mod_eq_of_lt (by omega), Nat.mod_eq_of_lt (by omega)]
theorem zland_n {a b : Nat} (ha : a < 9223372036854775808) (hb : b < 9223372036854775808) : zland (a : Int) (b : Int) = ((a &&& b : Nat) : Int) := by
  refine z_tiL (v := (Int64.ofInt (a : Int) &&& Int64.ofInt (b : Int)).toBitVec) ?_ (Nat.lt_of_le_of_lt Nat.and_le_left ha)
  rw [Int64.toBitVec_and, z_bvL ha, z_bvL hb, BitVec.toNat_and, BitVec.toNat_ofNat, BitVec.toNat_ofNat, Nat.mod_eq_of_lt (by omega), Nat.mod_eq_of_lt (by omega)]
theorem zlor_n {a b : Nat} (ha : a < 9223372036854775808) (hb : b < 9223372036854775808) : zlor (a : Int) (b : Int) = ((a ||| b : Nat) : Int) := by
  refine z_tiL (v := (Int64.ofInt (a : Int) ||| Int64.ofInt (b : Int)).toBitVec) ?_ (Nat.or_lt_two_pow (n := 63) ha hb)
  rw [Int64.toBitVec_or, z_bvL ha, z_bvL hb, BitVec.toNat_or, BitVec.toNat_ofNat, BitVec.toNat_ofNat, Nat.mod_eq_of_lt (by omega), Nat.mod_eq_of_lt (by omega)]
theorem z_sh : ∀ k : Nat, k < 32 → (((Int32.ofInt (k : Int)) &&& 31).toBitVec.smod 32).toNat = k := by decide +kernel
theorem z_shu : ∀ k : Nat, k < 32 → (((Int32.ofInt (k : Int)).toUInt32 &&& Int32.toUInt32 31).toBitVec % 32).toNat = k := by decide +kernel
theorem z_shL : ∀ k : Nat, k < 64 → (((Int32.ofInt (k : Int)).toInt64 &&& 63).toBitVec.smod 64).toNat = k := by decide +kernel
theorem zshl_n {a k : Nat} (hk : k < 32) (ha : a * 2 ^ k < 2147483648) : zshl (a : Int) (k : Int) = ((a * 2 ^ k : Nat) : Int) := by
  have ha2 : a < 2147483648 := Nat.lt_of_le_of_lt (Nat.le_mul_of_pos_right a (Nat.two_pow_pos k)) ha
  refine z_ti (v := (Int32.ofInt (a : Int) <<< (Int32.ofInt (k : Int) &&& 31)).toBitVec) ?_ ha
  rw [Int32.toBitVec_shiftLeft, BitVec.shiftLeft_eq', z_sh k hk, z_bv ha2, BitVec.toNat_shiftLeft, BitVec.toNat_ofNat, Nat.mod_eq_of_lt (show a < 2 ^ 32 by omega), Nat.shiftLeft_eq, Nat.mod_eq_of_lt (show a * 2 ^ k < 2 ^ 32 by omega)]
theorem zshr_n {a k : Nat} (hk : k < 32) (ha : a < 2147483648) : zshr (a : Int) (k : Int) = ((a / 2 ^ k : Nat) : Int) := by
  refine z_ti (v := (Int32.ofInt (a : Int) >>> (Int32.ofInt (k : Int) &&& 31)).toBitVec) ?_ (Nat.lt_of_le_of_lt (Nat.div_le_self _ _) ha)
  rw [Int32.toBitVec_shiftRight, BitVec.sshiftRight_eq', z_sh k hk, z_bv ha, BitVec.sshiftRight_eq_of_msb_false (by rw [BitVec.msb_eq_decide]; simp [BitVec.toNat_ofNat]; omega), BitVec.toNat_ushiftRight, BitVec.toNat_ofNat, Nat.mod_eq_of_lt (by omega), Nat.shiftRight_eq_div_pow]
theorem zushr_n {a k : Nat} (hk : k < 32) (ha : a < 2147483648) : zushr (a : Int) (k : Int) = ((a / 2 ^ k : Nat) : Int) := by
  refine z_ti (v := ((Int32.ofInt (a : Int)).toUInt32 >>> ((Int32.ofInt (k : Int)).toUInt32 &&& Int32.toUInt32 31)).toInt32.toBitVec) ?_ (Nat.lt_of_le_of_lt (Nat.div_le_self _ _) ha)
  show (((Int32.ofInt (a : Int)).toUInt32 >>> ((Int32.ofInt (k : Int)).toUInt32 &&& Int32.toUInt32 31)).toBitVec).toNat = _
  rw [UInt32.toBitVec_shiftRight, BitVec.ushiftRight_eq', z_shu k hk, BitVec.toNat_ushiftRight]
  show (Int32.ofInt (a : Int)).toBitVec.toNat >>> k = _
  rw [z_bv ha, BitVec.toNat_ofNat, Nat.mod_eq_of_lt (by omega), Nat.shiftRight_eq_div_pow]
theorem zlshl_n {a k : Nat} (hk : k < 64) (ha : a * 2 ^ k < 9223372036854775808) : zlshl (a : Int) (k : Int) = ((a * 2 ^ k : Nat) : Int) := by
  have ha2 : a < 9223372036854775808 := Nat.lt_of_le_of_lt (Nat.le_mul_of_pos_right a (Nat.two_pow_pos k)) ha
  refine z_tiL (v := (Int64.ofInt (a : Int) <<< ((Int32.ofInt (k : Int)).toInt64 &&& 63)).toBitVec) ?_ ha
  rw [Int64.toBitVec_shiftLeft, BitVec.shiftLeft_eq', z_shL k hk, z_bvL ha2, BitVec.toNat_shiftLeft, BitVec.toNat_ofNat, Nat.mod_eq_of_lt (show a < 2 ^ 64 by omega), Nat.shiftLeft_eq, Nat.mod_eq_of_lt (show a * 2 ^ k < 2 ^ 64 by omega)]
theorem zlshr_n {a k : Nat} (hk : k < 64) (ha : a < 9223372036854775808) : zlshr (a : Int) (k : Int) = ((a / 2 ^ k : Nat) : Int) := by
  refine z_tiL (v := (Int64.ofInt (a : Int) >>> ((Int32.ofInt (k : Int)).toInt64 &&& 63)).toBitVec) ?_ (Nat.lt_of_le_of_lt (Nat.div_le_self _ _) ha)
  rw [Int64.toBitVec_shiftRight, BitVec.sshiftRight_eq', z_shL k hk, z_bvL ha, BitVec.sshiftRight_eq_of_msb_false (by rw [BitVec.msb_eq_decide]; simp [BitVec.toNat_ofNat]; omega), BitVec.toNat_ushiftRight, BitVec.toNat_ofNat, Nat.mod_eq_of_lt (by omega), Nat.shiftRight_eq_div_pow]
