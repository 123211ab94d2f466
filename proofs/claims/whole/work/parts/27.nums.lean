/-! ===== numbers ===== -/
theorem zi2b_r (y : Int) : -128 ≤ zi2b y ∧ zi2b y ≤ 127 := by
  unfold zi2b
  rw [Int8.toInt_toInt32]
  have h1 := Int8.le_toInt ((Int32.ofInt y).toInt8)
  have h2 := Int8.toInt_lt ((Int32.ofInt y).toInt8)
  omega
theorem zbv_and (b : BitVec 32) (s : Nat) : (b >>> s &&& 255#32).toNat = b.toNat / 2 ^ s % 256 := by
  rw [BitVec.toNat_and, BitVec.toNat_ushiftRight, Nat.shiftRight_eq_div_pow]
  rw [show (255#32).toNat = 2 ^ 8 - 1 from rfl, Nat.and_two_pow_sub_one_eq_mod]
theorem zbv_s (b : BitVec 32) (s : Nat) (hs : s ≤ 24) : ((b.sshiftRight s).setWidth 8).toNat = b.toNat / 2 ^ s % 256 := by
  have e : (b.sshiftRight s).setWidth 8 = (b >>> s).setWidth 8 := by
    apply BitVec.eq_of_getLsbD_eq
    intro i hi
    rw [BitVec.getLsbD_setWidth, BitVec.getLsbD_setWidth, BitVec.getLsbD_sshiftRight, BitVec.getLsbD_ushiftRight]
    have h1 : s + i < 32 := by omega
    simp [h1, show ¬ 32 ≤ i by omega]
  rw [e, BitVec.toNat_setWidth, BitVec.toNat_ushiftRight, Nat.shiftRight_eq_div_pow]
def zsb (v : Int) : Int := if v < 128 then v else v - 256
theorem zby_0 (x : Int) : zand (zushr x 0) 255 = (((Int32.ofInt x).toBitVec.toNat / 2 ^ 0 % 256 : Nat) : Int) := by
  have e : (((Int32.ofInt x).toUInt32 >>> ((Int32.ofInt 0).toUInt32 &&& Int32.toUInt32 31)).toInt32 &&& Int32.ofInt 255).toBitVec = ((Int32.ofInt x).toBitVec >>> 0 &&& 255#32) := rfl
  unfold zand zushr
  rw [zoi]
  show BitVec.toInt _ = _
  rw [e, BitVec.toInt_eq_toNat_of_lt (by rw [zbv_and]; omega), zbv_and]
theorem zbm_0 (x : Int) : zi2b (zshr x 0) = zsb (((Int32.ofInt x).toBitVec.toNat / 2 ^ 0 % 256 : Nat) : Int) := by
  have e : ((Int32.ofInt x >>> (Int32.ofInt 0 &&& 31)).toInt8).toBitVec = ((Int32.ofInt x).toBitVec.sshiftRight 0).setWidth 8 := by
    rw [Int32.toBitVec_toInt8, Int32.toBitVec_shiftRight, BitVec.sshiftRight_eq', BitVec.signExtend_eq_setWidth_of_le _ (by decide)]
    rfl
  unfold zi2b zshr zsb
  rw [zoi, Int8.toInt_toInt32]
  show BitVec.toInt _ = _
  rw [e, BitVec.toInt_eq_toNat_cond, zbv_s _ _ (by omega)]
  split <;> split <;> omega
theorem zby_8 (x : Int) : zand (zushr x 8) 255 = (((Int32.ofInt x).toBitVec.toNat / 2 ^ 8 % 256 : Nat) : Int) := by
  have e : (((Int32.ofInt x).toUInt32 >>> ((Int32.ofInt 8).toUInt32 &&& Int32.toUInt32 31)).toInt32 &&& Int32.ofInt 255).toBitVec = ((Int32.ofInt x).toBitVec >>> 8 &&& 255#32) := rfl
  unfold zand zushr
  rw [zoi]
  show BitVec.toInt _ = _
  rw [e, BitVec.toInt_eq_toNat_of_lt (by rw [zbv_and]; omega), zbv_and]
theorem zbm_8 (x : Int) : zi2b (zshr x 8) = zsb (((Int32.ofInt x).toBitVec.toNat / 2 ^ 8 % 256 : Nat) : Int) := by
  have e : ((Int32.ofInt x >>> (Int32.ofInt 8 &&& 31)).toInt8).toBitVec = ((Int32.ofInt x).toBitVec.sshiftRight 8).setWidth 8 := by
    rw [Int32.toBitVec_toInt8, Int32.toBitVec_shiftRight, BitVec.sshiftRight_eq', BitVec.signExtend_eq_setWidth_of_le _ (by decide)]
    rfl
  unfold zi2b zshr zsb
  rw [zoi, Int8.toInt_toInt32]
  show BitVec.toInt _ = _
  rw [e, BitVec.toInt_eq_toNat_cond, zbv_s _ _ (by omega)]
  split <;> split <;> omega
theorem zby_16 (x : Int) : zand (zushr x 16) 255 = (((Int32.ofInt x).toBitVec.toNat / 2 ^ 16 % 256 : Nat) : Int) := by
  have e : (((Int32.ofInt x).toUInt32 >>> ((Int32.ofInt 16).toUInt32 &&& Int32.toUInt32 31)).toInt32 &&& Int32.ofInt 255).toBitVec = ((Int32.ofInt x).toBitVec >>> 16 &&& 255#32) := rfl
  unfold zand zushr
  rw [zoi]
  show BitVec.toInt _ = _
  rw [e, BitVec.toInt_eq_toNat_of_lt (by rw [zbv_and]; omega), zbv_and]
theorem zbm_16 (x : Int) : zi2b (zshr x 16) = zsb (((Int32.ofInt x).toBitVec.toNat / 2 ^ 16 % 256 : Nat) : Int) := by
  have e : ((Int32.ofInt x >>> (Int32.ofInt 16 &&& 31)).toInt8).toBitVec = ((Int32.ofInt x).toBitVec.sshiftRight 16).setWidth 8 := by
    rw [Int32.toBitVec_toInt8, Int32.toBitVec_shiftRight, BitVec.sshiftRight_eq', BitVec.signExtend_eq_setWidth_of_le _ (by decide)]
    rfl
  unfold zi2b zshr zsb
  rw [zoi, Int8.toInt_toInt32]
  show BitVec.toInt _ = _
  rw [e, BitVec.toInt_eq_toNat_cond, zbv_s _ _ (by omega)]
  split <;> split <;> omega
theorem zby_24 (x : Int) : zand (zushr x 24) 255 = (((Int32.ofInt x).toBitVec.toNat / 2 ^ 24 % 256 : Nat) : Int) := by
  have e : (((Int32.ofInt x).toUInt32 >>> ((Int32.ofInt 24).toUInt32 &&& Int32.toUInt32 31)).toInt32 &&& Int32.ofInt 255).toBitVec = ((Int32.ofInt x).toBitVec >>> 24 &&& 255#32) := rfl
  unfold zand zushr
  rw [zoi]
  show BitVec.toInt _ = _
  rw [e, BitVec.toInt_eq_toNat_of_lt (by rw [zbv_and]; omega), zbv_and]
theorem zbm_24 (x : Int) : zi2b (zshr x 24) = zsb (((Int32.ofInt x).toBitVec.toNat / 2 ^ 24 % 256 : Nat) : Int) := by
  have e : ((Int32.ofInt x >>> (Int32.ofInt 24 &&& 31)).toInt8).toBitVec = ((Int32.ofInt x).toBitVec.sshiftRight 24).setWidth 8 := by
    rw [Int32.toBitVec_toInt8, Int32.toBitVec_shiftRight, BitVec.sshiftRight_eq', BitVec.signExtend_eq_setWidth_of_le _ (by decide)]
    rfl
  unfold zi2b zshr zsb
  rw [zoi, Int8.toInt_toInt32]
  show BitVec.toInt _ = _
  rw [e, BitVec.toInt_eq_toNat_cond, zbv_s _ _ (by omega)]
  split <;> split <;> omega
theorem zbm_by (x : Int) (i : Nat) (hi : i < 4) : zbm x i = zsb (zby x i) ∧ 0 ≤ zby x i ∧ zby x i ≤ 255 := by
  unfold zbm zby
  rcases (show i = 0 ∨ i = 1 ∨ i = 2 ∨ i = 3 by omega) with rfl | rfl | rfl | rfl
  · rw [show (24 - 8 * ((0 : Nat) : Int)) = 24 by decide, zby_24, zbm_24]; exact ⟨rfl, by omega, by omega⟩
  · rw [show (24 - 8 * ((1 : Nat) : Int)) = 16 by decide, zby_16, zbm_16]; exact ⟨rfl, by omega, by omega⟩
  · rw [show (24 - 8 * ((2 : Nat) : Int)) = 8 by decide, zby_8, zbm_8]; exact ⟨rfl, by omega, by omega⟩
  · rw [show (24 - 8 * ((3 : Nat) : Int)) = 0 by decide, zby_0, zbm_0]; exact ⟨rfl, by omega, by omega⟩
theorem zfm_fb (a b c d e : Int) (k : Nat) (hk : k < 20) : zfm a b c d e k = zsb (zfb a b c d e k) ∧ 0 ≤ zfb a b c d e k ∧ zfb a b c d e k ≤ 255 := by
  unfold zfm zfb
  split
  · exact zbm_by _ _ (by omega)
  split
  · exact zbm_by _ _ (by omega)
  split
  · exact zbm_by _ _ (by omega)
  split
  · exact zbm_by _ _ (by omega)
  · exact zbm_by _ _ (by omega)
/-- the tapes are alike: n bytes -/
def iT (H : zH) : Prop := ∃ n : Nat, n ≤ 400 ∧ zA H 2 3 = n ∧ zA H 106 1 = n ∧ ∀ j, j < n → (0 ≤ zA H 3 j ∧ zA H 3 j ≤ 255) ∧ zA H 107 j = zsb (zA H 3 j)
