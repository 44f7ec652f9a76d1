/-! numbers of Z and of the machine -/
theorem zo_add (a b : Int) : Int32.ofInt (a + b) = Int32.ofInt a + Int32.ofInt b := Int32.ofInt_add a b
theorem zo_sub (a b : Int) : Int32.ofInt (a - b) = Int32.ofInt a - Int32.ofInt b := Int32.ofInt_sub a b
theorem zo_mul (a b : Int) : Int32.ofInt (a * b) = Int32.ofInt a * Int32.ofInt b := Int32.ofInt_mul a b
theorem zo_neg (a : Int) : Int32.ofInt (-a) = -Int32.ofInt a := Int32.ofInt_neg a
theorem zo_to (a : Int) : (Int32.ofInt a).toInt = zw a := Int32.toInt_ofInt
theorem zo_of (x : Int32) : Int32.ofInt x.toInt = x := Int32.ofInt_toInt x
theorem zo_inj {a b : Int} : Int32.ofInt a = Int32.ofInt b ↔ zw a = zw b := by rw [← Int32.toInt_inj, zo_to, zo_to]
theorem zo_lt {a b : Int} : Int32.ofInt a < Int32.ofInt b ↔ zw a < zw b := by rw [Int32.lt_iff_toInt_lt, zo_to, zo_to]
theorem zo_le {a b : Int} : Int32.ofInt a ≤ Int32.ofInt b ↔ zw a ≤ zw b := by rw [Int32.le_iff_toInt_le, zo_to, zo_to]
theorem zw_0 : zw 0 = 0 := by decide +kernel
theorem zo_0 : Int32.ofInt 0 = 0 := by decide +kernel
theorem zw_id {a : Int} (h1 : -2147483648 ≤ a) (h2 : a < 2147483648) : zw a = a := by
  unfold zw
  rw [Int.bmod_def]
  omega
theorem zw_lt (a : Int) : zw a < 2147483648 := by
  unfold zw
  rw [Int.bmod_def]
  omega
theorem zw_ge (a : Int) : -2147483648 ≤ zw a := by
  unfold zw
  rw [Int.bmod_def]
  omega
theorem zw_w (a : Int) : zw (zw a) = zw a := zw_id (zw_ge a) (zw_lt a)
theorem zo_w (a : Int) : Int32.ofInt (zw a) = Int32.ofInt a := zo_inj.mpr (zw_w a)
theorem zq_to (a : Int) : (Int64.ofInt a).toInt = zw6 a := Int64.toInt_ofInt
theorem zq_of (x : Int64) : Int64.ofInt x.toInt = x := Int64.ofInt_toInt x
theorem zq_i2l (a : Int) : (Int32.ofInt a).toInt64 = Int64.ofInt (zw a) := by
  apply Int64.toInt_inj.mp
  rw [Int32.toInt_toInt64, zo_to, zq_to]
  have h1 := zw_ge a
  have h2 := zw_lt a
  unfold zw6
  rw [Int.bmod_def]
  omega
theorem zq_l2i (a : Int) : (Int64.ofInt a).toInt32 = Int32.ofInt a := by
  apply Int32.toInt_inj.mp
  rw [Int64.toInt_toInt32, zo_to, zq_to]
  unfold zw zw6
  rw [Int.bmod_def, Int.bmod_def, Int.bmod_def]
  omega
theorem zo_clamp (a : Int) : (Int32.ofInt a).toNatClampNeg = (zw a).toNat := by
  rw [← zo_to]; rfl
theorem zo_in {a : Int} {n : Nat} (h : 0 ≤ zw a ∧ zw a < (n : Int)) : vp_in (Int32.ofInt a) n := by
  rw [vp_in_iff, zo_to]; exact h
theorem zo_i2c (a : Int) : ((Int32.ofInt a).toUInt32 % 65536).toInt32 = Int32.ofInt (a % 65536) := by
  rw [pk_char]
  apply Int32.toInt_inj.mp
  have h0 : (Int32.ofInt a).toBitVec.toNat = (a % 4294967296).toNat := by
    show (BitVec.ofInt 32 a).toNat = _
    rw [BitVec.toNat_ofInt]
    rfl
  rw [h0, nI_toInt (by omega), zo_to, zw_id (by omega) (by omega)]
  omega
theorem zo_nar {a : Int} : vp_nar .char (Int32.ofInt a) = Int32.ofInt (a % 65536) := by
  rw [vp_nar_char, ← zo_i2c]
  congr 1
theorem zo_8 {a : Int} (h1 : -128 ≤ a) (h2 : a < 128) : (Int8.ofInt a).toInt32 = Int32.ofInt a := by
  apply Int32.toInt_inj.mp
  rw [Int8.toInt_toInt32, Int8.toInt_ofInt, zo_to, zw_id (by omega) (by omega)]
  rw [Int.bmod_def]
  simp only [Int8.size]
  omega
theorem zo_16 {a : Int} (h1 : -32768 ≤ a) (h2 : a < 32768) : (Int16.ofInt a).toInt32 = Int32.ofInt a := by
  apply Int32.toInt_inj.mp
  rw [Int16.toInt_toInt32, Int16.toInt_ofInt, zo_to, zw_id (by omega) (by omega)]
  rw [Int.bmod_def]
  simp only [Int16.size]
  omega
