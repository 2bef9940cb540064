theorem zI_mod (n : Nat) : nI (n % 4294967296) = nI n := by
  show Int32.ofNat (n % 4294967296) = Int32.ofNat n
  apply Int32.toBitVec_inj.mp
  apply BitVec.eq_of_toNat_eq
  show (n % 4294967296) % 4294967296 = n % 4294967296
  omega
theorem zI_bv (n : Nat) : (nI n).toBitVec = BitVec.ofNat 32 n := rfl
theorem zI_toInt {a : Nat} (h : a < 4294967296) : (nI a).toInt = (zsg a : Int) - 2147483648 := by
  show (BitVec.ofNat 32 a).toInt = ((((a + 2147483648) % 4294967296 : Nat)) : Int) - 2147483648
  rw [BitVec.toInt_eq_toNat_cond, BitVec.toNat_ofNat]
  have e : a % 2 ^ 32 = a := Nat.mod_eq_of_lt h
  rw [e]
  split <;> omega
theorem zI_lt {a b : Nat} (ha : a < 4294967296) (hb : b < 4294967296) : nI a < nI b ↔ z_lt a b = true := by
  rw [Int32.lt_iff_toInt_lt, zI_toInt ha, zI_toInt hb]
  show _ ↔ Nat.ble (zsg a + 1) (zsg b) = true
  constructor
  · intro h
    exact Nat.ble_eq_true_of_le (by omega)
  · intro h
    have := Nat.le_of_ble_eq_true h
    omega
theorem zI_le {a b : Nat} (ha : a < 4294967296) (hb : b < 4294967296) : nI a ≤ nI b ↔ z_le a b = true := by
  rw [Int32.le_iff_toInt_le, zI_toInt ha, zI_toInt hb]
  show _ ↔ Nat.ble (zsg a) (zsg b) = true
  constructor
  · intro h
    exact Nat.ble_eq_true_of_le (by omega)
  · intro h
    have := Nat.le_of_ble_eq_true h
    omega
theorem zI_eq {a b : Nat} (ha : a < 4294967296) (hb : b < 4294967296) : nI a = nI b ↔ Nat.beq a b = true := by
  constructor
  · intro h
    have h := congrArg (fun x : Int32 => x.toBitVec.toNat) h
    have h : a % 4294967296 = b % 4294967296 := h
    have : a = b := by omega
    rw [this]
    exact Nat.beq_refl b
  · intro h
    rw [Nat.eq_of_beq_eq_true h]
