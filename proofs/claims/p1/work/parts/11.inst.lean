theorem z_add_ok (a b : Nat) (_ : a < 4294967296) (_ : b < 4294967296) : z_add a b < 4294967296 ∧ nI a + nI b = nI (z_add a b) := by
  refine ⟨Nat.mod_lt _ (by decide), ?_⟩
  rw [nI_add]
  exact (zI_mod (a + b)).symm
theorem z_sub_ok (a b : Nat) (ha : a < 4294967296) (hb : b < 4294967296) : z_sub a b < 4294967296 ∧ nI a - nI b = nI (z_sub a b) := by
  refine ⟨Nat.mod_lt _ (by decide), ?_⟩
  rw [show nI (z_sub a b) = nI (a + (4294967296 - b)) from zI_mod _]
  apply Int32.toBitVec_inj.mp
  apply BitVec.eq_of_toNat_eq
  show (BitVec.ofNat 32 a - BitVec.ofNat 32 b).toNat = (a + (4294967296 - b)) % 4294967296
  rw [BitVec.toNat_sub, BitVec.toNat_ofNat, BitVec.toNat_ofNat, Nat.mod_eq_of_lt ha, Nat.mod_eq_of_lt hb]
  show (4294967296 - b + a) % 4294967296 = _
  rw [Nat.add_comm]
theorem z_mul_ok (a b : Nat) (_ : a < 4294967296) (_ : b < 4294967296) : z_mul a b < 4294967296 ∧ nI a * nI b = nI (z_mul a b) := by
  refine ⟨Nat.mod_lt _ (by decide), ?_⟩
  rw [pk_mul]
  exact (zI_mod (a * b)).symm
theorem z_and_ok (a b : Nat) (ha : a < 4294967296) (hb : b < 4294967296) : z_and a b < 4294967296 ∧ nI a &&& nI b = nI (z_and a b) := by
  refine ⟨Nat.lt_of_le_of_lt Nat.and_le_left ha, ?_⟩
  apply Int32.toBitVec_inj.mp
  apply BitVec.eq_of_toNat_eq
  show (BitVec.ofNat 32 a &&& BitVec.ofNat 32 b).toNat = (a &&& b) % 4294967296
  rw [BitVec.toNat_and, BitVec.toNat_ofNat, BitVec.toNat_ofNat, Nat.mod_eq_of_lt ha, Nat.mod_eq_of_lt hb, Nat.mod_eq_of_lt (Nat.lt_of_le_of_lt Nat.and_le_left ha)]
theorem z_or_ok (a b : Nat) (ha : a < 4294967296) (hb : b < 4294967296) : z_or a b < 4294967296 ∧ nI a ||| nI b = nI (z_or a b) := by
  have hlt : a ||| b < 2 ^ 32 := Nat.or_lt_two_pow ha hb
  refine ⟨hlt, ?_⟩
  apply Int32.toBitVec_inj.mp
  apply BitVec.eq_of_toNat_eq
  show (BitVec.ofNat 32 a ||| BitVec.ofNat 32 b).toNat = (a ||| b) % 4294967296
  rw [BitVec.toNat_or, BitVec.toNat_ofNat, BitVec.toNat_ofNat, Nat.mod_eq_of_lt ha, Nat.mod_eq_of_lt hb, Nat.mod_eq_of_lt hlt]
theorem z_sm : ∀ n, n < 32 → ((nI n).toBitVec.smod 32).toNat = n := by decide +kernel
theorem z_and31 {b : Nat} (hb : b < 4294967296) : nI b &&& 31 = nI (b % 32) := pk_andN (n := b) hb (m := 31) 5 (by decide)
theorem z_shl_ok (a b : Nat) (ha : a < 4294967296) (hb : b < 4294967296) : z_shl a b < 4294967296 ∧ nI a <<< (nI b &&& 31) = nI (z_shl a b) := by
  refine ⟨Nat.mod_lt _ (by decide), ?_⟩
  rw [z_and31 hb]
  apply Int32.toBitVec_inj.mp
  apply BitVec.eq_of_toNat_eq
  rw [pk_shl (nI a) (nI (b % 32)) (b % 32) (z_sm _ (Nat.mod_lt _ (by decide)))]
  show a % 4294967296 * 2 ^ (b % 32) % 4294967296 = (a * 2 ^ (b % 32) % 4294967296) % 4294967296
  rw [Nat.mod_eq_of_lt ha, Nat.mod_mod]
theorem z_pw : ∀ k, k < 32 → 2147483648 / 2 ^ k * 2 ^ k = 2147483648 ∧ 0 < 2 ^ k ∧ 2147483648 / 2 ^ k ≤ 2147483648 := by decide +kernel
theorem z_shr_ok (a b : Nat) (ha : a < 4294967296) (hb : b < 4294967296) : z_shr a b < 4294967296 ∧ nI a >>> (nI b &&& 31) = nI (z_shr a b) := by
  refine ⟨Nat.mod_lt _ (by decide), ?_⟩
  rw [z_and31 hb]
  apply Int32.toInt_inj.mp
  have hk : b % 32 < 32 := Nat.mod_lt _ (by decide)
  rw [pk_shr (nI a) (nI (b % 32)) (b % 32) (z_sm _ hk), zI_toInt ha, zI_toInt (a := z_shr a b) (Nat.mod_lt _ (by decide))]
  show ((zsg a : Int) - 2147483648) >>> (b % 32) = ((((zsg a / 2 ^ (b % 32) + (4294967296 - 2147483648 / 2 ^ (b % 32))) % 4294967296 + 2147483648) % 4294967296 : Nat) : Int) - 2147483648
  have hs : zsg a < 4294967296 := Nat.mod_lt _ (by decide)
  obtain ⟨p1, p2, p3⟩ := z_pw (b % 32) hk
  rw [Int.shiftRight_eq_div_pow]
  generalize 2147483648 / 2 ^ (b % 32) = w at *
  generalize hP : 2 ^ (b % 32) = P at *
  generalize zsg a = x at *
  have e1 := Nat.div_add_mod x P
  have e2 := Nat.mod_lt x p2
  have e3 : x / P ≤ x := Nat.div_le_self x P
  generalize x / P = q at *
  generalize x % P = r at *
  have hq : q < 2 * w := by
    refine Nat.lt_of_mul_lt_mul_left (a := P) ?_
    have h3 : P * (2 * w) = 4294967296 := by rw [Nat.mul_comm P, Nat.mul_assoc, p1]
    omega
  have e4 : ((x : Int) - 2147483648) / (P : Int) = (q : Int) - (w : Int) := by
    have : (x : Int) - 2147483648 = (r : Int) + (P : Int) * ((q : Int) - (w : Int)) := by
      rw [Int.mul_sub]
      have h1 : (P : Int) * (w : Int) = 2147483648 := by
        have := congrArg (fun n : Nat => (n : Int)) p1
        simp only [Int.natCast_mul] at this
        rw [Int.mul_comm]; exact this
      have h2 : (P : Int) * (q : Int) + (r : Int) = (x : Int) := by
        have := congrArg (fun n : Nat => (n : Int)) e1
        simp only [Int.natCast_add, Int.natCast_mul] at this
        exact this
      omega
    rw [this, Int.add_mul_ediv_left _ _ (by omega), Int.ediv_eq_zero_of_lt (by omega) (by omega)]
    omega
  have hpow : ((2 : Int) ^ (b % 32)) = (P : Int) := by rw [← hP]; norm_cast
  first
    | rw [hpow, e4]; omega
    | (rw [show ((2 ^ (b % 32) : Nat) : Int) = (P : Int) by rw [hP]]; rw [e4]; omega)
    | (rw [hP, e4]; omega)
    | (rw [e4]; omega)
