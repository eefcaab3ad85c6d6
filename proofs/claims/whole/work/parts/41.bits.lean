/-! sets of bits -/
theorem zb_ofn {m : Nat} (hm : m < 65536) : (Int32.ofInt (m : Int)).toBitVec = BitVec.ofNat 32 m := by
  apply BitVec.eq_of_toNat_eq
  show (BitVec.ofInt 32 (m : Int)).toNat = _
  rw [BitVec.toNat_ofInt, BitVec.toNat_ofNat]
  omega
theorem zb_or_nat {m k : Nat} (hm : m < 256) (hk : k < 256) : zb_or (m : Int) (k : Int) = ((m ||| k : Nat) : Int) := by
  have hlt : m ||| k < 2 ^ 8 := Nat.or_lt_two_pow hm hk
  unfold zb_or
  show (Int32.ofInt (m : Int) ||| Int32.ofInt (k : Int)).toBitVec.toInt = _
  rw [Int32.toBitVec_or, zb_ofn (by omega), zb_ofn (by omega), BitVec.toInt_eq_toNat_of_lt]
  · rw [BitVec.toNat_or, BitVec.toNat_ofNat, BitVec.toNat_ofNat, Nat.mod_eq_of_lt (by omega), Nat.mod_eq_of_lt (by omega)]
  · rw [BitVec.toNat_or, BitVec.toNat_ofNat, BitVec.toNat_ofNat, Nat.mod_eq_of_lt (by omega), Nat.mod_eq_of_lt (by omega)]
    omega
theorem zb_bit_nat : ∀ m, m < 256 → ∀ r, r < 8 → zb_bit ((m : Nat) : Int) ((r : Nat) : Int) = m.testBit r := by decide +kernel
theorem zb_shl_nat : ∀ r, r < 8 → zb_shl 1 ((r : Nat) : Int) = ((2 ^ r : Nat) : Int) := by decide +kernel
theorem rl_add_V {g : Int → Int} {r s : Int} (hg : rl_V g) (hs : 0 ≤ s ∧ s < 8) : rl_V (rl_add g r s) := fun i h1 h2 => by
  have hi := hg i h1 h2
  have hs' := hg s hs.1 hs.2
  unfold rl_add
  split
  · have e := zb_or_nat (m := (g i).toNat) (k := (g s).toNat) (by omega) (by omega)
    rw [Int.toNat_of_nonneg hi.1, Int.toNat_of_nonneg hs'.1] at e
    have hlt : (g i).toNat ||| (g s).toNat < 2 ^ 8 := Nat.or_lt_two_pow (by omega) (by omega)
    omega
  · exact hi
