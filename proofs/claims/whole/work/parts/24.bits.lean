/-! ands, ors and shifts of small numbers -/
theorem nI_or (a b : Nat) : nI a ||| nI b = nI (a ||| b) := by
  apply Int32.toBitVec_inj.mp
  apply BitVec.eq_of_getLsbD_eq
  intro i hi
  simp [nI, Nat.testBit_or]
theorem iv_nn {z : Int} (h : 0 ≤ z) : iv z = nI z.toNat := by
  rw [← iv_nat]
  congr 1
  omega
theorem toInt_nI {n : Nat} (h : n < 2147483648) : (nI n).toInt = n := nI_toInt (by omega)
theorem zor_key {w l : Nat} (hw : w < 2097152) (hl : l < 512) : zor (zshl (w : Int) 9) (l : Int) = (w * 512 + l : Nat) := by
  have e1 : zshl (w : Int) 9 = (w * 512 : Nat) := by
    unfold zshl
    rw [iv_nat, show iv 9 = nI 9 from rfl, pk_shlN (nI 9 &&& 31) 9 (by decide) (by omega), toInt_nI (by omega)]
  unfold zor
  rw [e1, iv_nat, iv_nat, nI_or, toInt_nI]
  · have := Nat.two_pow_add_eq_or_of_lt (i := 9) (b := l) (by omega) w
    rw [show w * 512 = 2 ^ 9 * w by omega, ← this]
  · have := Nat.two_pow_add_eq_or_of_lt (i := 9) (b := l) (by omega) w
    rw [show w * 512 = 2 ^ 9 * w by omega, ← this]
    omega
theorem zand_key {w l : Nat} (hw : w < 2097152) (hl : l < 512) : zand ((w * 512 + l : Nat) : Int) 511 = l := by
  unfold zand
  rw [iv_nat, show iv 511 = 511 from rfl, pk_andN (by omega) 9 (by decide), toInt_nI (by omega)]
  omega
theorem zshr_key {w l : Nat} (hw : w < 2097152) (hl : l < 512) : zshr ((w * 512 + l : Nat) : Int) 9 = w := by
  unfold zshr
  rw [iv_nat, show iv 9 = nI 9 from rfl, pk_shrN (by omega) (nI 9 &&& 31) 9 (by decide), toInt_nI (by omega)]
  omega
