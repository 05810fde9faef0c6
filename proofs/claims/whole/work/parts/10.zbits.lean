/-! bit operations over Int, by the machine's own -/
theorem of32 (x : Int32) : -2147483648 ≤ x.toInt ∧ x.toInt < 2147483648 := ⟨by have := Int32.le_toInt x; omega, by have := Int32.toInt_lt x; omega⟩
def zand (a b : Int) : Int := (iv a &&& iv b).toInt
theorem zand_in (a b : Int) : -2147483648 ≤ zand a b ∧ zand a b < 2147483648 := of32 _
theorem zand_iv (a b : Int) : iv a &&& iv b = iv (zand a b) := (iv_of _).symm
def zor (a b : Int) : Int := (iv a ||| iv b).toInt
theorem zor_in (a b : Int) : -2147483648 ≤ zor a b ∧ zor a b < 2147483648 := of32 _
theorem zor_iv (a b : Int) : iv a ||| iv b = iv (zor a b) := (iv_of _).symm
def zxor (a b : Int) : Int := (iv a ^^^ iv b).toInt
theorem zxor_in (a b : Int) : -2147483648 ≤ zxor a b ∧ zxor a b < 2147483648 := of32 _
theorem zxor_iv (a b : Int) : iv a ^^^ iv b = iv (zxor a b) := (iv_of _).symm
def zshl (a b : Int) : Int := (iv a <<< (iv b &&& 31)).toInt
theorem zshl_in (a b : Int) : -2147483648 ≤ zshl a b ∧ zshl a b < 2147483648 := of32 _
theorem zshl_iv (a b : Int) : iv a <<< (iv b &&& 31) = iv (zshl a b) := (iv_of _).symm
def zshr (a b : Int) : Int := (iv a >>> (iv b &&& 31)).toInt
theorem zshr_in (a b : Int) : -2147483648 ≤ zshr a b ∧ zshr a b < 2147483648 := of32 _
theorem zshr_iv (a b : Int) : iv a >>> (iv b &&& 31) = iv (zshr a b) := (iv_of _).symm
def zushr (a b : Int) : Int := (((iv a).toUInt32 >>> ((iv b).toUInt32 &&& Int32.toUInt32 31)).toInt32).toInt
theorem zushr_in (a b : Int) : -2147483648 ≤ zushr a b ∧ zushr a b < 2147483648 := of32 _
theorem zushr_iv (a b : Int) : ((iv a).toUInt32 >>> ((iv b).toUInt32 &&& Int32.toUInt32 31)).toInt32 = iv (zushr a b) := (iv_of _).symm
section AXB
variable {M : ax_M} {d pc : Nat} {lv : ax_L} {st : List Value} {h : ax_H} {Q : Option Value → ax_H → Prop}
theorem az_iand {a b : Int} (hd : decode M.2.1 pc = .ok (.iand, 1)) (k : ax_W M d (pc + 1) lv (.int (iv (zand a b)) :: st) h Q) : ax_W M d pc lv (.int (iv b) :: .int (iv a) :: st) h Q := ax_iand hd (by rw [zand_iv]; exact k)
theorem az_ior {a b : Int} (hd : decode M.2.1 pc = .ok (.ior, 1)) (k : ax_W M d (pc + 1) lv (.int (iv (zor a b)) :: st) h Q) : ax_W M d pc lv (.int (iv b) :: .int (iv a) :: st) h Q := ax_ior hd (by rw [zor_iv]; exact k)
theorem az_ixor {a b : Int} (hd : decode M.2.1 pc = .ok (.ixor, 1)) (k : ax_W M d (pc + 1) lv (.int (iv (zxor a b)) :: st) h Q) : ax_W M d pc lv (.int (iv b) :: .int (iv a) :: st) h Q := ax_ixor hd (by rw [zxor_iv]; exact k)
theorem az_ishl {a b : Int} (hd : decode M.2.1 pc = .ok (.ishl, 1)) (k : ax_W M d (pc + 1) lv (.int (iv (zshl a b)) :: st) h Q) : ax_W M d pc lv (.int (iv b) :: .int (iv a) :: st) h Q := ax_ishl hd (by rw [zshl_iv]; exact k)
theorem az_ishr {a b : Int} (hd : decode M.2.1 pc = .ok (.ishr, 1)) (k : ax_W M d (pc + 1) lv (.int (iv (zshr a b)) :: st) h Q) : ax_W M d pc lv (.int (iv b) :: .int (iv a) :: st) h Q := ax_ishr hd (by rw [zshr_iv]; exact k)
theorem az_iushr {a b : Int} (hd : decode M.2.1 pc = .ok (.iushr, 1)) (k : ax_W M d (pc + 1) lv (.int (iv (zushr a b)) :: st) h Q) : ax_W M d pc lv (.int (iv b) :: .int (iv a) :: st) h Q := ax_iushr hd (by rw [zushr_iv]; exact k)
theorem az_ldc {index : Nat} (v : Int) (hd : decode M.2.1 pc = .ok (.ldc index, 2)) (hw : Cond.constant M.1.cls index (iv v) ∈ ax_all) (k : ax_W M d (pc + 2) lv (.int (iv v) :: st) h Q) : ax_W M d pc lv st h Q := ax_ldc hd hw k
end AXB
section AXMM
variable {M : ax_M} {d pc : Nat} {lv : ax_L} {st : List Value} {h : ax_H} {Q : Option Value → ax_H → Prop}
theorem az_mmin {a b : Int} {idx : Nat} (hd : decode M.2.1 pc = .ok (.invokestatic idx, 3)) (hl : Cond.methodLink M.1.cls idx Lib.Math.min.name ∈ ax_all) (hd1 : 1 ≤ d) (hcat : (st.map fun v => v.category).sum ≤ 8) (ha : -2147483648 ≤ a ∧ a < 2147483648) (hb : -2147483648 ≤ b ∧ b < 2147483648) (kk : ax_W M d (pc + 3) lv (.int (iv (min a b)) :: st) h Q) : ax_W M d pc lv (.int (iv b) :: .int (iv a) :: st) h Q := by
  refine ax_mmin hd hl ma_min_s ma_i ma_min_c hd1 hcat ?_
  have e : (if iv b < iv a then iv b else iv a) = iv (min a b) := by
    by_cases q : b < a
    · rw [if_pos ((iv_lt hb ha).mpr q), Int.min_eq_right (by omega)]
    · rw [if_neg (mt (iv_lt hb ha).mp q), Int.min_eq_left (by omega)]
  rw [e]
  exact kk
theorem az_mmax {a b : Int} {idx : Nat} (hd : decode M.2.1 pc = .ok (.invokestatic idx, 3)) (hl : Cond.methodLink M.1.cls idx Lib.Math.max.name ∈ ax_all) (hd1 : 1 ≤ d) (hcat : (st.map fun v => v.category).sum ≤ 8) (ha : -2147483648 ≤ a ∧ a < 2147483648) (hb : -2147483648 ≤ b ∧ b < 2147483648) (kk : ax_W M d (pc + 3) lv (.int (iv (max a b)) :: st) h Q) : ax_W M d pc lv (.int (iv b) :: .int (iv a) :: st) h Q := by
  refine ax_mmax hd hl ma_max_s ma_i ma_max_c hd1 hcat ?_
  have e : (if iv a < iv b then iv b else iv a) = iv (max a b) := by
    by_cases q : a < b
    · rw [if_pos ((iv_lt ha hb).mpr q), Int.max_eq_right (by omega)]
    · rw [if_neg (mt (iv_lt ha hb).mp q), Int.max_eq_left (by omega)]
  rw [e]
  exact kk
end AXMM
