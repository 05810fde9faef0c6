/-! ints as Int: iv z; arrays of ints as ia n g -/
def iv (z : Int) : Int32 := Int32.ofInt z
theorem iv_add (a b : Int) : iv a + iv b = iv (a + b) := (Int32.ofInt_add a b).symm
theorem iv_sub (a b : Int) : iv a - iv b = iv (a - b) := (Int32.ofInt_sub a b).symm
theorem iv_mul (a b : Int) : iv a * iv b = iv (a * b) := (Int32.ofInt_mul a b).symm
theorem iv_neg (a : Int) : -iv a = iv (-a) := (Int32.ofInt_neg a).symm
theorem iv_of (x : Int32) : iv x.toInt = x := Int32.ofInt_toInt x
theorem iv_ex (x : Int32) : ∃ z : Int, x = iv z ∧ -2147483648 ≤ z ∧ z < 2147483648 := ⟨x.toInt, (iv_of x).symm, by have := Int32.le_toInt x; omega, by have := Int32.toInt_lt x; omega⟩
theorem iv_toInt {z : Int} (h : -2147483648 ≤ z ∧ z < 2147483648) : (iv z).toInt = z := Int32.toInt_ofInt_of_le (by omega) (by omega)
theorem iv_nat (n : Nat) : iv (n : Int) = nI n := Int32.ofInt_eq_ofNat
theorem iv_lt {a b : Int} (ha : -2147483648 ≤ a ∧ a < 2147483648) (hb : -2147483648 ≤ b ∧ b < 2147483648) : iv a < iv b ↔ a < b := by
  rw [Int32.lt_iff_toInt_lt, iv_toInt ha, iv_toInt hb]
theorem iv_le {a b : Int} (ha : -2147483648 ≤ a ∧ a < 2147483648) (hb : -2147483648 ≤ b ∧ b < 2147483648) : iv a ≤ iv b ↔ a ≤ b := by
  rw [Int32.le_iff_toInt_le, iv_toInt ha, iv_toInt hb]
theorem iv_eq {a b : Int} (ha : -2147483648 ≤ a ∧ a < 2147483648) (hb : -2147483648 ≤ b ∧ b < 2147483648) : iv a = iv b ↔ a = b := by
  rw [← Int32.toInt_inj, iv_toInt ha, iv_toInt hb]
theorem iv_0 : (0 : Int32) = iv 0 := rfl
theorem iv_cl {z : Int} (h : -2147483648 ≤ z ∧ z < 2147483648) : (iv z).toNatClampNeg = z.toNat := Int32.toNatClampNeg_ofInt_of_le (by omega) (by omega)
theorem iv_in {z : Int} {n : Nat} (h0 : 0 ≤ z) (h1 : z < n) (hn : n ≤ 100000000) : vp_in (iv z) n := by
  rw [vp_in_iff, iv_toInt (by omega)]
  exact ⟨h0, h1⟩
theorem iv_div {a b : Int} (ha : 0 ≤ a ∧ a < 2147483648) (hb : 0 < b ∧ b < 2147483648) : iv a / iv b = iv (a / b) := by
  obtain ⟨m, rfl⟩ := Int.eq_ofNat_of_zero_le ha.1
  obtain ⟨n, rfl⟩ := Int.eq_ofNat_of_zero_le (Int.le_of_lt hb.1)
  rw [iv_nat, iv_nat, pk_div (by omega) (by omega) (by omega), ← iv_nat]
  rfl
theorem iv_rem {a b : Int} (ha : 0 ≤ a ∧ a < 2147483648) (hb : 0 < b ∧ b < 2147483648) : iv a - iv a / iv b * iv b = iv (a % b) := by
  obtain ⟨m, rfl⟩ := Int.eq_ofNat_of_zero_le ha.1
  obtain ⟨n, rfl⟩ := Int.eq_ofNat_of_zero_le (Int.le_of_lt hb.1)
  rw [iv_nat, iv_nat, pk_rem (by omega) (by omega) (by omega), ← iv_nat]
  rfl
abbrev ia (n : Nat) (g : Nat → Int) : ax_C := .inl (0, n, .inl (fun j => iv (g j)))
abbrev ob (ci : Nat) (fs : List Value) : ax_C := .inr (ci, fs)
def up (g : Nat → Int) (k : Nat) (x : Int) : Nat → Int := fun j => if j = k then x else g j
theorem up_at (g : Nat → Int) (k : Nat) (x : Int) : up g k x k = x := if_pos rfl
theorem up_ne {g : Nat → Int} {k j : Nat} {x : Int} (h : j ≠ k) : up g k x j = g j := if_neg h
theorem ia_up (n : Nat) (g : Nat → Int) (k : Nat) (x : Int) : (Sum.inl (0, n, Sum.inl (upd (fun j => iv (g j)) k (iv x))) : ax_C) = ia n (up g k x) := by
  unfold ia
  congr 4
  funext j
  unfold upd up
  split <;> rfl
section AXZ
variable {M : ax_M} {d pc : Nat} {lv : ax_L} {st : List Value} {h : ax_H} {Q : Option Value → ax_H → Prop}
theorem az_iadd {a b : Int} (hd : decode M.2.1 pc = .ok (.iadd, 1)) (k : ax_W M d (pc + 1) lv (.int (iv (a + b)) :: st) h Q) : ax_W M d pc lv (.int (iv b) :: .int (iv a) :: st) h Q := ax_iadd hd (by rw [iv_add]; exact k)
theorem az_isub {a b : Int} (hd : decode M.2.1 pc = .ok (.isub, 1)) (k : ax_W M d (pc + 1) lv (.int (iv (a - b)) :: st) h Q) : ax_W M d pc lv (.int (iv b) :: .int (iv a) :: st) h Q := ax_isub hd (by rw [iv_sub]; exact k)
theorem az_imul {a b : Int} (hd : decode M.2.1 pc = .ok (.imul, 1)) (k : ax_W M d (pc + 1) lv (.int (iv (a * b)) :: st) h Q) : ax_W M d pc lv (.int (iv b) :: .int (iv a) :: st) h Q := ax_imul hd (by rw [iv_mul]; exact k)
theorem az_ineg {a : Int} (hd : decode M.2.1 pc = .ok (.ineg, 1)) (k : ax_W M d (pc + 1) lv (.int (iv (-a)) :: st) h Q) : ax_W M d pc lv (.int (iv a) :: st) h Q := ax_ineg hd (by rw [iv_neg]; exact k)
theorem az_idiv {a b : Int} (hd : decode M.2.1 pc = .ok (.idiv, 1)) (ha : 0 ≤ a ∧ a < 2147483648) (hb : 0 < b ∧ b < 2147483648) (k : ax_W M d (pc + 1) lv (.int (iv (a / b)) :: st) h Q) : ax_W M d pc lv (.int (iv b) :: .int (iv a) :: st) h Q := ax_idiv hd (by rw [iv_0, iv_eq (by omega) (by omega)]; omega) (by rw [iv_div ha hb]; exact k)
theorem az_irem {a b : Int} (hd : decode M.2.1 pc = .ok (.irem, 1)) (ha : 0 ≤ a ∧ a < 2147483648) (hb : 0 < b ∧ b < 2147483648) (k : ax_W M d (pc + 1) lv (.int (iv (a % b)) :: st) h Q) : ax_W M d pc lv (.int (iv b) :: .int (iv a) :: st) h Q := ax_irem hd (by rw [iv_0, iv_eq (by omega) (by omega)]; omega) (by rw [iv_rem ha hb]; exact k)
theorem az_iconst {n : Int} (hd : decode M.2.1 pc = .ok (.iconst n, 1)) (k : ax_W M d (pc + 1) lv (.int (iv n) :: st) h Q) : ax_W M d pc lv st h Q := ax_iconst (iv n) hd rfl k
theorem az_bipush (n : Int) (hd : decode M.2.1 pc = .ok (.bipush n, 2)) (hv : (Int8.ofInt n).toInt32 = iv n) (k : ax_W M d (pc + 2) lv (.int (iv n) :: st) h Q) : ax_W M d pc lv st h Q := ax_bipush (iv n) hd hv k
theorem az_sipush (n : Int) (hd : decode M.2.1 pc = .ok (.sipush n, 3)) (hv : (Int16.ofInt n).toInt32 = iv n) (k : ax_W M d (pc + 3) lv (.int (iv n) :: st) h Q) : ax_W M d pc lv st h Q := ax_sipush (iv n) hd hv k
theorem az_iinc {n : Nat} {z a : Int} (hd : decode M.2.1 pc = .ok (.iinc n z, 3)) (hl0 : lv[n]? = some (some (.int (iv a)))) (hn : n < M.2.2.1) (hc : ax_c2 lv n = false) (k : ax_W M d (pc + 3) (lv.set n (some (.int (iv (a + z))))) st h Q) : ax_W M d pc lv st h Q := ax_iinc (iv (a + z)) hd hl0 (iv_add a z) hn hc k
theorem az_icmp_eq {a b off : Int} (tgt : Nat) (hd : decode M.2.1 pc = .ok (.if_icmp .eq off, 3)) (htg : (pc : Int) + off = (tgt : Int)) (ha : -2147483648 ≤ a ∧ a < 2147483648) (hb : -2147483648 ≤ b ∧ b < 2147483648) (kt : a = b → ax_W M d tgt lv st h Q) (kf : a ≠ b → ax_W M d (pc + 3) lv st h Q) : ax_W M d pc lv (.int (iv b) :: .int (iv a) :: st) h Q := ax_icmp_eq tgt hd htg (fun c => kt ((iv_eq ha hb).mp c)) (fun c => kf (fun q => c ((iv_eq ha hb).mpr q)))
theorem az_icmp_ne {a b off : Int} (tgt : Nat) (hd : decode M.2.1 pc = .ok (.if_icmp .ne off, 3)) (htg : (pc : Int) + off = (tgt : Int)) (ha : -2147483648 ≤ a ∧ a < 2147483648) (hb : -2147483648 ≤ b ∧ b < 2147483648) (kt : a ≠ b → ax_W M d tgt lv st h Q) (kf : a = b → ax_W M d (pc + 3) lv st h Q) : ax_W M d pc lv (.int (iv b) :: .int (iv a) :: st) h Q := ax_icmp_ne tgt hd htg (fun c => kt (fun q => c ((iv_eq ha hb).mpr q))) (fun c => kf ((iv_eq ha hb).mp c))
theorem az_icmp_lt {a b off : Int} (tgt : Nat) (hd : decode M.2.1 pc = .ok (.if_icmp .lt off, 3)) (htg : (pc : Int) + off = (tgt : Int)) (ha : -2147483648 ≤ a ∧ a < 2147483648) (hb : -2147483648 ≤ b ∧ b < 2147483648) (kt : a < b → ax_W M d tgt lv st h Q) (kf : b ≤ a → ax_W M d (pc + 3) lv st h Q) : ax_W M d pc lv (.int (iv b) :: .int (iv a) :: st) h Q := ax_icmp_lt tgt hd htg (fun c => kt ((iv_lt ha hb).mp c)) (fun c => kf (by have := mt (iv_lt ha hb).mpr c; omega))
theorem az_icmp_ge {a b off : Int} (tgt : Nat) (hd : decode M.2.1 pc = .ok (.if_icmp .ge off, 3)) (htg : (pc : Int) + off = (tgt : Int)) (ha : -2147483648 ≤ a ∧ a < 2147483648) (hb : -2147483648 ≤ b ∧ b < 2147483648) (kt : b ≤ a → ax_W M d tgt lv st h Q) (kf : a < b → ax_W M d (pc + 3) lv st h Q) : ax_W M d pc lv (.int (iv b) :: .int (iv a) :: st) h Q := ax_icmp_ge tgt hd htg (fun c => kt ((iv_le hb ha).mp c)) (fun c => kf (by have := mt (iv_le hb ha).mpr c; omega))
theorem az_icmp_gt {a b off : Int} (tgt : Nat) (hd : decode M.2.1 pc = .ok (.if_icmp .gt off, 3)) (htg : (pc : Int) + off = (tgt : Int)) (ha : -2147483648 ≤ a ∧ a < 2147483648) (hb : -2147483648 ≤ b ∧ b < 2147483648) (kt : b < a → ax_W M d tgt lv st h Q) (kf : a ≤ b → ax_W M d (pc + 3) lv st h Q) : ax_W M d pc lv (.int (iv b) :: .int (iv a) :: st) h Q := ax_icmp_gt tgt hd htg (fun c => kt ((iv_lt hb ha).mp c)) (fun c => kf (by have := mt (iv_lt hb ha).mpr c; omega))
theorem az_icmp_le {a b off : Int} (tgt : Nat) (hd : decode M.2.1 pc = .ok (.if_icmp .le off, 3)) (htg : (pc : Int) + off = (tgt : Int)) (ha : -2147483648 ≤ a ∧ a < 2147483648) (hb : -2147483648 ≤ b ∧ b < 2147483648) (kt : a ≤ b → ax_W M d tgt lv st h Q) (kf : b < a → ax_W M d (pc + 3) lv st h Q) : ax_W M d pc lv (.int (iv b) :: .int (iv a) :: st) h Q := ax_icmp_le tgt hd htg (fun c => kt ((iv_le ha hb).mp c)) (fun c => kf (by have := mt (iv_le ha hb).mpr c; omega))
theorem az_if_eq {a off : Int} (tgt : Nat) (hd : decode M.2.1 pc = .ok (.ifCond .eq off, 3)) (htg : (pc : Int) + off = (tgt : Int)) (ha : -2147483648 ≤ a ∧ a < 2147483648) (kt : a = 0 → ax_W M d tgt lv st h Q) (kf : a ≠ 0 → ax_W M d (pc + 3) lv st h Q) : ax_W M d pc lv (.int (iv a) :: st) h Q := by
  have hb : -2147483648 ≤ (0 : Int) ∧ (0 : Int) < 2147483648 := by omega
  exact ax_if_eq tgt hd htg (fun c => kt ((iv_eq ha hb).mp c)) (fun c => kf (fun q => c ((iv_eq ha hb).mpr q)))
theorem az_if_ne {a off : Int} (tgt : Nat) (hd : decode M.2.1 pc = .ok (.ifCond .ne off, 3)) (htg : (pc : Int) + off = (tgt : Int)) (ha : -2147483648 ≤ a ∧ a < 2147483648) (kt : a ≠ 0 → ax_W M d tgt lv st h Q) (kf : a = 0 → ax_W M d (pc + 3) lv st h Q) : ax_W M d pc lv (.int (iv a) :: st) h Q := by
  have hb : -2147483648 ≤ (0 : Int) ∧ (0 : Int) < 2147483648 := by omega
  exact ax_if_ne tgt hd htg (fun c => kt (fun q => c ((iv_eq ha hb).mpr q))) (fun c => kf ((iv_eq ha hb).mp c))
theorem az_if_lt {a off : Int} (tgt : Nat) (hd : decode M.2.1 pc = .ok (.ifCond .lt off, 3)) (htg : (pc : Int) + off = (tgt : Int)) (ha : -2147483648 ≤ a ∧ a < 2147483648) (kt : a < 0 → ax_W M d tgt lv st h Q) (kf : 0 ≤ a → ax_W M d (pc + 3) lv st h Q) : ax_W M d pc lv (.int (iv a) :: st) h Q := by
  have hb : -2147483648 ≤ (0 : Int) ∧ (0 : Int) < 2147483648 := by omega
  exact ax_if_lt tgt hd htg (fun c => kt ((iv_lt ha hb).mp c)) (fun c => kf (by have := mt (iv_lt ha hb).mpr c; omega))
theorem az_if_ge {a off : Int} (tgt : Nat) (hd : decode M.2.1 pc = .ok (.ifCond .ge off, 3)) (htg : (pc : Int) + off = (tgt : Int)) (ha : -2147483648 ≤ a ∧ a < 2147483648) (kt : 0 ≤ a → ax_W M d tgt lv st h Q) (kf : a < 0 → ax_W M d (pc + 3) lv st h Q) : ax_W M d pc lv (.int (iv a) :: st) h Q := by
  have hb : -2147483648 ≤ (0 : Int) ∧ (0 : Int) < 2147483648 := by omega
  exact ax_if_ge tgt hd htg (fun c => kt ((iv_le hb ha).mp c)) (fun c => kf (by have := mt (iv_le hb ha).mpr c; omega))
theorem az_if_gt {a off : Int} (tgt : Nat) (hd : decode M.2.1 pc = .ok (.ifCond .gt off, 3)) (htg : (pc : Int) + off = (tgt : Int)) (ha : -2147483648 ≤ a ∧ a < 2147483648) (kt : 0 < a → ax_W M d tgt lv st h Q) (kf : a ≤ 0 → ax_W M d (pc + 3) lv st h Q) : ax_W M d pc lv (.int (iv a) :: st) h Q := by
  have hb : -2147483648 ≤ (0 : Int) ∧ (0 : Int) < 2147483648 := by omega
  exact ax_if_gt tgt hd htg (fun c => kt ((iv_lt hb ha).mp c)) (fun c => kf (by have := mt (iv_lt hb ha).mpr c; omega))
theorem az_if_le {a off : Int} (tgt : Nat) (hd : decode M.2.1 pc = .ok (.ifCond .le off, 3)) (htg : (pc : Int) + off = (tgt : Int)) (ha : -2147483648 ≤ a ∧ a < 2147483648) (kt : a ≤ 0 → ax_W M d tgt lv st h Q) (kf : 0 < a → ax_W M d (pc + 3) lv st h Q) : ax_W M d pc lv (.int (iv a) :: st) h Q := by
  have hb : -2147483648 ≤ (0 : Int) ∧ (0 : Int) < 2147483648 := by omega
  exact ax_if_le tgt hd htg (fun c => kt ((iv_le ha hb).mp c)) (fun c => kf (by have := mt (iv_le ha hb).mpr c; omega))
theorem az_iald {a n : Nat} {g : Nat → Int} {z : Int} (hd : decode M.2.1 pc = .ok (.iaload, 1)) (ha : h[a]? = some (ia n g)) (h0 : 0 ≤ z) (h1 : z < n) (hn : n ≤ 100000000) (kk : ax_W M d (pc + 1) lv (.int (iv (g z.toNat)) :: st) h Q) : ax_W M d pc lv (.int (iv z) :: .ref a :: st) h Q :=
  ax_iald hd ha (iv_in h0 h1 hn) (by rw [iv_cl (by omega)]; exact kk)
theorem az_iast {a n : Nat} {g : Nat → Int} {z x : Int} (hd : decode M.2.1 pc = .ok (.iastore, 1)) (ha : h[a]? = some (ia n g)) (ha0 : 0 < a) (h0 : 0 ≤ z) (h1 : z < n) (hn : n ≤ 100000000) (kk : ax_W M d (pc + 1) lv st (h.set a (ia n (up g z.toNat x))) Q) : ax_W M d pc lv (.int (iv x) :: .int (iv z) :: .ref a :: st) h Q :=
  ax_iast hd ha ha0 (iv_in h0 h1 hn) (by rw [iv_cl (by omega), ia_up]; exact kk)
theorem az_alen {a n : Nat} {g : Nat → Int} (hd : decode M.2.1 pc = .ok (.arraylength, 1)) (ha : h[a]? = some (ia n g)) (kk : ax_W M d (pc + 1) lv (.int (iv n) :: st) h Q) : ax_W M d pc lv (.ref a :: st) h Q :=
  ax_alen (ty := .int) hd ha rfl (by have e : iv (n : Int) = Int32.ofNat n := Int32.ofInt_eq_ofNat; rw [e] at kk; exact kk)
end AXZ
