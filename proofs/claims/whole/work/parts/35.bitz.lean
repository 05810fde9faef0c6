/-! bits of ints -/
def bt (v : Int) (p : Nat) : Nat := (v / ((2 ^ p : Nat) : Int) % 2).toNat
theorem bt_lt (v : Int) (p : Nat) : bt v p < 2 := by
  unfold bt
  have := Int.emod_lt_of_pos (v / ((2 ^ p : Nat) : Int)) (show (0 : Int) < 2 by decide)
  omega
theorem bt_nat (n p : Nat) : bt (n : Int) p = n / 2 ^ p % 2 := by
  unfold bt
  rw [← Int.natCast_ediv]
  omega
/-- bits below w depend on the number by 2^w alone -/
theorem bt_mod {a b : Int} {w p : Nat} (hp : p < w) (q : Int) (h : a = b + q * ((2 ^ w : Nat) : Int)) : bt a p = bt b p := by
  unfold bt
  have e : ((2 ^ w : Nat) : Int) = ((2 ^ (w - p - 1) : Nat) : Int) * 2 * ((2 ^ p : Nat) : Int) := by
    have : 2 ^ w = 2 ^ (w - p - 1) * 2 * 2 ^ p := by
      rw [← Nat.pow_succ, ← Nat.pow_add]
      congr 1
      omega
    rw [this]
    simp
  have e2 : a = b + q * ((2 ^ (w - p - 1) : Nat) : Int) * 2 * ((2 ^ p : Nat) : Int) := by
    rw [h, e]
    simp [Int.mul_assoc]
  have hpos : ((2 ^ p : Nat) : Int) ≠ 0 := by
    have : 0 < 2 ^ p := Nat.two_pow_pos p
    omega
  rw [e2, Int.add_mul_ediv_right _ _ hpos]
  omega
theorem iv_wrap (v : Int) : ∃ q : Int, ∃ m : Nat, m < 4294967296 ∧ v = (m : Int) + q * 4294967296 ∧ iv v = nI m := by
  refine ⟨v / 4294967296, (v % 4294967296).toNat, by omega, by omega, ?_⟩
  rw [← iv_nat]
  unfold iv
  apply Int32.toBitVec_inj.mp
  show BitVec.ofInt 32 v = BitVec.ofInt 32 _
  apply BitVec.eq_of_toInt_eq
  rw [BitVec.toInt_ofInt, BitVec.toInt_ofInt]
  have e : v = ((v % 4294967296).toNat : Int) + 4294967296 * (v / 4294967296) := by omega
  conv => lhs; rw [e]
  show (_ + 4294967296 * _ : Int).bmod (2 ^ 32) = _
  rw [show (4294967296 : Int) = ((2 ^ 32 : Nat) : Int) from rfl, Int.add_mul_bmod_self_left]
theorem nI_tn {m : Nat} (h : m < 4294967296) : (nI m).toBitVec.toNat = m := by
  show (BitVec.ofNat 32 m).toNat = m
  rw [BitVec.toNat_ofNat, Nat.mod_eq_of_lt (by omega)]
theorem uc32 : ∀ k : Nat, k < 32 → ((nI k).toUInt32 &&& Int32.toUInt32 31) = UInt32.ofNat k := by decide +kernel
theorem z_ubit (v : Int) {p : Nat} (hp : p < 32) : zand (zushr v (p : Int)) 1 = bt v p := by
  obtain ⟨q, m, hm, e, e2⟩ := iv_wrap v
  have eb : bt v p = m / 2 ^ p % 2 := by rw [bt_mod (w := 32) hp q e, bt_nat]
  have e3 : ((nI m).toUInt32 >>> ((iv (p : Int)).toUInt32 &&& Int32.toUInt32 31)).toInt32 = nI (m / 2 ^ p) := by
    rw [iv_nat, uc32 p hp]
    apply Int32.toBitVec_inj.mp
    apply BitVec.eq_of_toNat_eq
    show ((nI m).toUInt32 >>> UInt32.ofNat p).toNat = _
    have h1 : (UInt32.ofNat p).toNat = p := by
      show (BitVec.ofNat 32 p).toNat = p
      rw [BitVec.toNat_ofNat, Nat.mod_eq_of_lt (by omega)]
    have h2 : (nI m).toUInt32.toNat = m := nI_tn hm
    have h3 : m / 2 ^ p < 4294967296 := Nat.lt_of_le_of_lt (Nat.div_le_self _ _) hm
    rw [UInt32.toNat_shiftRight, h1, h2, Nat.mod_eq_of_lt hp, Nat.shiftRight_eq_div_pow, nI_tn h3]
  unfold zand zushr
  rw [e2, e3, iv_of, show iv 1 = 1 from rfl, pk_and _ 1 (by decide), toInt_nI (by omega), eb, nI_tn (Nat.lt_of_le_of_lt (Nat.div_le_self _ _) hm)]
theorem z_sbit {v : Int} (hv : 0 ≤ v ∧ v < 2147483648) {p : Nat} (hp : p < 32) : zand (zshr v (p : Int)) 1 = bt v p := by
  obtain ⟨m, rfl⟩ := Int.eq_ofNat_of_zero_le hv.1
  have e3 : zshr (m : Int) (p : Int) = (m / 2 ^ p : Nat) := by
    unfold zshr
    have := Nat.div_le_self m (2 ^ p)
    rw [iv_nat, iv_nat, pk_shrN (by omega) (nI p &&& 31) p (sl32 p hp), toInt_nI (by omega)]
  unfold zand
  rw [e3, iv_nat, show iv 1 = 1 from rfl, pk_and _ 1 (by decide), toInt_nI (by omega), bt_nat, nI_tn (Nat.lt_of_le_of_lt (Nat.div_le_self _ _) (by omega))]
/-- one more bit at the end, wrapped -/
theorem z_push (v : Int) {b : Nat} (hb : b < 2) : zor (zshl v 1) (b : Int) = (iv (2 * v + b)).toInt := by
  obtain ⟨q, m, hm, e, e2⟩ := iv_wrap v
  have e1 : iv v <<< (iv 1 &&& 31) = nI (2 * m) := by
    rw [e2]
    apply Int32.toBitVec_inj.mp
    apply BitVec.eq_of_toNat_eq
    rw [Int32.toBitVec_shiftLeft, show ((iv 1 &&& 31).toBitVec.smod 32) = 1#32 by decide, BitVec.shiftLeft_eq', BitVec.toNat_shiftLeft, nI_tn hm]
    show (m <<< 1) % 2 ^ 32 = (BitVec.ofNat 32 (2 * m)).toNat
    rw [BitVec.toNat_ofNat, Nat.shiftLeft_eq]
    omega
  have e3 : nI (2 * m) ||| nI b = nI (2 * m + b) := by
    rw [nI_or]
    have := Nat.two_pow_add_eq_or_of_lt (i := 1) (b := b) (by omega) m
    congr 1
    rw [show 2 * m = 2 ^ 1 * m by omega, ← this]
  have e4 : iv (2 * v + b) = nI (2 * m + b) := by
    rw [← iv_nat]
    unfold iv
    apply Int32.toBitVec_inj.mp
    show BitVec.ofInt 32 _ = BitVec.ofInt 32 _
    apply BitVec.eq_of_toInt_eq
    rw [BitVec.toInt_ofInt, BitVec.toInt_ofInt]
    have e : 2 * v + b = ((2 * m + b : Nat) : Int) + ((2 ^ 32 : Nat) : Int) * (2 * q) := by omega
    rw [e, Int.add_mul_bmod_self_left]
  unfold zor zshl
  rw [e1, iv_of, iv_nat, e3, e4]
theorem z_pushS {v : Int} (hv : 0 ≤ v ∧ v < 1000000000) {b : Nat} (hb : b < 2) : zor (zshl v 1) (b : Int) = 2 * v + b := by
  rw [z_push v hb, iv_toInt (by omega)]
/-- bits by their places, the highest first -/
def bitsF (f : Nat → Nat) : Nat → List Nat
  | 0 => []
  | n + 1 => f n :: bitsF f n
theorem bitsF_len (f : Nat → Nat) : ∀ n, (bitsF f n).length = n
  | 0 => rfl
  | n + 1 => by simp [bitsF, bitsF_len f n]
theorem bitsF_cg {f g : Nat → Nat} : ∀ {n : Nat}, (∀ p, p < n → f p = g p) → bitsF f n = bitsF g n
  | 0, _ => rfl
  | n + 1, h => by rw [bitsF, bitsF, h n (by omega), bitsF_cg (fun p hp => h p (by omega))]
abbrev bitsV (v : Int) (n : Nat) : List Nat := bitsF (bt v) n
/-! bits into bytes -/
abbrev WSt : Type := List Int × Nat × Nat
def pb (st : WSt) (b : Nat) : WSt := if st.2.2 + 1 = 8 then (st.1 ++ [((2 * st.2.1 + b : Nat) : Int)], 0, 0) else (st.1, 2 * st.2.1 + b, st.2.2 + 1)
def pbs (st : WSt) (bs : List Nat) : WSt := bs.foldl pb st
def P0 (B : List Nat) : WSt := pbs ([], 0, 0) B
def okB (B : List Nat) : Prop := ∀ b ∈ B, b < 2
theorem pbs_app (st : WSt) (a b : List Nat) : pbs st (a ++ b) = pbs (pbs st a) b := List.foldl_append
theorem P0_app (a b : List Nat) : P0 (a ++ b) = pbs (P0 a) b := pbs_app _ a b
def okW (st : WSt) : Prop := st.2.2 < 8 ∧ st.2.1 < 2 ^ st.2.2 ∧ Bs st.1
theorem pb_ok {st : WSt} (h : okW st) {b : Nat} (hb : b < 2) : okW (pb st b) ∧ 8 * (pb st b).1.length + (pb st b).2.2 = 8 * st.1.length + st.2.2 + 1 := by
  obtain ⟨h1, h2, h3⟩ := h
  unfold pb
  by_cases e : st.2.2 + 1 = 8
  · rw [if_pos e]
    have e7 : st.2.2 = 7 := by omega
    rw [e7] at h2
    refine ⟨⟨by show 0 < 8; omega, by show 0 < 1; omega, Bs_snoc h3 (by omega)⟩, ?_⟩
    show 8 * (st.1 ++ [_]).length + 0 = _
    simp
    omega
  · rw [if_neg e]
    refine ⟨⟨by show st.2.2 + 1 < 8; omega, ?_, h3⟩, by show 8 * st.1.length + (st.2.2 + 1) = _; omega⟩
    show 2 * st.2.1 + b < 2 ^ (st.2.2 + 1)
    rw [Nat.pow_succ]
    omega
theorem pbs_ok : ∀ (B : List Nat) {st : WSt}, okW st → okB B → okW (pbs st B) ∧ 8 * (pbs st B).1.length + (pbs st B).2.2 = 8 * st.1.length + st.2.2 + B.length
  | [], st, h, _ => ⟨h, rfl⟩
  | b :: t, st, h, hB => by
    have h1 := pb_ok h (hB b List.mem_cons_self)
    have h2 := pbs_ok t h1.1 (fun x hx => hB x (List.mem_cons_of_mem _ hx))
    refine ⟨h2.1, ?_⟩
    show 8 * (pbs (pb st b) t).1.length + (pbs (pb st b) t).2.2 = _
    rw [h2.2, h1.2, List.length_cons]
    omega
theorem okW0 : okW ([], 0, 0) := ⟨by decide, by decide, Bs_nil⟩
theorem P0_ok {B : List Nat} (h : okB B) : okW (P0 B) ∧ 8 * (P0 B).1.length + (P0 B).2.2 = B.length := by
  have := pbs_ok B okW0 h
  refine ⟨this.1, ?_⟩
  have h2 := this.2
  simp at h2
  exact h2
theorem okB_F {f : Nat → Nat} : ∀ {n : Nat}, (∀ p, p < n → f p < 2) → okB (bitsF f n)
  | 0, _ => fun b hb => by simp [bitsF] at hb
  | n + 1, h => by
    intro b hb
    rcases List.mem_cons.mp hb with rfl | hb
    · exact h n (by omega)
    · exact okB_F (fun p hp => h p (by omega)) b hb
theorem okB_V (v : Int) (n : Nat) : okB (bitsV v n) := okB_F (fun p _ => bt_lt v p)
theorem okB_app {a b : List Nat} (ha : okB a) (hb : okB b) : okB (a ++ b) := fun x hx => by
  rcases List.mem_append.mp hx with h | h
  · exact ha x h
  · exact hb x h
