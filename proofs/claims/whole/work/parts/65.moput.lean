/-! the reference: put, check -/
theorem lN_int {n : Nat} (h : n < 9000000000000000000) : (lN n).toInt = n := Int64.toInt_ofNat_of_lt (by omega)
theorem lzand_nat {a b : Nat} (ha : a < 9000000000000000000) (hb : b < 9000000000000000000) : lzand (a : Int) (b : Int) = ((a &&& b : Nat) : Int) := by
  unfold lzand
  have h : a &&& b ≤ a := Nat.and_le_left
  rw [lz_nat, lz_nat, wb_and (by omega) (by omega), lN_int (by omega)]
theorem lzor_nat {a b : Nat} (ha : a < 4611686018427387904) (hb : b < 4611686018427387904) : lzor (a : Int) (b : Int) = ((a ||| b : Nat) : Int) := by
  unfold lzor
  have h : a ||| b < 2 ^ 62 := Nat.or_lt_two_pow (by omega) (by omega)
  rw [lz_nat, lz_nat, wb_or (by omega) (by omega), lN_int (by omega)]
theorem lzshl_nat {v k : Nat} (hk : k < 64) (h : v * 2 ^ k < 9000000000000000000) : lzshl (v : Int) (k : Int) = ((v * 2 ^ k : Nat) : Int) := by
  unfold lzshl
  rw [lz_nat, iv_nat, wb_shl v hk, lN_int h]
theorem lzshr_nat {v k : Nat} (hk : k < 64) (h : v < 9000000000000000000) : lzshr (v : Int) (k : Int) = ((v / 2 ^ k : Nat) : Int) := by
  unfold lzshr
  have e : (BitVec.ofNat 64 k).toNat = k := by rw [BitVec.toNat_ofNat, Nat.mod_eq_of_lt (by omega)]
  have e2 : (BitVec.ofNat 64 v).toInt = (v : Int) := lN_int h
  rw [lz_nat, iv_nat, wb_c k hk, ← Int64.toInt_toBitVec, Int64.toBitVec_shiftRight, wb_tb, wb_tb, wb_sm k hk, BitVec.sshiftRight', e, BitVec.toInt_sshiftRight, e2, Int.shiftRight_eq_div_pow, Int.natCast_ediv]
theorem lz_bit {v k : Nat} (hk : k < 64) (h : v < 9000000000000000000) : lzand (lzshr (v : Int) (k : Int)) 1 = bt (v : Int) k := by
  have := Nat.div_le_self v (2 ^ k)
  rw [lzshr_nat hk h, show (1 : Int) = ((1 : Nat) : Int) from rfl, lzand_nat (by omega) (by omega), Nat.and_one_is_mod, bt_nat]
theorem lzand_ff {c : Int} (hc : -2147483648 ≤ c ∧ c < 2147483648) : lzand c 4294967295 = c % 4294967296 := by
  unfold lzand
  obtain ⟨m, hm, e⟩ := wb_of (lz c)
  have h1 : (lN m).toInt = c := by rw [← e, lz_toInt (by omega)]
  have h2 : ((m : Nat) : Int).bmod (2 ^ 64) = c := by
    rw [← h1]
    exact (Int64.toInt_ofNat' (n := m)).symm
  have h3 := Int.bmod_emod (x := (m : Int)) (m := 2 ^ 64)
  rw [h2] at h3
  have h4 : (((2 ^ 64 : Nat)) : Int) = 18446744073709551616 := by decide
  rw [h4] at h3
  have h5 : m % 2 ^ 32 < 2 ^ 32 := Nat.mod_lt _ (by decide)
  rw [e, show lz 4294967295 = lN (2 ^ 32 - 1) from rfl, wb_mask hm (by decide), lN_int (by omega)]
  omega
theorem sb_sb (z : Int) : sb (sb z) = sb z := by
  unfold sb
  split <;> split <;> omega
theorem sb_mod {a b : Int} (h : a % 256 = b % 256) : sb a = sb b := by
  unfold sb
  rw [h]
theorem sb_or1 : ∀ k : Fin 8, ∀ m : Fin 128, m.val < 2 ^ k.val → sb (zor (sb ((m.val * 2 ^ (8 - k.val) : Nat) : Int)) (sb ((2 ^ (7 - k.val) : Nat) : Int))) = sb (((2 * m.val + 1) * 2 ^ (7 - k.val) : Nat) : Int) := by decide +kernel
theorem shr128 : ∀ k : Fin 8, zshr 128 ((k.val : Nat) : Int) = ((2 ^ (7 - k.val) : Nat) : Int) := by decide +kernel
/-- the bits put so far -/
def MoB (iz : Nat → Int) (ar : Nat → Nat → Int) (B : List Nat) : Prop := okB B ∧ iz 23 = B.length ∧ lb (ar 22) (P0 B).1 ∧ (0 < (P0 B).2.2 → ar 22 (P0 B).1.length = sb (((P0 B).2.1 * 2 ^ (8 - (P0 B).2.2) : Nat) : Int))
theorem MoB.fr {iz iz1 : Nat → Int} {ar ar1 : Nat → Nat → Int} {B : List Nat} {K K' : List Nat} (k : MoB iz ar B) (hi : KI K iz iz1) (ha : KA K' ar ar1) (h1 : K.contains 23 = false) (h2 : K'.contains 22 = false) : MoB iz1 ar1 B := by
  unfold MoB at k ⊢
  rw [hi 23 h1, ha 22 h2]
  exact k
theorem lb_snoc {g : Nat → Int} {l : List Int} {b : Int} (h : lb g l) (e : g l.length = sb b) : lb g (l ++ [b]) := by
  intro i hi
  rw [getD_snoc]
  simp at hi
  by_cases h2 : i = l.length
  · rw [if_pos h2, h2, e]
  · rw [if_neg h2, h i (by omega)]
theorem MoB_step {iz : Nat → Int} {ar : Nat → Nat → Int} {B : List Nat} {b : Nat} (hB : okB B) (hb : b < 2) (e : iz 23 = (B.length : Int) + 1) (h1 : lb (ar 22) (P0 B).1) (h2 : ar 22 (P0 B).1.length = sb (((2 * (P0 B).2.1 + b) * 2 ^ (7 - (P0 B).2.2) : Nat) : Int)) : MoB iz ar (B ++ [b]) := by
  have ep : P0 (B ++ [b]) = pb (P0 B) b := by
    rw [P0_app]
    rfl
  have hk := (P0_ok hB).1.1
  refine ⟨okB_app hB (fun x hx => by simp at hx; omega), by rw [List.length_append, e]; simp, ?_, ?_⟩
  · rw [ep, pb]
    by_cases e8 : (P0 B).2.2 + 1 = 8
    · rw [if_pos e8]
      refine lb_snoc h1 ?_
      rw [h2, show 7 - (P0 B).2.2 = 0 by omega, Nat.pow_zero, Nat.mul_one]
    · rw [if_neg e8]
      exact h1
  · rw [ep, pb]
    by_cases e8 : (P0 B).2.2 + 1 = 8
    · rw [if_pos e8]
      intro q
      have q : 0 < 0 := q
      omega
    · rw [if_neg e8]
      intro _
      show ar 22 (P0 B).1.length = sb (((2 * (P0 B).2.1 + b) * 2 ^ (8 - ((P0 B).2.2 + 1)) : Nat) : Int)
      rw [h2, show 8 - ((P0 B).2.2 + 1) = 7 - (P0 B).2.2 by omega]
set_option maxRecDepth 100000 in
set_option maxHeartbeats 8000000 in
theorem c_Mo_put {h0 : ax_H} {iz : Nat → Int} {ar : Nat → Nat → Int} {B : List Nat} {v n : Nat} (hH : MoH h0 iz ar) (hB : MoB iz ar B) (hv : v < 5000000000) (hn : n ≤ 32) (hcap : B.length + n ≤ 20000) : ax_Cv m_Mo_put 0 [.ref 47, .long (lz (v : Int)), .int (iv n)] h0 (fun h1 => (∃ iz1 ar1, MoH h1 iz1 ar1 ∧ KI [23] iz iz1 ∧ KA [22] ar ar1 ∧ MoB iz1 ar1 (B ++ bitsV v n)) ∧ Fr MOS h0 h1) := by
  have hF : Fr MOS h0 h0 := Fr.rf
  refine ax_enter [some (.ref 47), some (.long (lz (v : Int))), none, some (.int (iv n)), none] rfl (Nat.le_of_ble_eq_true rfl) (by decide) ?_
  refine ax_iload_n d_Mo_put_0 rfl ?_
  refine az_iconst d_Mo_put_1 ?_
  refine az_isub d_Mo_put_2 ?_
  refine ax_istore d_Mo_put_3 (by decide) rfl ?_
  have key : ∀ (m : Nat) (C : List Nat) (iz1 : Nat → Int) (ar1 : Nat → Nat → Int) (h : ax_H), m ≤ n → C.length + m ≤ 20000 → C ++ bitsV v m = B ++ bitsV v n → MoH h iz1 ar1 → Fr MOS h0 h → KI [23] iz iz1 → KA [22] ar ar1 → MoB iz1 ar1 C →
      ax_W m_Mo_put 0 5 [some (.ref 47), some (.long (lz (v : Int))), none, some (.int (iv n)), some (.int (iv ((m : Int) - 1)))] [] h (fun r0 h1 => r0 = none ∧ (∃ iz1 ar1, MoH h1 iz1 ar1 ∧ KI [23] iz iz1 ∧ KA [22] ar ar1 ∧ MoB iz1 ar1 (B ++ bitsV v n)) ∧ Fr MOS h0 h1) := by
    intro m
    induction m with
    | zero =>
      intro C iz1 ar1 h hm hc hs hH hF ki ka hC
      have e0 : ((0 : Nat) : Int) - 1 = -1 := by omega
      rw [e0]
      refine ax_iload d_Mo_put_5 rfl ?_
      refine az_if_lt 88 d_Mo_put_7 (by decide) (by first | exact bz_in _ | omega) (fun hc => ?_) (fun hc => ?_)
      · refine ax_vret d_Mo_put_88 rfl ?_
        have e1 : bitsV v 0 = [] := rfl
        rw [e1, List.append_nil] at hs
        rw [← hs]
        exact ⟨rfl, ⟨iz1, ar1, hH, ki, ka, hC⟩, hF⟩
      · exfalso
        omega
    | succ m ih =>
      intro C iz1 ar1 h hm hcp hs hH hF ki ka hC
      have e0 : ((m + 1 : Nat) : Int) - 1 = (m : Int) := by omega
      have hs : C ++ bt v m :: bitsV v m = B ++ bitsV v n := hs
      obtain ⟨c1, c2, c3, c4⟩ := id hC
      obtain ⟨⟨w1, w2, w3⟩, w4⟩ := P0_ok c1
      have em : iz1 23 % 8 = ((P0 C).2.2 : Int) := by omega
      have ed : iz1 23 / 8 = ((P0 C).1.length : Int) := by omega
      have hb2 := bt_lt (v : Int) m
      rw [e0]
      -- the bit stands: go on
      have fin : ∀ (ar3 : Nat → Nat → Int) (h : ax_H), MoH h iz1 ar3 → Fr MOS h0 h → KA [22] ar ar3 → lb (ar3 22) (P0 C).1 → ar3 22 (P0 C).1.length = sb (((2 * (P0 C).2.1 + bt v m) * 2 ^ (7 - (P0 C).2.2) : Nat) : Int) → ax_W m_Mo_put 0 72 [some (.ref 47), some (.long (lz (v : Int))), none, some (.int (iv n)), some (.int (iv (m : Int)))] [] h (fun r0 h1 => r0 = none ∧ (∃ iz1 ar1, MoH h1 iz1 ar1 ∧ KI [23] iz iz1 ∧ KA [22] ar ar1 ∧ MoB iz1 ar1 (B ++ bitsV v n)) ∧ Fr MOS h0 h1) := by
        intro ar3 h hH hF ka h22 hcell
        refine ax_aload_n d_Mo_put_72 rfl ?_
        refine ax_dup d_Mo_put_73 rfl ?_
        refine ax_get d_Mo_put_74 fg_Mo_166 (by first | assumption | exact hH.g 0 rfl | exact hH.g 1 rfl | exact hH.g 2 rfl | exact hH.g 3 rfl | exact hH.g 4 rfl | exact hH.g 5 rfl | exact hH.g 6 rfl | exact hH.g 7 rfl | exact hH.g 8 rfl | exact hH.g 9 rfl | exact hH.g 10 rfl | exact hH.g 11 rfl | exact hH.g 12 rfl | exact hH.g 13 rfl | exact hH.g 14 rfl | exact hH.g 15 rfl | exact hH.g 16 rfl | exact hH.g 17 rfl | exact hH.g 18 rfl) (by rfl) ?_
        refine az_iconst d_Mo_put_77 ?_
        refine az_iadd d_Mo_put_78 ?_
        first | refine ah_put d_Mo_put_79 fp_Mo_166 hH hF 0 rfl rfl rfl (by first | rfl | decide) (Nat.le_of_ble_eq_true rfl) (fun h hH hF => ?_) | refine ah_put d_Mo_put_79 fp_Mo_166 hH hF 1 rfl rfl rfl (by first | rfl | decide) (Nat.le_of_ble_eq_true rfl) (fun h hH hF => ?_) | refine ah_put d_Mo_put_79 fp_Mo_166 hH hF 2 rfl rfl rfl (by first | rfl | decide) (Nat.le_of_ble_eq_true rfl) (fun h hH hF => ?_) | refine ah_put d_Mo_put_79 fp_Mo_166 hH hF 3 rfl rfl rfl (by first | rfl | decide) (Nat.le_of_ble_eq_true rfl) (fun h hH hF => ?_) | refine ah_put d_Mo_put_79 fp_Mo_166 hH hF 4 rfl rfl rfl (by first | rfl | decide) (Nat.le_of_ble_eq_true rfl) (fun h hH hF => ?_) | refine ah_put d_Mo_put_79 fp_Mo_166 hH hF 5 rfl rfl rfl (by first | rfl | decide) (Nat.le_of_ble_eq_true rfl) (fun h hH hF => ?_) | refine ah_put d_Mo_put_79 fp_Mo_166 hH hF 6 rfl rfl rfl (by first | rfl | decide) (Nat.le_of_ble_eq_true rfl) (fun h hH hF => ?_) | refine ah_put d_Mo_put_79 fp_Mo_166 hH hF 7 rfl rfl rfl (by first | rfl | decide) (Nat.le_of_ble_eq_true rfl) (fun h hH hF => ?_) | refine ah_put d_Mo_put_79 fp_Mo_166 hH hF 8 rfl rfl rfl (by first | rfl | decide) (Nat.le_of_ble_eq_true rfl) (fun h hH hF => ?_) | refine ah_put d_Mo_put_79 fp_Mo_166 hH hF 9 rfl rfl rfl (by first | rfl | decide) (Nat.le_of_ble_eq_true rfl) (fun h hH hF => ?_) | refine ah_put d_Mo_put_79 fp_Mo_166 hH hF 10 rfl rfl rfl (by first | rfl | decide) (Nat.le_of_ble_eq_true rfl) (fun h hH hF => ?_) | refine ah_put d_Mo_put_79 fp_Mo_166 hH hF 11 rfl rfl rfl (by first | rfl | decide) (Nat.le_of_ble_eq_true rfl) (fun h hH hF => ?_) | refine ah_put d_Mo_put_79 fp_Mo_166 hH hF 12 rfl rfl rfl (by first | rfl | decide) (Nat.le_of_ble_eq_true rfl) (fun h hH hF => ?_) | refine ah_put d_Mo_put_79 fp_Mo_166 hH hF 13 rfl rfl rfl (by first | rfl | decide) (Nat.le_of_ble_eq_true rfl) (fun h hH hF => ?_) | refine ah_put d_Mo_put_79 fp_Mo_166 hH hF 14 rfl rfl rfl (by first | rfl | decide) (Nat.le_of_ble_eq_true rfl) (fun h hH hF => ?_) | refine ah_put d_Mo_put_79 fp_Mo_166 hH hF 15 rfl rfl rfl (by first | rfl | decide) (Nat.le_of_ble_eq_true rfl) (fun h hH hF => ?_) | refine ah_put d_Mo_put_79 fp_Mo_166 hH hF 16 rfl rfl rfl (by first | rfl | decide) (Nat.le_of_ble_eq_true rfl) (fun h hH hF => ?_) | refine ah_put d_Mo_put_79 fp_Mo_166 hH hF 17 rfl rfl rfl (by first | rfl | decide) (Nat.le_of_ble_eq_true rfl) (fun h hH hF => ?_) | refine ah_put d_Mo_put_79 fp_Mo_166 hH hF 18 rfl rfl rfl (by first | rfl | decide) (Nat.le_of_ble_eq_true rfl) (fun h hH hF => ?_)
        refine az_iinc d_Mo_put_82 rfl (by decide) rfl ?_
        have e9 : (m : Int) + -1 = (m : Int) - 1 := by omega
        rw [e9]
        refine ax_goto 5 d_Mo_put_85 (by decide) ?_
        refine ih (C ++ [bt v m]) (up iz1 23 (iz1 23 + 1)) ar3 h (by omega) (by rw [List.length_append]; simp; omega) (by rw [List.append_assoc]; exact hs) hH hF (ki.up 23 _ rfl) ka (MoB_step c1 hb2 (by show iz1 23 + 1 = _; omega) h22 hcell)
      -- the byte at hand is known
      have mid : ∀ (ar3 : Nat → Nat → Int) (h : ax_H), MoH h iz1 ar3 → Fr MOS h0 h → KA [22] ar ar3 → lb (ar3 22) (P0 C).1 → ar3 22 (P0 C).1.length = sb (((P0 C).2.1 * 2 ^ (8 - (P0 C).2.2) : Nat) : Int) → ax_W m_Mo_put 0 33 [some (.ref 47), some (.long (lz (v : Int))), none, some (.int (iv n)), some (.int (iv (m : Int)))] [] h (fun r0 h1 => r0 = none ∧ (∃ iz1 ar1, MoH h1 iz1 ar1 ∧ KI [23] iz iz1 ∧ KA [22] ar ar1 ∧ MoB iz1 ar1 (B ++ bitsV v n)) ∧ Fr MOS h0 h1) := by
        intro ar3 h hH hF ka h22 hcell
        have hcm := cmp3_sp (bt v m : Int) 1
        refine ax_lload_n d_Mo_put_33 rfl ?_
        refine ax_iload d_Mo_put_34 rfl ?_
        refine aj_lshr d_Mo_put_36 ?_
        refine aj_lconst 1 d_Mo_put_37 rfl ?_
        refine aj_land d_Mo_put_38 ?_
        rw [lz_bit (show m < 64 by omega) (by omega)]
        refine aj_lconst 1 d_Mo_put_39 rfl ?_
        refine aj_lcmp d_Mo_put_40 (by omega) (by omega) ?_
        refine az_if_ne 72 d_Mo_put_41 (by decide) (by first | exact bz_in _ | omega) (fun hne => ?_) (fun hne => ?_)
        · refine fin ar3 h hH hF ka h22 ?_
          have hb0 : bt v m = 0 := by omega
          rw [hcell, hb0, Nat.add_zero, show 8 - (P0 C).2.2 = 7 - (P0 C).2.2 + 1 by omega, Nat.pow_succ, Nat.mul_comm 2, Nat.mul_assoc, Nat.mul_comm 2]
        · have hb1 : bt v m = 1 := by omega
          have hl128 : (P0 C).2.1 < 128 := Nat.lt_of_lt_of_le w2 (by
            have : 2 ^ (P0 C).2.2 ≤ 2 ^ 7 := Nat.pow_le_pow_right (by decide) (by omega)
            omega)
          have hor := sb_or1 ⟨(P0 C).2.2, w1⟩ ⟨(P0 C).2.1, hl128⟩ w2
          have hsh := shr128 ⟨(P0 C).2.2, w1⟩
          try dsimp only at hor hsh
          have hcell' : ar3 22 (((P0 C).1.length : Int).toNat) = sb (((P0 C).2.1 * 2 ^ (8 - (P0 C).2.2) : Nat) : Int) := hcell
          refine ax_aload_n d_Mo_put_44 rfl ?_
          refine ax_get d_Mo_put_45 fg_Mo_56 (by first | assumption | exact hH.g 0 rfl | exact hH.g 1 rfl | exact hH.g 2 rfl | exact hH.g 3 rfl | exact hH.g 4 rfl | exact hH.g 5 rfl | exact hH.g 6 rfl | exact hH.g 7 rfl | exact hH.g 8 rfl | exact hH.g 9 rfl | exact hH.g 10 rfl | exact hH.g 11 rfl | exact hH.g 12 rfl | exact hH.g 13 rfl | exact hH.g 14 rfl | exact hH.g 15 rfl | exact hH.g 16 rfl | exact hH.g 17 rfl | exact hH.g 18 rfl) (by rfl) ?_
          refine ax_aload_n d_Mo_put_48 rfl ?_
          refine ax_get d_Mo_put_49 fg_Mo_166 (by first | assumption | exact hH.g 0 rfl | exact hH.g 1 rfl | exact hH.g 2 rfl | exact hH.g 3 rfl | exact hH.g 4 rfl | exact hH.g 5 rfl | exact hH.g 6 rfl | exact hH.g 7 rfl | exact hH.g 8 rfl | exact hH.g 9 rfl | exact hH.g 10 rfl | exact hH.g 11 rfl | exact hH.g 12 rfl | exact hH.g 13 rfl | exact hH.g 14 rfl | exact hH.g 15 rfl | exact hH.g 16 rfl | exact hH.g 17 rfl | exact hH.g 18 rfl) (by rfl) ?_
          refine az_bipush _ d_Mo_put_52 (by decide) ?_
          refine az_idiv d_Mo_put_54 (by omega) (by omega) ?_
          rw [ed]
          refine ax_dup2 d_Mo_put_55 rfl rfl ?_
          refine aj_bald d_Mo_put_56 (by first | assumption | exact hH.g 0 rfl | exact hH.g 1 rfl | exact hH.g 2 rfl | exact hH.g 3 rfl | exact hH.g 4 rfl | exact hH.g 5 rfl | exact hH.g 6 rfl | exact hH.g 7 rfl | exact hH.g 8 rfl | exact hH.g 9 rfl | exact hH.g 10 rfl | exact hH.g 11 rfl | exact hH.g 12 rfl | exact hH.g 13 rfl | exact hH.g 14 rfl | exact hH.g 15 rfl | exact hH.g 16 rfl | exact hH.g 17 rfl | exact hH.g 18 rfl) (by omega) (by omega) (by omega) ?_
          rw [hcell']
          refine az_sipush _ d_Mo_put_57 (by decide) ?_
          refine ax_aload_n d_Mo_put_60 rfl ?_
          refine ax_get d_Mo_put_61 fg_Mo_166 (by first | assumption | exact hH.g 0 rfl | exact hH.g 1 rfl | exact hH.g 2 rfl | exact hH.g 3 rfl | exact hH.g 4 rfl | exact hH.g 5 rfl | exact hH.g 6 rfl | exact hH.g 7 rfl | exact hH.g 8 rfl | exact hH.g 9 rfl | exact hH.g 10 rfl | exact hH.g 11 rfl | exact hH.g 12 rfl | exact hH.g 13 rfl | exact hH.g 14 rfl | exact hH.g 15 rfl | exact hH.g 16 rfl | exact hH.g 17 rfl | exact hH.g 18 rfl) (by rfl) ?_
          refine az_bipush _ d_Mo_put_64 (by decide) ?_
          refine az_irem d_Mo_put_66 (by omega) (by omega) ?_
          rw [em]
          refine az_ishr d_Mo_put_67 ?_
          rw [hsh]
          refine aj_i2b d_Mo_put_68 ?_
          refine az_ior d_Mo_put_69 ?_
          refine aj_i2b d_Mo_put_70 ?_
          rw [hor]
          first | refine ah_bast d_Mo_put_71 hH hF 0 rfl rfl (by omega) (by omega) (by omega) (by omega) (fun h hH hF => ?_) | refine ah_bast d_Mo_put_71 hH hF 1 rfl rfl (by omega) (by omega) (by omega) (by omega) (fun h hH hF => ?_) | refine ah_bast d_Mo_put_71 hH hF 2 rfl rfl (by omega) (by omega) (by omega) (by omega) (fun h hH hF => ?_) | refine ah_bast d_Mo_put_71 hH hF 3 rfl rfl (by omega) (by omega) (by omega) (by omega) (fun h hH hF => ?_) | refine ah_bast d_Mo_put_71 hH hF 4 rfl rfl (by omega) (by omega) (by omega) (by omega) (fun h hH hF => ?_) | refine ah_bast d_Mo_put_71 hH hF 5 rfl rfl (by omega) (by omega) (by omega) (by omega) (fun h hH hF => ?_) | refine ah_bast d_Mo_put_71 hH hF 6 rfl rfl (by omega) (by omega) (by omega) (by omega) (fun h hH hF => ?_) | refine ah_bast d_Mo_put_71 hH hF 7 rfl rfl (by omega) (by omega) (by omega) (by omega) (fun h hH hF => ?_) | refine ah_bast d_Mo_put_71 hH hF 8 rfl rfl (by omega) (by omega) (by omega) (by omega) (fun h hH hF => ?_) | refine ah_bast d_Mo_put_71 hH hF 9 rfl rfl (by omega) (by omega) (by omega) (by omega) (fun h hH hF => ?_) | refine ah_bast d_Mo_put_71 hH hF 10 rfl rfl (by omega) (by omega) (by omega) (by omega) (fun h hH hF => ?_) | refine ah_bast d_Mo_put_71 hH hF 11 rfl rfl (by omega) (by omega) (by omega) (by omega) (fun h hH hF => ?_) | refine ah_bast d_Mo_put_71 hH hF 12 rfl rfl (by omega) (by omega) (by omega) (by omega) (fun h hH hF => ?_) | refine ah_bast d_Mo_put_71 hH hF 13 rfl rfl (by omega) (by omega) (by omega) (by omega) (fun h hH hF => ?_) | refine ah_bast d_Mo_put_71 hH hF 14 rfl rfl (by omega) (by omega) (by omega) (by omega) (fun h hH hF => ?_) | refine ah_bast d_Mo_put_71 hH hF 15 rfl rfl (by omega) (by omega) (by omega) (by omega) (fun h hH hF => ?_) | refine ah_bast d_Mo_put_71 hH hF 16 rfl rfl (by omega) (by omega) (by omega) (by omega) (fun h hH hF => ?_) | refine ah_bast d_Mo_put_71 hH hF 17 rfl rfl (by omega) (by omega) (by omega) (by omega) (fun h hH hF => ?_) | refine ah_bast d_Mo_put_71 hH hF 18 rfl rfl (by omega) (by omega) (by omega) (by omega) (fun h hH hF => ?_)
          rw [sb_sb] at hH
          refine fin (upA ar3 22 (up (ar3 22) (P0 C).1.length (sb (((2 * (P0 C).2.1 + 1) * 2 ^ (7 - (P0 C).2.2) : Nat) : Int)))) h hH hF (ka.up 22 _ rfl) (fun i hi => ?_) ?_
          · show up (ar3 22) (P0 C).1.length _ i = _
            rw [up_ne (by omega)]
            exact h22 i hi
          · show up (ar3 22) (P0 C).1.length _ (P0 C).1.length = _
            rw [up_at, hb1]
      refine ax_iload d_Mo_put_5 rfl ?_
      refine az_if_lt 88 d_Mo_put_7 (by decide) (by first | exact bz_in _ | omega) (fun hc => ?_) (fun hc => ?_)
      · exfalso
        omega
      · refine ax_aload_n d_Mo_put_10 rfl ?_
        refine ax_get d_Mo_put_11 fg_Mo_166 (by first | assumption | exact hH.g 0 rfl | exact hH.g 1 rfl | exact hH.g 2 rfl | exact hH.g 3 rfl | exact hH.g 4 rfl | exact hH.g 5 rfl | exact hH.g 6 rfl | exact hH.g 7 rfl | exact hH.g 8 rfl | exact hH.g 9 rfl | exact hH.g 10 rfl | exact hH.g 11 rfl | exact hH.g 12 rfl | exact hH.g 13 rfl | exact hH.g 14 rfl | exact hH.g 15 rfl | exact hH.g 16 rfl | exact hH.g 17 rfl | exact hH.g 18 rfl) (by rfl) ?_
        refine az_bipush _ d_Mo_put_14 (by decide) ?_
        refine az_irem d_Mo_put_16 (by omega) (by omega) ?_
        rw [em]
        refine az_if_ne 33 d_Mo_put_17 (by decide) (by first | exact bz_in _ | omega) (fun hk0 => ?_) (fun hk0 => ?_)
        · exact mid ar1 h hH hF ka c3 (c4 (by omega))
        · have hk : (P0 C).2.2 = 0 := by omega
          refine ax_aload_n d_Mo_put_20 rfl ?_
          refine ax_get d_Mo_put_21 fg_Mo_56 (by first | assumption | exact hH.g 0 rfl | exact hH.g 1 rfl | exact hH.g 2 rfl | exact hH.g 3 rfl | exact hH.g 4 rfl | exact hH.g 5 rfl | exact hH.g 6 rfl | exact hH.g 7 rfl | exact hH.g 8 rfl | exact hH.g 9 rfl | exact hH.g 10 rfl | exact hH.g 11 rfl | exact hH.g 12 rfl | exact hH.g 13 rfl | exact hH.g 14 rfl | exact hH.g 15 rfl | exact hH.g 16 rfl | exact hH.g 17 rfl | exact hH.g 18 rfl) (by rfl) ?_
          refine ax_aload_n d_Mo_put_24 rfl ?_
          refine ax_get d_Mo_put_25 fg_Mo_166 (by first | assumption | exact hH.g 0 rfl | exact hH.g 1 rfl | exact hH.g 2 rfl | exact hH.g 3 rfl | exact hH.g 4 rfl | exact hH.g 5 rfl | exact hH.g 6 rfl | exact hH.g 7 rfl | exact hH.g 8 rfl | exact hH.g 9 rfl | exact hH.g 10 rfl | exact hH.g 11 rfl | exact hH.g 12 rfl | exact hH.g 13 rfl | exact hH.g 14 rfl | exact hH.g 15 rfl | exact hH.g 16 rfl | exact hH.g 17 rfl | exact hH.g 18 rfl) (by rfl) ?_
          refine az_bipush _ d_Mo_put_28 (by decide) ?_
          refine az_idiv d_Mo_put_30 (by omega) (by omega) ?_
          rw [ed]
          refine az_iconst d_Mo_put_31 ?_
          first | refine ah_bast d_Mo_put_32 hH hF 0 rfl rfl (by omega) (by omega) (by omega) (by omega) (fun h hH hF => ?_) | refine ah_bast d_Mo_put_32 hH hF 1 rfl rfl (by omega) (by omega) (by omega) (by omega) (fun h hH hF => ?_) | refine ah_bast d_Mo_put_32 hH hF 2 rfl rfl (by omega) (by omega) (by omega) (by omega) (fun h hH hF => ?_) | refine ah_bast d_Mo_put_32 hH hF 3 rfl rfl (by omega) (by omega) (by omega) (by omega) (fun h hH hF => ?_) | refine ah_bast d_Mo_put_32 hH hF 4 rfl rfl (by omega) (by omega) (by omega) (by omega) (fun h hH hF => ?_) | refine ah_bast d_Mo_put_32 hH hF 5 rfl rfl (by omega) (by omega) (by omega) (by omega) (fun h hH hF => ?_) | refine ah_bast d_Mo_put_32 hH hF 6 rfl rfl (by omega) (by omega) (by omega) (by omega) (fun h hH hF => ?_) | refine ah_bast d_Mo_put_32 hH hF 7 rfl rfl (by omega) (by omega) (by omega) (by omega) (fun h hH hF => ?_) | refine ah_bast d_Mo_put_32 hH hF 8 rfl rfl (by omega) (by omega) (by omega) (by omega) (fun h hH hF => ?_) | refine ah_bast d_Mo_put_32 hH hF 9 rfl rfl (by omega) (by omega) (by omega) (by omega) (fun h hH hF => ?_) | refine ah_bast d_Mo_put_32 hH hF 10 rfl rfl (by omega) (by omega) (by omega) (by omega) (fun h hH hF => ?_) | refine ah_bast d_Mo_put_32 hH hF 11 rfl rfl (by omega) (by omega) (by omega) (by omega) (fun h hH hF => ?_) | refine ah_bast d_Mo_put_32 hH hF 12 rfl rfl (by omega) (by omega) (by omega) (by omega) (fun h hH hF => ?_) | refine ah_bast d_Mo_put_32 hH hF 13 rfl rfl (by omega) (by omega) (by omega) (by omega) (fun h hH hF => ?_) | refine ah_bast d_Mo_put_32 hH hF 14 rfl rfl (by omega) (by omega) (by omega) (by omega) (fun h hH hF => ?_) | refine ah_bast d_Mo_put_32 hH hF 15 rfl rfl (by omega) (by omega) (by omega) (by omega) (fun h hH hF => ?_) | refine ah_bast d_Mo_put_32 hH hF 16 rfl rfl (by omega) (by omega) (by omega) (by omega) (fun h hH hF => ?_) | refine ah_bast d_Mo_put_32 hH hF 17 rfl rfl (by omega) (by omega) (by omega) (by omega) (fun h hH hF => ?_) | refine ah_bast d_Mo_put_32 hH hF 18 rfl rfl (by omega) (by omega) (by omega) (by omega) (fun h hH hF => ?_)
          refine mid (upA ar1 22 (up (ar1 22) (P0 C).1.length (sb 0))) h hH hF (ka.up 22 _ rfl) (fun i hi => ?_) ?_
          · show up (ar1 22) (P0 C).1.length _ i = _
            rw [up_ne (by omega)]
            exact c3 i hi
          · show up (ar1 22) (P0 C).1.length _ (P0 C).1.length = _
            rw [hk] at w2
            have hH0 : (P0 C).2.1 = 0 := by
              have : (2 : Nat) ^ 0 = 1 := rfl
              omega
            rw [up_at, hH0, Nat.zero_mul]
            rfl
  exact key n B iz ar h0 (Nat.le_refl _) hcap rfl hH hF KI.rf KA.rf hB
set_option maxRecDepth 100000 in
set_option maxHeartbeats 4000000 in
theorem c_Mo_checkQ {h0 : ax_H} {iz : Nat → Int} {ar : Nat → Nat → Int} {xs : List Int} (hH : MoH h0 iz ar) (q0 : iz 0 = xs.length) (q1 : xs.length ≤ 600) (q2 : la (ar 1) xs) : ax_Ci m_Mo_check 0 [.ref 47] h0 (fun z h1 => h1 = h0 ∧ z = crc xs) := by
  refine ax_enter [some (.ref 47), none, none, none] rfl (Nat.le_of_ble_eq_true rfl) (by decide) ?_
  refine az_iconst d_Mo_check_0 ?_
  refine ax_istore_n d_Mo_check_1 (by decide) rfl ?_
  refine az_iconst d_Mo_check_2 ?_
  refine ax_istore_n d_Mo_check_3 (by decide) rfl ?_
  have outer : ∀ (f i : Nat) (c : Int), i + f = xs.length → (-2147483648 ≤ c ∧ c < 2147483648) → c = crL (xs.take i) → ∀ v3 : Option Value,
      ax_W m_Mo_check 0 4 [some (.ref 47), some (.int (iv c)), some (.int (iv i)), v3] [] h0 (fun r0 h1 => ∃ z : Int, r0 = some (.int (iv z)) ∧ h1 = h0 ∧ z = crc xs) := by
    intro f
    induction f with
    | zero =>
      intro i c he hc0 hcc2 v3
      refine ax_iload_n d_Mo_check_4 rfl ?_
      refine ax_aload_n d_Mo_check_5 rfl ?_
      refine ax_get d_Mo_check_6 fg_Mo_76 (by first | assumption | exact hH.g 0 rfl | exact hH.g 1 rfl | exact hH.g 2 rfl | exact hH.g 3 rfl | exact hH.g 4 rfl | exact hH.g 5 rfl | exact hH.g 6 rfl | exact hH.g 7 rfl | exact hH.g 8 rfl | exact hH.g 9 rfl | exact hH.g 10 rfl | exact hH.g 11 rfl | exact hH.g 12 rfl | exact hH.g 13 rfl | exact hH.g 14 rfl | exact hH.g 15 rfl | exact hH.g 16 rfl | exact hH.g 17 rfl | exact hH.g 18 rfl) (by rfl) ?_
      refine az_icmp_ge 61 d_Mo_check_9 (by decide) (by omega) (by omega) (fun hc => ?_) (fun hc => ?_)
      · refine ax_iload_n d_Mo_check_61 rfl ?_
        refine az_iconst d_Mo_check_62 ?_
        refine az_ixor d_Mo_check_63 ?_
        refine ax_iret d_Mo_check_64 rfl ?_
        refine ⟨_, rfl, rfl, ?_⟩
        rw [hcc2, List.take_of_length_le (by omega)]
        rfl
      · exfalso
        omega
    | succ f ih =>
      intro i c he hc0 hcc2 v3
      have er : ar 1 ((i : Int).toNat) = gx xs i := q2 i (by omega)
      refine ax_iload_n d_Mo_check_4 rfl ?_
      refine ax_aload_n d_Mo_check_5 rfl ?_
      refine ax_get d_Mo_check_6 fg_Mo_76 (by first | assumption | exact hH.g 0 rfl | exact hH.g 1 rfl | exact hH.g 2 rfl | exact hH.g 3 rfl | exact hH.g 4 rfl | exact hH.g 5 rfl | exact hH.g 6 rfl | exact hH.g 7 rfl | exact hH.g 8 rfl | exact hH.g 9 rfl | exact hH.g 10 rfl | exact hH.g 11 rfl | exact hH.g 12 rfl | exact hH.g 13 rfl | exact hH.g 14 rfl | exact hH.g 15 rfl | exact hH.g 16 rfl | exact hH.g 17 rfl | exact hH.g 18 rfl) (by rfl) ?_
      refine az_icmp_ge 61 d_Mo_check_9 (by decide) (by omega) (by omega) (fun hc => ?_) (fun hc => ?_)
      · exfalso
        omega
      · refine ax_iload_n d_Mo_check_12 rfl ?_
        refine ax_aload_n d_Mo_check_13 rfl ?_
        refine ax_get d_Mo_check_14 fg_Mo_7 (by first | assumption | exact hH.g 0 rfl | exact hH.g 1 rfl | exact hH.g 2 rfl | exact hH.g 3 rfl | exact hH.g 4 rfl | exact hH.g 5 rfl | exact hH.g 6 rfl | exact hH.g 7 rfl | exact hH.g 8 rfl | exact hH.g 9 rfl | exact hH.g 10 rfl | exact hH.g 11 rfl | exact hH.g 12 rfl | exact hH.g 13 rfl | exact hH.g 14 rfl | exact hH.g 15 rfl | exact hH.g 16 rfl | exact hH.g 17 rfl | exact hH.g 18 rfl) (by rfl) ?_
        refine ax_iload_n d_Mo_check_17 rfl ?_
        refine az_iald d_Mo_check_18 (by first | assumption | exact hH.g 0 rfl | exact hH.g 1 rfl | exact hH.g 2 rfl | exact hH.g 3 rfl | exact hH.g 4 rfl | exact hH.g 5 rfl | exact hH.g 6 rfl | exact hH.g 7 rfl | exact hH.g 8 rfl | exact hH.g 9 rfl | exact hH.g 10 rfl | exact hH.g 11 rfl | exact hH.g 12 rfl | exact hH.g 13 rfl | exact hH.g 14 rfl | exact hH.g 15 rfl | exact hH.g 16 rfl | exact hH.g 17 rfl | exact hH.g 18 rfl) (by omega) (by omega) (by omega) ?_
        rw [er]
        refine az_bipush _ d_Mo_check_19 (by decide) ?_
        refine az_ishl d_Mo_check_21 ?_
        refine az_ixor d_Mo_check_22 ?_
        refine ax_istore_n d_Mo_check_23 (by decide) rfl ?_
        refine az_iconst d_Mo_check_24 ?_
        refine ax_istore_n d_Mo_check_25 (by decide) rfl ?_
        have inner : ∀ (g t : Nat) (c2 : Int), t + g = 8 → c2 = crN t (zxor c (zshl (gx xs i) 24)) → (-2147483648 ≤ c2 ∧ c2 < 2147483648) →
            ax_W m_Mo_check 0 26 [some (.ref 47), some (.int (iv c2)), some (.int (iv i)), some (.int (iv t))] [] h0 (fun r0 h1 => ∃ z : Int, r0 = some (.int (iv z)) ∧ h1 = h0 ∧ z = crc xs) := by
          intro g
          induction g with
          | zero =>
            intro t c2 he2 hc2 hb2
            have ht : t = 8 := by omega
            subst ht
            refine ax_iload_n d_Mo_check_26 rfl ?_
            refine az_bipush _ d_Mo_check_27 (by decide) ?_
            refine az_icmp_ge 55 d_Mo_check_29 (by decide) (by omega) (by omega) (fun hc => ?_) (fun hc => ?_)
            · refine az_iinc d_Mo_check_55 rfl (by decide) rfl ?_
              refine ax_goto 4 d_Mo_check_58 (by decide) ?_
              refine ih (i + 1) c2 (by omega) hb2 ?_ _
              rw [← take_succ_getD xs (by omega), crL, List.foldl_append, hc2, hcc2]
              rfl
            · exfalso
              omega
          | succ g ih2 =>
            intro t c2 he2 hc2 hb2
            refine ax_iload_n d_Mo_check_26 rfl ?_
            refine az_bipush _ d_Mo_check_27 (by decide) ?_
            refine az_icmp_ge 55 d_Mo_check_29 (by decide) (by omega) (by omega) (fun hc => ?_) (fun hc => ?_)
            · exfalso
              omega
            · refine ax_iload_n d_Mo_check_32 rfl ?_
              refine az_if_ge 45 d_Mo_check_33 (by decide) (by first | exact bz_in _ | omega) (fun hc => ?_) (fun hc => ?_)
              · refine ax_iload_n d_Mo_check_45 rfl ?_
                refine az_iconst d_Mo_check_46 ?_
                refine az_ishl d_Mo_check_47 ?_
                refine ax_istore_n d_Mo_check_48 (by decide) rfl ?_
                refine az_iinc d_Mo_check_49 rfl (by decide) rfl ?_
                refine ax_goto 26 d_Mo_check_52 (by decide) ?_
                refine ih2 (t + 1) _ (by omega) ?_ (zshl_in _ _)
                rw [crN_out, ← hc2, cr1, if_neg (by omega)]
              · refine ax_iload_n d_Mo_check_36 rfl ?_
                refine az_iconst d_Mo_check_37 ?_
                refine az_ishl d_Mo_check_38 ?_
                refine az_ldc 79764919 d_Mo_check_39 cn_Mo_169 ?_
                refine az_ixor d_Mo_check_41 ?_
                refine ax_goto 48 d_Mo_check_42 (by decide) ?_
                refine ax_istore_n d_Mo_check_48 (by decide) rfl ?_
                refine az_iinc d_Mo_check_49 rfl (by decide) rfl ?_
                refine ax_goto 26 d_Mo_check_52 (by decide) ?_
                refine ih2 (t + 1) _ (by omega) ?_ (zxor_in _ _)
                rw [crN_out, ← hc2, cr1, if_pos (by omega)]
        exact inner 8 0 _ (by omega) rfl (zxor_in _ _)
  exact outer xs.length 0 (-1) (by omega) (by omega) rfl none
theorem c_Mo_check {h0 : ax_H} {xs T out : List Int} {fp : Int} (hM : MoI h0 xs T out fp) : ax_Ci m_Mo_check 0 [.ref 47] h0 (fun z h1 => z = crc xs ∧ MoI h1 xs T out fp ∧ Fr MOS h0 h1) := by
  have hM0 := hM
  obtain ⟨iz, ar, hH, hQ⟩ := hM
  obtain ⟨q0, q1, q2, q3, -⟩ := id hQ
  refine ax_Cl.mono (c_Mo_checkQ hH q0 q1 q2) (fun r h1 hp => ?_)
  obtain ⟨z, rfl, rfl, rfl⟩ := hp
  exact ⟨_, rfl, rfl, hM0, Fr.rf⟩
