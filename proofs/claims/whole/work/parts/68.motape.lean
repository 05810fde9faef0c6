/-! the reference: out, tape, take, spoil, cut, faultAt -/
theorem sb_255 : ∀ b : Fin 256, zand (sb ((b.val : Nat) : Int)) 255 = ((b.val : Nat) : Int) := by decide +kernel
theorem sb_255' {b : Int} (h : 0 ≤ b ∧ b < 256) : zand (sb b) 255 = b := by
  obtain ⟨n, rfl⟩ := Int.eq_ofNat_of_zero_le h.1
  exact sb_255 ⟨n, by omega⟩
theorem sb_xor (a b : Int) : sb (zxor (sb a) (sb b)) = sb (zxor a b) := by
  have h : iv (sb (zxor (sb a) (sb b))) = iv (sb (zxor a b)) := by
    rw [← sb_i, ← sb_i]
    unfold zxor
    rw [iv_of, iv_of, ← sb_i a, ← sb_i b, ← Int8.toInt32_xor, Int32.toInt8_xor, Int8.toInt8_toInt32]
  have e1 := sb_in (zxor (sb a) (sb b))
  have e2 := sb_in (zxor a b)
  exact (iv_eq (by omega) (by omega)).mp h
theorem tp_model (x : Int64) {k : Nat} (hk : k < 8) : sb ((((x.toUInt64 >>> ((iv (8 * (k : Int))).toInt64.toUInt64 &&& Int64.toUInt64 63)).toInt64).toInt32).toInt) = sb (byN x k) := by
  obtain ⟨n, hn, rfl⟩ := wb_of x
  have e : iv (8 * (k : Int)) = nI (8 * k) := by
    rw [← iv_nat]
    exact congrArg iv (by omega)
  rw [e, wb_shr hn (by omega), lN_i]
  apply sb_mod
  unfold byN
  rw [wb_tn hn]
  have h1 : (nI (n / 2 ^ (8 * k))).toInt = ((n / 2 ^ (8 * k) : Nat) : Int).bmod (2 ^ 32) := Int32.toInt_ofNat'
  have h2 := Int.bmod_emod (x := ((n / 2 ^ (8 * k) : Nat) : Int)) (m := 2 ^ 32)
  rw [← h1] at h2
  have h4 : (((2 ^ 32 : Nat)) : Int) = 4294967296 := by decide
  rw [h4] at h2
  omega
theorem MoQ.tp {iz iz1 : Nat → Int} {ar ar1 : Nat → Nat → Int} {xs T T1 out : List Int} {fp : Int} {K K' : List Nat} (k : MoQ iz ar xs T out fp) (hi : KI K iz iz1) (ha : KA K' ar ar1) (h1 : ([0, 6, 8, 9, 24, 29].all fun a => !K.contains a) = true) (h2 : ([1, 7, 22].all fun a => !K'.contains a) = true) (e1 : iz1 26 = T1.length) (e2 : T1.length ≤ 3000) (e3 : lb (ar1 25) T1) (e4 : Bs T1) : MoQ iz1 ar1 xs T1 out fp := by
  have hm : ∀ a ∈ [0, 6, 8, 9, 24, 29], iz1 a = iz a := fun a h => hi a (by have := List.all_eq_true.mp h1 a h; simpa using this)
  have hn : ∀ a ∈ [1, 7, 22], ar1 a = ar a := fun a h => ha a (by have := List.all_eq_true.mp h2 a h; simpa using this)
  unfold MoQ Laid at k ⊢
  rw [hm 0 (by decide), hm 6 (by decide), hm 8 (by decide), hm 9 (by decide), hm 24 (by decide), hm 29 (by decide), hn 1 (by decide), hn 7 (by decide), hn 22 (by decide)]
  obtain ⟨k1, k2, k3, k4, k5, k6, k7, k8, k9, k10, k11, k12, k13, k14⟩ := k
  exact ⟨k1, k2, k3, k4, k5, k6, k7, k8, k9, e1, e2, e3, e4, k14⟩
set_option maxRecDepth 100000 in
theorem c_Mo_out {h0 : ax_H} {xs T out : List Int} {fp : Int} (hM : MoI h0 xs T out fp) {i : Int} (hi : -2147483648 ≤ i ∧ i < 2147483648) : ax_Ci m_Mo_out 1 [.ref 47, .int (iv i)] h0 (fun z h1 => z = rAt out i ∧ MoI h1 xs T out fp ∧ Fr MOS h0 h1) := by
  have hM0 := hM
  obtain ⟨iz, ar, hH, hQ⟩ := hM
  obtain ⟨-, -, -, -, -, k6, k7, k8, k9, -⟩ := id hQ
  unfold rAt
  refine ax_enter [some (.ref 47), some (.int (iv i))] rfl (Nat.le_of_ble_eq_true rfl) (by decide) ?_
  refine ax_iload_n d_Mo_out_0 rfl ?_
  refine aj_i2l d_Mo_out_1 (by omega) ?_
  refine aj_lconst 0 d_Mo_out_2 rfl ?_
  refine ax_aload_n d_Mo_out_3 rfl ?_
  refine ax_get d_Mo_out_4 fg_Mo_184 (by first | assumption | exact hH.g 0 rfl | exact hH.g 1 rfl | exact hH.g 2 rfl | exact hH.g 3 rfl | exact hH.g 4 rfl | exact hH.g 5 rfl | exact hH.g 6 rfl | exact hH.g 7 rfl | exact hH.g 8 rfl | exact hH.g 9 rfl | exact hH.g 10 rfl | exact hH.g 11 rfl | exact hH.g 12 rfl | exact hH.g 13 rfl | exact hH.g 14 rfl | exact hH.g 15 rfl | exact hH.g 16 rfl | exact hH.g 17 rfl | exact hH.g 18 rfl) (by rfl) ?_
  refine az_iconst d_Mo_out_7 ?_
  refine az_isub d_Mo_out_8 ?_
  refine aj_i2l d_Mo_out_9 (by omega) ?_
  refine ax_cS3 d_Mo_out_10 s_Mo_isIn lk_Mo_72 (by decide) (Nat.le_of_ble_eq_true rfl) (cm_z (c_Mo_isIn (v := i) (a := 0) (b := iz 24 - 1) (by omega) (by omega) (by omega)) (fun b h1 hq => ?_))
  obtain ⟨rfl, rfl⟩ := hq
  refine az_if_eq 29 d_Mo_out_13 (by decide) (bz_in _) (fun hcb => ?_) (fun hcb => ?_)
  · have hin := of_decide_eq_false (bz_f hcb)
    rw [if_neg (by omega)]
    refine az_bipush _ d_Mo_out_29 (by decide) ?_
    refine ax_iret d_Mo_out_31 rfl ?_
    exact ⟨_, rfl, rfl, hM0, Fr.rf⟩
  · have hin := of_decide_eq_true (bz_t hcb)
    rw [if_pos (by omega)]
    have er : ar 22 i.toNat = sb (gx out i.toNat) := k8 _ (by omega)
    refine ax_aload_n d_Mo_out_16 rfl ?_
    refine ax_get d_Mo_out_17 fg_Mo_56 (by first | assumption | exact hH.g 0 rfl | exact hH.g 1 rfl | exact hH.g 2 rfl | exact hH.g 3 rfl | exact hH.g 4 rfl | exact hH.g 5 rfl | exact hH.g 6 rfl | exact hH.g 7 rfl | exact hH.g 8 rfl | exact hH.g 9 rfl | exact hH.g 10 rfl | exact hH.g 11 rfl | exact hH.g 12 rfl | exact hH.g 13 rfl | exact hH.g 14 rfl | exact hH.g 15 rfl | exact hH.g 16 rfl | exact hH.g 17 rfl | exact hH.g 18 rfl) (by rfl) ?_
    refine ax_iload_n d_Mo_out_20 rfl ?_
    refine aj_bald d_Mo_out_21 (by first | assumption | exact hH.g 0 rfl | exact hH.g 1 rfl | exact hH.g 2 rfl | exact hH.g 3 rfl | exact hH.g 4 rfl | exact hH.g 5 rfl | exact hH.g 6 rfl | exact hH.g 7 rfl | exact hH.g 8 rfl | exact hH.g 9 rfl | exact hH.g 10 rfl | exact hH.g 11 rfl | exact hH.g 12 rfl | exact hH.g 13 rfl | exact hH.g 14 rfl | exact hH.g 15 rfl | exact hH.g 16 rfl | exact hH.g 17 rfl | exact hH.g 18 rfl) (by omega) (by omega) (by omega) ?_
    rw [er]
    refine az_sipush _ d_Mo_out_22 (by decide) ?_
    refine az_iand d_Mo_out_25 ?_
    rw [sb_255' (gx_Bs k9 _)]
    refine ax_goto 31 d_Mo_out_26 (by decide) ?_
    refine ax_iret d_Mo_out_31 rfl ?_
    exact ⟨_, rfl, rfl, hM0, Fr.rf⟩
set_option maxRecDepth 100000 in
set_option maxHeartbeats 4000000 in
theorem c_Mo_tape {h0 : ax_H} {xs T out : List Int} {fp : Int} (hM : MoI h0 xs T out fp) (x : Int64) {n : Int} (hn : -2147483648 ≤ n ∧ n < 2147483648) : ax_Ci m_Mo_tape 1 [.ref 47, .long x, .int (iv n)] h0 (fun z h1 => z = (aAdd 3000 T x n).1 ∧ MoI h1 xs (aAdd 3000 T x n).2 out fp ∧ Fr MOS h0 h1) := by
  have hM0 := hM
  obtain ⟨iz, ar, hH, hQ⟩ := hM
  obtain ⟨-, -, -, -, -, -, -, -, -, k10, k11, k12, k13, -⟩ := id hQ
  have hF : Fr MOS h0 h0 := Fr.rf
  unfold aAdd
  refine ax_enter [some (.ref 47), some (.long x), none, some (.int (iv n)), none] rfl (Nat.le_of_ble_eq_true rfl) (by decide) ?_
  refine ax_iload_n d_Mo_tape_0 rfl ?_
  refine aj_i2l d_Mo_tape_1 (by omega) ?_
  refine aj_lconst 1 d_Mo_tape_2 rfl ?_
  refine aj_ldc2 8 d_Mo_tape_3 cn_Mo_70 ?_
  refine ax_cS3 d_Mo_tape_6 s_Mo_isIn lk_Mo_72 (by decide) (Nat.le_of_ble_eq_true rfl) (cm_z (c_Mo_isIn (v := n) (a := 1) (b := 8) (by omega) (by omega) (by omega)) (fun b h1 hq => ?_))
  obtain ⟨rfl, rfl⟩ := hq
  refine az_if_ne 14 d_Mo_tape_9 (by decide) (bz_in _) (fun hcb => ?_) (fun hcb => ?_)
  · have hin := of_decide_eq_true (bz_t hcb)
    rw [if_neg (by omega)]
    refine ax_aload_n d_Mo_tape_14 rfl ?_
    refine ax_get d_Mo_tape_15 fg_Mo_191 (by first | assumption | exact hH.g 0 rfl | exact hH.g 1 rfl | exact hH.g 2 rfl | exact hH.g 3 rfl | exact hH.g 4 rfl | exact hH.g 5 rfl | exact hH.g 6 rfl | exact hH.g 7 rfl | exact hH.g 8 rfl | exact hH.g 9 rfl | exact hH.g 10 rfl | exact hH.g 11 rfl | exact hH.g 12 rfl | exact hH.g 13 rfl | exact hH.g 14 rfl | exact hH.g 15 rfl | exact hH.g 16 rfl | exact hH.g 17 rfl | exact hH.g 18 rfl) (by rfl) ?_
    refine ax_iload_n d_Mo_tape_18 rfl ?_
    refine az_iadd d_Mo_tape_19 ?_
    refine az_sipush _ d_Mo_tape_20 (by decide) ?_
    refine az_icmp_le 29 d_Mo_tape_23 (by decide) (by omega) (by omega) (fun hfull => ?_) (fun hfull => ?_)
    · rw [if_neg (by omega)]
      refine az_iconst d_Mo_tape_29 ?_
      refine ax_istore d_Mo_tape_30 (by decide) rfl ?_
      have key : ∀ (f k : Nat) (iz1 : Nat → Int) (ar1 : Nat → Nat → Int) (h : ax_H), k + f = n.toNat → MoH h iz1 ar1 → Fr MOS h1 h → KI [26] iz iz1 → KA [25] ar ar1 → iz1 26 = T.length + k → lb (ar1 25) (T ++ byL x k) →
          ax_W m_Mo_tape 1 32 [some (.ref 47), some (.long x), none, some (.int (iv n)), some (.int (iv k))] [] h (fun r0 h2 => ∃ z : Int, r0 = some (.int (iv z)) ∧ z = (T.length : Int) + n ∧ MoI h2 xs (T ++ byL x n.toNat) out fp ∧ Fr MOS h1 h2) := by
        intro f
        induction f with
        | zero =>
          intro k iz1 ar1 h he hH hF hi ha e0 hl
          have hk : k = n.toNat := by omega
          subst hk
          have hlen : (T ++ byL x n.toNat).length = T.length + n.toNat := by rw [List.length_append, byL_len]
          refine ax_iload d_Mo_tape_32 rfl ?_
          refine ax_iload_n d_Mo_tape_34 rfl ?_
          refine az_icmp_ge 69 d_Mo_tape_35 (by decide) (by omega) (by omega) (fun hc => ?_) (fun hc => ?_)
          · refine ax_aload_n d_Mo_tape_69 rfl ?_
            refine ax_get d_Mo_tape_70 fg_Mo_191 (by first | assumption | exact hH.g 0 rfl | exact hH.g 1 rfl | exact hH.g 2 rfl | exact hH.g 3 rfl | exact hH.g 4 rfl | exact hH.g 5 rfl | exact hH.g 6 rfl | exact hH.g 7 rfl | exact hH.g 8 rfl | exact hH.g 9 rfl | exact hH.g 10 rfl | exact hH.g 11 rfl | exact hH.g 12 rfl | exact hH.g 13 rfl | exact hH.g 14 rfl | exact hH.g 15 rfl | exact hH.g 16 rfl | exact hH.g 17 rfl | exact hH.g 18 rfl) (by rfl) ?_
            refine ax_iret d_Mo_tape_73 rfl ?_
            refine ⟨_, rfl, by omega, ⟨iz1, ar1, hH, ?_⟩, hF⟩
            exact hQ.tp hi ha rfl rfl (by rw [hlen]; omega) (by omega) hl (Bs_app k13 (Bs_byL _ _))
          · exfalso
            omega
        | succ f ih =>
          intro k iz1 ar1 h he hH hF hi ha e0 hl
          have hlen : (T ++ byL x k).length = T.length + k := by rw [List.length_append, byL_len]
          refine ax_iload d_Mo_tape_32 rfl ?_
          refine ax_iload_n d_Mo_tape_34 rfl ?_
          refine az_icmp_ge 69 d_Mo_tape_35 (by decide) (by omega) (by omega) (fun hc => ?_) (fun hc => ?_)
          · exfalso
            omega
          · refine ax_aload_n d_Mo_tape_38 rfl ?_
            refine ax_get d_Mo_tape_39 fg_Mo_60 (by first | assumption | exact hH.g 0 rfl | exact hH.g 1 rfl | exact hH.g 2 rfl | exact hH.g 3 rfl | exact hH.g 4 rfl | exact hH.g 5 rfl | exact hH.g 6 rfl | exact hH.g 7 rfl | exact hH.g 8 rfl | exact hH.g 9 rfl | exact hH.g 10 rfl | exact hH.g 11 rfl | exact hH.g 12 rfl | exact hH.g 13 rfl | exact hH.g 14 rfl | exact hH.g 15 rfl | exact hH.g 16 rfl | exact hH.g 17 rfl | exact hH.g 18 rfl) (by rfl) ?_
            refine ax_aload_n d_Mo_tape_42 rfl ?_
            refine ax_dup d_Mo_tape_43 rfl ?_
            refine ax_get d_Mo_tape_44 fg_Mo_191 (by first | assumption | exact hH.g 0 rfl | exact hH.g 1 rfl | exact hH.g 2 rfl | exact hH.g 3 rfl | exact hH.g 4 rfl | exact hH.g 5 rfl | exact hH.g 6 rfl | exact hH.g 7 rfl | exact hH.g 8 rfl | exact hH.g 9 rfl | exact hH.g 10 rfl | exact hH.g 11 rfl | exact hH.g 12 rfl | exact hH.g 13 rfl | exact hH.g 14 rfl | exact hH.g 15 rfl | exact hH.g 16 rfl | exact hH.g 17 rfl | exact hH.g 18 rfl) (by rfl) ?_
            refine ax_dup_x1 d_Mo_tape_47 rfl rfl ?_
            refine az_iconst d_Mo_tape_48 ?_
            refine az_iadd d_Mo_tape_49 ?_
            first | refine ah_put d_Mo_tape_50 fp_Mo_191 hH hF 0 rfl rfl rfl (by first | rfl | decide) (Nat.le_of_ble_eq_true rfl) (fun h hH hF => ?_) | refine ah_put d_Mo_tape_50 fp_Mo_191 hH hF 1 rfl rfl rfl (by first | rfl | decide) (Nat.le_of_ble_eq_true rfl) (fun h hH hF => ?_) | refine ah_put d_Mo_tape_50 fp_Mo_191 hH hF 2 rfl rfl rfl (by first | rfl | decide) (Nat.le_of_ble_eq_true rfl) (fun h hH hF => ?_) | refine ah_put d_Mo_tape_50 fp_Mo_191 hH hF 3 rfl rfl rfl (by first | rfl | decide) (Nat.le_of_ble_eq_true rfl) (fun h hH hF => ?_) | refine ah_put d_Mo_tape_50 fp_Mo_191 hH hF 4 rfl rfl rfl (by first | rfl | decide) (Nat.le_of_ble_eq_true rfl) (fun h hH hF => ?_) | refine ah_put d_Mo_tape_50 fp_Mo_191 hH hF 5 rfl rfl rfl (by first | rfl | decide) (Nat.le_of_ble_eq_true rfl) (fun h hH hF => ?_) | refine ah_put d_Mo_tape_50 fp_Mo_191 hH hF 6 rfl rfl rfl (by first | rfl | decide) (Nat.le_of_ble_eq_true rfl) (fun h hH hF => ?_) | refine ah_put d_Mo_tape_50 fp_Mo_191 hH hF 7 rfl rfl rfl (by first | rfl | decide) (Nat.le_of_ble_eq_true rfl) (fun h hH hF => ?_) | refine ah_put d_Mo_tape_50 fp_Mo_191 hH hF 8 rfl rfl rfl (by first | rfl | decide) (Nat.le_of_ble_eq_true rfl) (fun h hH hF => ?_) | refine ah_put d_Mo_tape_50 fp_Mo_191 hH hF 9 rfl rfl rfl (by first | rfl | decide) (Nat.le_of_ble_eq_true rfl) (fun h hH hF => ?_) | refine ah_put d_Mo_tape_50 fp_Mo_191 hH hF 10 rfl rfl rfl (by first | rfl | decide) (Nat.le_of_ble_eq_true rfl) (fun h hH hF => ?_) | refine ah_put d_Mo_tape_50 fp_Mo_191 hH hF 11 rfl rfl rfl (by first | rfl | decide) (Nat.le_of_ble_eq_true rfl) (fun h hH hF => ?_) | refine ah_put d_Mo_tape_50 fp_Mo_191 hH hF 12 rfl rfl rfl (by first | rfl | decide) (Nat.le_of_ble_eq_true rfl) (fun h hH hF => ?_) | refine ah_put d_Mo_tape_50 fp_Mo_191 hH hF 13 rfl rfl rfl (by first | rfl | decide) (Nat.le_of_ble_eq_true rfl) (fun h hH hF => ?_) | refine ah_put d_Mo_tape_50 fp_Mo_191 hH hF 14 rfl rfl rfl (by first | rfl | decide) (Nat.le_of_ble_eq_true rfl) (fun h hH hF => ?_) | refine ah_put d_Mo_tape_50 fp_Mo_191 hH hF 15 rfl rfl rfl (by first | rfl | decide) (Nat.le_of_ble_eq_true rfl) (fun h hH hF => ?_) | refine ah_put d_Mo_tape_50 fp_Mo_191 hH hF 16 rfl rfl rfl (by first | rfl | decide) (Nat.le_of_ble_eq_true rfl) (fun h hH hF => ?_) | refine ah_put d_Mo_tape_50 fp_Mo_191 hH hF 17 rfl rfl rfl (by first | rfl | decide) (Nat.le_of_ble_eq_true rfl) (fun h hH hF => ?_) | refine ah_put d_Mo_tape_50 fp_Mo_191 hH hF 18 rfl rfl rfl (by first | rfl | decide) (Nat.le_of_ble_eq_true rfl) (fun h hH hF => ?_)
            refine ax_lload_n d_Mo_tape_53 rfl ?_
            refine az_bipush _ d_Mo_tape_54 (by decide) ?_
            refine ax_iload d_Mo_tape_56 rfl ?_
            refine az_imul d_Mo_tape_58 ?_
            refine ax_lushr d_Mo_tape_59 ?_
            refine az_l2i d_Mo_tape_60 ?_
            refine aj_i2b d_Mo_tape_61 ?_
            first | refine ah_bast d_Mo_tape_62 hH hF 0 rfl rfl (by omega) (by omega) (by omega) (by omega) (fun h hH hF => ?_) | refine ah_bast d_Mo_tape_62 hH hF 1 rfl rfl (by omega) (by omega) (by omega) (by omega) (fun h hH hF => ?_) | refine ah_bast d_Mo_tape_62 hH hF 2 rfl rfl (by omega) (by omega) (by omega) (by omega) (fun h hH hF => ?_) | refine ah_bast d_Mo_tape_62 hH hF 3 rfl rfl (by omega) (by omega) (by omega) (by omega) (fun h hH hF => ?_) | refine ah_bast d_Mo_tape_62 hH hF 4 rfl rfl (by omega) (by omega) (by omega) (by omega) (fun h hH hF => ?_) | refine ah_bast d_Mo_tape_62 hH hF 5 rfl rfl (by omega) (by omega) (by omega) (by omega) (fun h hH hF => ?_) | refine ah_bast d_Mo_tape_62 hH hF 6 rfl rfl (by omega) (by omega) (by omega) (by omega) (fun h hH hF => ?_) | refine ah_bast d_Mo_tape_62 hH hF 7 rfl rfl (by omega) (by omega) (by omega) (by omega) (fun h hH hF => ?_) | refine ah_bast d_Mo_tape_62 hH hF 8 rfl rfl (by omega) (by omega) (by omega) (by omega) (fun h hH hF => ?_) | refine ah_bast d_Mo_tape_62 hH hF 9 rfl rfl (by omega) (by omega) (by omega) (by omega) (fun h hH hF => ?_) | refine ah_bast d_Mo_tape_62 hH hF 10 rfl rfl (by omega) (by omega) (by omega) (by omega) (fun h hH hF => ?_) | refine ah_bast d_Mo_tape_62 hH hF 11 rfl rfl (by omega) (by omega) (by omega) (by omega) (fun h hH hF => ?_) | refine ah_bast d_Mo_tape_62 hH hF 12 rfl rfl (by omega) (by omega) (by omega) (by omega) (fun h hH hF => ?_) | refine ah_bast d_Mo_tape_62 hH hF 13 rfl rfl (by omega) (by omega) (by omega) (by omega) (fun h hH hF => ?_) | refine ah_bast d_Mo_tape_62 hH hF 14 rfl rfl (by omega) (by omega) (by omega) (by omega) (fun h hH hF => ?_) | refine ah_bast d_Mo_tape_62 hH hF 15 rfl rfl (by omega) (by omega) (by omega) (by omega) (fun h hH hF => ?_) | refine ah_bast d_Mo_tape_62 hH hF 16 rfl rfl (by omega) (by omega) (by omega) (by omega) (fun h hH hF => ?_) | refine ah_bast d_Mo_tape_62 hH hF 17 rfl rfl (by omega) (by omega) (by omega) (by omega) (fun h hH hF => ?_) | refine ah_bast d_Mo_tape_62 hH hF 18 rfl rfl (by omega) (by omega) (by omega) (by omega) (fun h hH hF => ?_)
            rw [sb_sb, tp_model x (show k < 8 by omega)] at hH
            refine az_iinc d_Mo_tape_63 rfl (by decide) rfl ?_
            refine ax_goto 32 d_Mo_tape_66 (by decide) ?_
            refine ih (k + 1) (up iz1 26 (iz1 26 + 1)) (upA ar1 25 (up (ar1 25) (iz1 26).toNat (sb (byN x k)))) h (by omega) hH hF (hi.up 26 _ rfl) (ha.up 25 _ rfl) (by show iz1 26 + 1 = _; omega) ?_
            rw [byL_succ, ← List.append_assoc]
            refine lb_snoc (fun i hi => ?_) ?_
            · show up (ar1 25) (iz1 26).toNat _ i = _
              rw [up_ne (by omega)]
              exact hl i hi
            · show up (ar1 25) (iz1 26).toNat _ _ = _
              rw [show (T ++ byL x k).length = (iz1 26).toNat by omega, up_at]
      refine key n.toNat 0 iz ar h1 (by omega) hH hF KI.rf KA.rf (by omega) ?_
      have e : byL x 0 = [] := rfl
      rw [e, List.append_nil]
      exact k12
    · rw [if_pos (by omega)]
      refine az_bipush _ d_Mo_tape_26 (by decide) ?_
      refine ax_iret d_Mo_tape_28 rfl ?_
      exact ⟨_, rfl, rfl, hM0, Fr.rf⟩
  · have hin := of_decide_eq_false (bz_f hcb)
    rw [if_pos (by omega)]
    refine az_iconst d_Mo_tape_12 ?_
    refine ax_iret d_Mo_tape_13 rfl ?_
    exact ⟨_, rfl, rfl, hM0, Fr.rf⟩
set_option maxRecDepth 100000 in
set_option maxHeartbeats 4000000 in
theorem c_Mo_take {h0 : ax_H} {xs T out : List Int} {fp : Int} (hM : MoI h0 xs T out fp) : ax_Ci m_Mo_take 0 [.ref 47] h0 (fun z h1 => z = out.length ∧ MoI h1 xs out out fp ∧ Fr MOS h0 h1) := by
  obtain ⟨iz, ar, hH, hQ⟩ := hM
  obtain ⟨-, -, -, -, -, k6, k7, k8, k9, -⟩ := id hQ
  have hF : Fr MOS h0 h0 := Fr.rf
  refine ax_enter [some (.ref 47), none] rfl (Nat.le_of_ble_eq_true rfl) (by decide) ?_
  refine az_iconst d_Mo_take_0 ?_
  refine ax_istore_n d_Mo_take_1 (by decide) rfl ?_
  have key : ∀ (f k : Nat) (ar1 : Nat → Nat → Int) (h : ax_H), k + f = out.length → MoH h iz ar1 → Fr MOS h0 h → KA [25] ar ar1 → (∀ j : Nat, j < k → ar1 25 j = sb (gx out j)) →
      ax_W m_Mo_take 0 2 [some (.ref 47), some (.int (iv k))] [] h (fun r0 h1 => ∃ z : Int, r0 = some (.int (iv z)) ∧ z = out.length ∧ MoI h1 xs out out fp ∧ Fr MOS h0 h1) := by
    intro f
    induction f with
    | zero =>
      intro k ar1 h he hH hF ka hl
      refine ax_iload_n d_Mo_take_2 rfl ?_
      refine ax_aload_n d_Mo_take_3 rfl ?_
      refine ax_get d_Mo_take_4 fg_Mo_184 (by first | assumption | exact hH.g 0 rfl | exact hH.g 1 rfl | exact hH.g 2 rfl | exact hH.g 3 rfl | exact hH.g 4 rfl | exact hH.g 5 rfl | exact hH.g 6 rfl | exact hH.g 7 rfl | exact hH.g 8 rfl | exact hH.g 9 rfl | exact hH.g 10 rfl | exact hH.g 11 rfl | exact hH.g 12 rfl | exact hH.g 13 rfl | exact hH.g 14 rfl | exact hH.g 15 rfl | exact hH.g 16 rfl | exact hH.g 17 rfl | exact hH.g 18 rfl) (by rfl) ?_
      refine az_icmp_ge 28 d_Mo_take_7 (by decide) (by omega) (by omega) (fun hc => ?_) (fun hc => ?_)
      · refine ax_aload_n d_Mo_take_28 rfl ?_
        refine ax_aload_n d_Mo_take_29 rfl ?_
        refine ax_get d_Mo_take_30 fg_Mo_184 (by first | assumption | exact hH.g 0 rfl | exact hH.g 1 rfl | exact hH.g 2 rfl | exact hH.g 3 rfl | exact hH.g 4 rfl | exact hH.g 5 rfl | exact hH.g 6 rfl | exact hH.g 7 rfl | exact hH.g 8 rfl | exact hH.g 9 rfl | exact hH.g 10 rfl | exact hH.g 11 rfl | exact hH.g 12 rfl | exact hH.g 13 rfl | exact hH.g 14 rfl | exact hH.g 15 rfl | exact hH.g 16 rfl | exact hH.g 17 rfl | exact hH.g 18 rfl) (by rfl) ?_
        first | refine ah_put d_Mo_take_33 fp_Mo_191 hH hF 0 rfl rfl rfl (by first | rfl | decide) (Nat.le_of_ble_eq_true rfl) (fun h hH hF => ?_) | refine ah_put d_Mo_take_33 fp_Mo_191 hH hF 1 rfl rfl rfl (by first | rfl | decide) (Nat.le_of_ble_eq_true rfl) (fun h hH hF => ?_) | refine ah_put d_Mo_take_33 fp_Mo_191 hH hF 2 rfl rfl rfl (by first | rfl | decide) (Nat.le_of_ble_eq_true rfl) (fun h hH hF => ?_) | refine ah_put d_Mo_take_33 fp_Mo_191 hH hF 3 rfl rfl rfl (by first | rfl | decide) (Nat.le_of_ble_eq_true rfl) (fun h hH hF => ?_) | refine ah_put d_Mo_take_33 fp_Mo_191 hH hF 4 rfl rfl rfl (by first | rfl | decide) (Nat.le_of_ble_eq_true rfl) (fun h hH hF => ?_) | refine ah_put d_Mo_take_33 fp_Mo_191 hH hF 5 rfl rfl rfl (by first | rfl | decide) (Nat.le_of_ble_eq_true rfl) (fun h hH hF => ?_) | refine ah_put d_Mo_take_33 fp_Mo_191 hH hF 6 rfl rfl rfl (by first | rfl | decide) (Nat.le_of_ble_eq_true rfl) (fun h hH hF => ?_) | refine ah_put d_Mo_take_33 fp_Mo_191 hH hF 7 rfl rfl rfl (by first | rfl | decide) (Nat.le_of_ble_eq_true rfl) (fun h hH hF => ?_) | refine ah_put d_Mo_take_33 fp_Mo_191 hH hF 8 rfl rfl rfl (by first | rfl | decide) (Nat.le_of_ble_eq_true rfl) (fun h hH hF => ?_) | refine ah_put d_Mo_take_33 fp_Mo_191 hH hF 9 rfl rfl rfl (by first | rfl | decide) (Nat.le_of_ble_eq_true rfl) (fun h hH hF => ?_) | refine ah_put d_Mo_take_33 fp_Mo_191 hH hF 10 rfl rfl rfl (by first | rfl | decide) (Nat.le_of_ble_eq_true rfl) (fun h hH hF => ?_) | refine ah_put d_Mo_take_33 fp_Mo_191 hH hF 11 rfl rfl rfl (by first | rfl | decide) (Nat.le_of_ble_eq_true rfl) (fun h hH hF => ?_) | refine ah_put d_Mo_take_33 fp_Mo_191 hH hF 12 rfl rfl rfl (by first | rfl | decide) (Nat.le_of_ble_eq_true rfl) (fun h hH hF => ?_) | refine ah_put d_Mo_take_33 fp_Mo_191 hH hF 13 rfl rfl rfl (by first | rfl | decide) (Nat.le_of_ble_eq_true rfl) (fun h hH hF => ?_) | refine ah_put d_Mo_take_33 fp_Mo_191 hH hF 14 rfl rfl rfl (by first | rfl | decide) (Nat.le_of_ble_eq_true rfl) (fun h hH hF => ?_) | refine ah_put d_Mo_take_33 fp_Mo_191 hH hF 15 rfl rfl rfl (by first | rfl | decide) (Nat.le_of_ble_eq_true rfl) (fun h hH hF => ?_) | refine ah_put d_Mo_take_33 fp_Mo_191 hH hF 16 rfl rfl rfl (by first | rfl | decide) (Nat.le_of_ble_eq_true rfl) (fun h hH hF => ?_) | refine ah_put d_Mo_take_33 fp_Mo_191 hH hF 17 rfl rfl rfl (by first | rfl | decide) (Nat.le_of_ble_eq_true rfl) (fun h hH hF => ?_) | refine ah_put d_Mo_take_33 fp_Mo_191 hH hF 18 rfl rfl rfl (by first | rfl | decide) (Nat.le_of_ble_eq_true rfl) (fun h hH hF => ?_)
        refine ax_aload_n d_Mo_take_36 rfl ?_
        refine ax_get d_Mo_take_37 fg_Mo_191 (by first | assumption | exact hH.g 0 rfl | exact hH.g 1 rfl | exact hH.g 2 rfl | exact hH.g 3 rfl | exact hH.g 4 rfl | exact hH.g 5 rfl | exact hH.g 6 rfl | exact hH.g 7 rfl | exact hH.g 8 rfl | exact hH.g 9 rfl | exact hH.g 10 rfl | exact hH.g 11 rfl | exact hH.g 12 rfl | exact hH.g 13 rfl | exact hH.g 14 rfl | exact hH.g 15 rfl | exact hH.g 16 rfl | exact hH.g 17 rfl | exact hH.g 18 rfl) (by rfl) ?_
        refine ax_iret d_Mo_take_40 rfl ?_
        refine ⟨_, rfl, k6, ⟨up iz 26 (iz 24), ar1, hH, ?_⟩, hF⟩
        exact hQ.tp (K := [26]) (KI.rf.up 26 _ rfl) ka rfl rfl k6 (by omega) (fun i hi => hl i (by omega)) k9
      · exfalso
        omega
    | succ f ih =>
      intro k ar1 h he hH hF ka hl
      have er : ar1 22 ((k : Int).toNat) = sb (gx out k) := by
        rw [ka 22 rfl]
        exact k8 k (by omega)
      refine ax_iload_n d_Mo_take_2 rfl ?_
      refine ax_aload_n d_Mo_take_3 rfl ?_
      refine ax_get d_Mo_take_4 fg_Mo_184 (by first | assumption | exact hH.g 0 rfl | exact hH.g 1 rfl | exact hH.g 2 rfl | exact hH.g 3 rfl | exact hH.g 4 rfl | exact hH.g 5 rfl | exact hH.g 6 rfl | exact hH.g 7 rfl | exact hH.g 8 rfl | exact hH.g 9 rfl | exact hH.g 10 rfl | exact hH.g 11 rfl | exact hH.g 12 rfl | exact hH.g 13 rfl | exact hH.g 14 rfl | exact hH.g 15 rfl | exact hH.g 16 rfl | exact hH.g 17 rfl | exact hH.g 18 rfl) (by rfl) ?_
      refine az_icmp_ge 28 d_Mo_take_7 (by decide) (by omega) (by omega) (fun hc => ?_) (fun hc => ?_)
      · exfalso
        omega
      · refine ax_aload_n d_Mo_take_10 rfl ?_
        refine ax_get d_Mo_take_11 fg_Mo_60 (by first | assumption | exact hH.g 0 rfl | exact hH.g 1 rfl | exact hH.g 2 rfl | exact hH.g 3 rfl | exact hH.g 4 rfl | exact hH.g 5 rfl | exact hH.g 6 rfl | exact hH.g 7 rfl | exact hH.g 8 rfl | exact hH.g 9 rfl | exact hH.g 10 rfl | exact hH.g 11 rfl | exact hH.g 12 rfl | exact hH.g 13 rfl | exact hH.g 14 rfl | exact hH.g 15 rfl | exact hH.g 16 rfl | exact hH.g 17 rfl | exact hH.g 18 rfl) (by rfl) ?_
        refine ax_iload_n d_Mo_take_14 rfl ?_
        refine ax_aload_n d_Mo_take_15 rfl ?_
        refine ax_get d_Mo_take_16 fg_Mo_56 (by first | assumption | exact hH.g 0 rfl | exact hH.g 1 rfl | exact hH.g 2 rfl | exact hH.g 3 rfl | exact hH.g 4 rfl | exact hH.g 5 rfl | exact hH.g 6 rfl | exact hH.g 7 rfl | exact hH.g 8 rfl | exact hH.g 9 rfl | exact hH.g 10 rfl | exact hH.g 11 rfl | exact hH.g 12 rfl | exact hH.g 13 rfl | exact hH.g 14 rfl | exact hH.g 15 rfl | exact hH.g 16 rfl | exact hH.g 17 rfl | exact hH.g 18 rfl) (by rfl) ?_
        refine ax_iload_n d_Mo_take_19 rfl ?_
        refine aj_bald d_Mo_take_20 (by first | assumption | exact hH.g 0 rfl | exact hH.g 1 rfl | exact hH.g 2 rfl | exact hH.g 3 rfl | exact hH.g 4 rfl | exact hH.g 5 rfl | exact hH.g 6 rfl | exact hH.g 7 rfl | exact hH.g 8 rfl | exact hH.g 9 rfl | exact hH.g 10 rfl | exact hH.g 11 rfl | exact hH.g 12 rfl | exact hH.g 13 rfl | exact hH.g 14 rfl | exact hH.g 15 rfl | exact hH.g 16 rfl | exact hH.g 17 rfl | exact hH.g 18 rfl) (by omega) (by omega) (by omega) ?_
        rw [er]
        first | refine ah_bast d_Mo_take_21 hH hF 0 rfl rfl (by omega) (by omega) (by omega) (by omega) (fun h hH hF => ?_) | refine ah_bast d_Mo_take_21 hH hF 1 rfl rfl (by omega) (by omega) (by omega) (by omega) (fun h hH hF => ?_) | refine ah_bast d_Mo_take_21 hH hF 2 rfl rfl (by omega) (by omega) (by omega) (by omega) (fun h hH hF => ?_) | refine ah_bast d_Mo_take_21 hH hF 3 rfl rfl (by omega) (by omega) (by omega) (by omega) (fun h hH hF => ?_) | refine ah_bast d_Mo_take_21 hH hF 4 rfl rfl (by omega) (by omega) (by omega) (by omega) (fun h hH hF => ?_) | refine ah_bast d_Mo_take_21 hH hF 5 rfl rfl (by omega) (by omega) (by omega) (by omega) (fun h hH hF => ?_) | refine ah_bast d_Mo_take_21 hH hF 6 rfl rfl (by omega) (by omega) (by omega) (by omega) (fun h hH hF => ?_) | refine ah_bast d_Mo_take_21 hH hF 7 rfl rfl (by omega) (by omega) (by omega) (by omega) (fun h hH hF => ?_) | refine ah_bast d_Mo_take_21 hH hF 8 rfl rfl (by omega) (by omega) (by omega) (by omega) (fun h hH hF => ?_) | refine ah_bast d_Mo_take_21 hH hF 9 rfl rfl (by omega) (by omega) (by omega) (by omega) (fun h hH hF => ?_) | refine ah_bast d_Mo_take_21 hH hF 10 rfl rfl (by omega) (by omega) (by omega) (by omega) (fun h hH hF => ?_) | refine ah_bast d_Mo_take_21 hH hF 11 rfl rfl (by omega) (by omega) (by omega) (by omega) (fun h hH hF => ?_) | refine ah_bast d_Mo_take_21 hH hF 12 rfl rfl (by omega) (by omega) (by omega) (by omega) (fun h hH hF => ?_) | refine ah_bast d_Mo_take_21 hH hF 13 rfl rfl (by omega) (by omega) (by omega) (by omega) (fun h hH hF => ?_) | refine ah_bast d_Mo_take_21 hH hF 14 rfl rfl (by omega) (by omega) (by omega) (by omega) (fun h hH hF => ?_) | refine ah_bast d_Mo_take_21 hH hF 15 rfl rfl (by omega) (by omega) (by omega) (by omega) (fun h hH hF => ?_) | refine ah_bast d_Mo_take_21 hH hF 16 rfl rfl (by omega) (by omega) (by omega) (by omega) (fun h hH hF => ?_) | refine ah_bast d_Mo_take_21 hH hF 17 rfl rfl (by omega) (by omega) (by omega) (by omega) (fun h hH hF => ?_) | refine ah_bast d_Mo_take_21 hH hF 18 rfl rfl (by omega) (by omega) (by omega) (by omega) (fun h hH hF => ?_)
        rw [sb_sb] at hH
        refine az_iinc d_Mo_take_22 rfl (by decide) rfl ?_
        refine ax_goto 2 d_Mo_take_25 (by decide) ?_
        refine ih (k + 1) (upA ar1 25 (up (ar1 25) k (sb (gx out k)))) h (by omega) hH hF (ka.up 25 _ rfl) (fun j hj => ?_)
        show up (ar1 25) k _ j = _
        by_cases e : j = k
        · rw [e, up_at]
        · rw [up_ne e]; exact hl j (by omega)
  exact key out.length 0 ar h0 (by omega) hH hF KA.rf (fun j hj => by omega)
set_option maxRecDepth 100000 in
set_option maxHeartbeats 4000000 in
theorem c_Mo_spoil {h0 : ax_H} {xs T out : List Int} {fp : Int} (hM : MoI h0 xs T out fp) {i m : Int} (hi : -2147483648 ≤ i ∧ i < 2147483648) (hm : -2147483648 ≤ m ∧ m < 2147483648) : ax_Ci m_Mo_spoil 1 [.ref 47, .int (iv i), .int (iv m)] h0 (fun z h1 => z = (aSpoil T i m).1 ∧ MoI h1 xs (aSpoil T i m).2 out fp ∧ Fr MOS h0 h1) := by
  have hM0 := hM
  obtain ⟨iz, ar, hH, hQ⟩ := hM
  obtain ⟨-, -, -, -, -, -, -, -, -, k10, k11, k12, k13, -⟩ := id hQ
  have hF : Fr MOS h0 h0 := Fr.rf
  unfold aSpoil
  refine ax_enter [some (.ref 47), some (.int (iv i)), some (.int (iv m))] rfl (Nat.le_of_ble_eq_true rfl) (by decide) ?_
  refine ax_iload_n d_Mo_spoil_0 rfl ?_
  refine aj_i2l d_Mo_spoil_1 (by omega) ?_
  refine aj_lconst 0 d_Mo_spoil_2 rfl ?_
  refine ax_aload_n d_Mo_spoil_3 rfl ?_
  refine ax_get d_Mo_spoil_4 fg_Mo_191 (by first | assumption | exact hH.g 0 rfl | exact hH.g 1 rfl | exact hH.g 2 rfl | exact hH.g 3 rfl | exact hH.g 4 rfl | exact hH.g 5 rfl | exact hH.g 6 rfl | exact hH.g 7 rfl | exact hH.g 8 rfl | exact hH.g 9 rfl | exact hH.g 10 rfl | exact hH.g 11 rfl | exact hH.g 12 rfl | exact hH.g 13 rfl | exact hH.g 14 rfl | exact hH.g 15 rfl | exact hH.g 16 rfl | exact hH.g 17 rfl | exact hH.g 18 rfl) (by rfl) ?_
  refine az_iconst d_Mo_spoil_7 ?_
  refine az_isub d_Mo_spoil_8 ?_
  refine aj_i2l d_Mo_spoil_9 (by omega) ?_
  refine ax_cS3 d_Mo_spoil_10 s_Mo_isIn lk_Mo_72 (by decide) (Nat.le_of_ble_eq_true rfl) (cm_z (c_Mo_isIn (v := i) (a := 0) (b := iz 26 - 1) (by omega) (by omega) (by omega)) (fun b h1 hq => ?_))
  obtain ⟨rfl, rfl⟩ := hq
  refine az_if_eq 28 d_Mo_spoil_13 (by decide) (bz_in _) (fun hcb => ?_) (fun hcb => ?_)
  · have hin := of_decide_eq_false (bz_f hcb)
    rw [if_pos (by omega)]
    refine az_iconst d_Mo_spoil_28 ?_
    refine ax_iret d_Mo_spoil_29 rfl ?_
    exact ⟨_, rfl, rfl, hM0, Fr.rf⟩
  · have hin := of_decide_eq_true (bz_t hcb)
    refine ax_iload_n d_Mo_spoil_16 rfl ?_
    refine aj_i2l d_Mo_spoil_17 (by omega) ?_
    refine aj_lconst 0 d_Mo_spoil_18 rfl ?_
    refine aj_ldc2 255 d_Mo_spoil_19 cn_Mo_79 ?_
    refine ax_cS3 d_Mo_spoil_22 s_Mo_isIn lk_Mo_72 (by decide) (Nat.le_of_ble_eq_true rfl) (cm_z (c_Mo_isIn (v := m) (a := 0) (b := 255) (by omega) (by omega) (by omega)) (fun b h1 hq => ?_))
    obtain ⟨rfl, rfl⟩ := hq
    refine az_if_ne 30 d_Mo_spoil_25 (by decide) (bz_in _) (fun hcb => ?_) (fun hcb => ?_)
    · have hby := of_decide_eq_true (bz_t hcb)
      rw [if_neg (by omega)]
      have er : ar 25 i.toNat = sb (gx T i.toNat) := k12 _ (by omega)
      have hbx := zxor_256 (gx_Bs k13 i.toNat) (show 0 ≤ m ∧ m < 256 by omega)
      refine ax_aload_n d_Mo_spoil_30 rfl ?_
      refine ax_get d_Mo_spoil_31 fg_Mo_60 (by first | assumption | exact hH.g 0 rfl | exact hH.g 1 rfl | exact hH.g 2 rfl | exact hH.g 3 rfl | exact hH.g 4 rfl | exact hH.g 5 rfl | exact hH.g 6 rfl | exact hH.g 7 rfl | exact hH.g 8 rfl | exact hH.g 9 rfl | exact hH.g 10 rfl | exact hH.g 11 rfl | exact hH.g 12 rfl | exact hH.g 13 rfl | exact hH.g 14 rfl | exact hH.g 15 rfl | exact hH.g 16 rfl | exact hH.g 17 rfl | exact hH.g 18 rfl) (by rfl) ?_
      refine ax_iload_n d_Mo_spoil_34 rfl ?_
      refine ax_dup2 d_Mo_spoil_35 rfl rfl ?_
      refine aj_bald d_Mo_spoil_36 (by first | assumption | exact hH.g 0 rfl | exact hH.g 1 rfl | exact hH.g 2 rfl | exact hH.g 3 rfl | exact hH.g 4 rfl | exact hH.g 5 rfl | exact hH.g 6 rfl | exact hH.g 7 rfl | exact hH.g 8 rfl | exact hH.g 9 rfl | exact hH.g 10 rfl | exact hH.g 11 rfl | exact hH.g 12 rfl | exact hH.g 13 rfl | exact hH.g 14 rfl | exact hH.g 15 rfl | exact hH.g 16 rfl | exact hH.g 17 rfl | exact hH.g 18 rfl) (by omega) (by omega) (by omega) ?_
      rw [er]
      refine ax_iload_n d_Mo_spoil_37 rfl ?_
      refine aj_i2b d_Mo_spoil_38 ?_
      refine az_ixor d_Mo_spoil_39 ?_
      refine aj_i2b d_Mo_spoil_40 ?_
      first | refine ah_bast d_Mo_spoil_41 hH hF 0 rfl rfl (by omega) (by omega) (by omega) (by omega) (fun h hH hF => ?_) | refine ah_bast d_Mo_spoil_41 hH hF 1 rfl rfl (by omega) (by omega) (by omega) (by omega) (fun h hH hF => ?_) | refine ah_bast d_Mo_spoil_41 hH hF 2 rfl rfl (by omega) (by omega) (by omega) (by omega) (fun h hH hF => ?_) | refine ah_bast d_Mo_spoil_41 hH hF 3 rfl rfl (by omega) (by omega) (by omega) (by omega) (fun h hH hF => ?_) | refine ah_bast d_Mo_spoil_41 hH hF 4 rfl rfl (by omega) (by omega) (by omega) (by omega) (fun h hH hF => ?_) | refine ah_bast d_Mo_spoil_41 hH hF 5 rfl rfl (by omega) (by omega) (by omega) (by omega) (fun h hH hF => ?_) | refine ah_bast d_Mo_spoil_41 hH hF 6 rfl rfl (by omega) (by omega) (by omega) (by omega) (fun h hH hF => ?_) | refine ah_bast d_Mo_spoil_41 hH hF 7 rfl rfl (by omega) (by omega) (by omega) (by omega) (fun h hH hF => ?_) | refine ah_bast d_Mo_spoil_41 hH hF 8 rfl rfl (by omega) (by omega) (by omega) (by omega) (fun h hH hF => ?_) | refine ah_bast d_Mo_spoil_41 hH hF 9 rfl rfl (by omega) (by omega) (by omega) (by omega) (fun h hH hF => ?_) | refine ah_bast d_Mo_spoil_41 hH hF 10 rfl rfl (by omega) (by omega) (by omega) (by omega) (fun h hH hF => ?_) | refine ah_bast d_Mo_spoil_41 hH hF 11 rfl rfl (by omega) (by omega) (by omega) (by omega) (fun h hH hF => ?_) | refine ah_bast d_Mo_spoil_41 hH hF 12 rfl rfl (by omega) (by omega) (by omega) (by omega) (fun h hH hF => ?_) | refine ah_bast d_Mo_spoil_41 hH hF 13 rfl rfl (by omega) (by omega) (by omega) (by omega) (fun h hH hF => ?_) | refine ah_bast d_Mo_spoil_41 hH hF 14 rfl rfl (by omega) (by omega) (by omega) (by omega) (fun h hH hF => ?_) | refine ah_bast d_Mo_spoil_41 hH hF 15 rfl rfl (by omega) (by omega) (by omega) (by omega) (fun h hH hF => ?_) | refine ah_bast d_Mo_spoil_41 hH hF 16 rfl rfl (by omega) (by omega) (by omega) (by omega) (fun h hH hF => ?_) | refine ah_bast d_Mo_spoil_41 hH hF 17 rfl rfl (by omega) (by omega) (by omega) (by omega) (fun h hH hF => ?_) | refine ah_bast d_Mo_spoil_41 hH hF 18 rfl rfl (by omega) (by omega) (by omega) (by omega) (fun h hH hF => ?_)
      rw [sb_sb, sb_xor] at hH
      have hH : MoH h iz (upA ar 25 (up (ar 25) i.toNat (sb (zxor (gx T i.toNat) m)))) := hH
      have er2 : (upA ar 25 (up (ar 25) i.toNat (sb (zxor (gx T i.toNat) m)))) 25 i.toNat = sb (zxor (gx T i.toNat) m) := by
        show up (ar 25) i.toNat _ i.toNat = _
        rw [up_at]
      refine ax_aload_n d_Mo_spoil_42 rfl ?_
      refine ax_get d_Mo_spoil_43 fg_Mo_60 (by first | assumption | exact hH.g 0 rfl | exact hH.g 1 rfl | exact hH.g 2 rfl | exact hH.g 3 rfl | exact hH.g 4 rfl | exact hH.g 5 rfl | exact hH.g 6 rfl | exact hH.g 7 rfl | exact hH.g 8 rfl | exact hH.g 9 rfl | exact hH.g 10 rfl | exact hH.g 11 rfl | exact hH.g 12 rfl | exact hH.g 13 rfl | exact hH.g 14 rfl | exact hH.g 15 rfl | exact hH.g 16 rfl | exact hH.g 17 rfl | exact hH.g 18 rfl) (by rfl) ?_
      refine ax_iload_n d_Mo_spoil_46 rfl ?_
      refine aj_bald d_Mo_spoil_47 (by first | assumption | exact hH.g 0 rfl | exact hH.g 1 rfl | exact hH.g 2 rfl | exact hH.g 3 rfl | exact hH.g 4 rfl | exact hH.g 5 rfl | exact hH.g 6 rfl | exact hH.g 7 rfl | exact hH.g 8 rfl | exact hH.g 9 rfl | exact hH.g 10 rfl | exact hH.g 11 rfl | exact hH.g 12 rfl | exact hH.g 13 rfl | exact hH.g 14 rfl | exact hH.g 15 rfl | exact hH.g 16 rfl | exact hH.g 17 rfl | exact hH.g 18 rfl) (by omega) (by omega) (by omega) ?_
      rw [er2]
      refine az_sipush _ d_Mo_spoil_48 (by decide) ?_
      refine az_iand d_Mo_spoil_51 ?_
      rw [sb_255' hbx]
      refine ax_iret d_Mo_spoil_52 rfl ?_
      refine ⟨_, rfl, rfl, ⟨iz, _, hH, ?_⟩, hF⟩
      refine hQ.tp (K := []) (K' := [25]) KI.rf (KA.rf.up 25 _ rfl) rfl rfl (by rw [List.length_set]; exact k10) (by rw [List.length_set]; exact k11) (fun j hj => ?_) (Bs_set k13 hbx)
      rw [List.length_set] at hj
      show up (ar 25) i.toNat _ j = _
      rw [List.getD_eq_getElem?_getD, List.getElem?_set]
      by_cases e : i.toNat = j
      · rw [← e, up_at, if_pos rfl, if_pos (by omega)]
        rfl
      · rw [up_ne (fun w => e w.symm), if_neg e, ← List.getD_eq_getElem?_getD]
        exact k12 j hj
    · have hby := of_decide_eq_false (bz_f hcb)
      rw [if_pos (by omega)]
      refine az_iconst d_Mo_spoil_28 ?_
      refine ax_iret d_Mo_spoil_29 rfl ?_
      exact ⟨_, rfl, rfl, hM0, Fr.rf⟩
set_option maxRecDepth 100000 in
theorem c_Mo_cut {h0 : ax_H} {xs T out : List Int} {fp : Int} (hM : MoI h0 xs T out fp) {n : Int} (hn : -2147483648 ≤ n ∧ n < 2147483648) : ax_Ci m_Mo_cut 1 [.ref 47, .int (iv n)] h0 (fun z h1 => z = (aCut T n).1 ∧ MoI h1 xs (aCut T n).2 out fp ∧ Fr MOS h0 h1) := by
  have hM0 := hM
  obtain ⟨iz, ar, hH, hQ⟩ := hM
  obtain ⟨-, -, -, -, -, -, -, -, -, k10, k11, k12, k13, -⟩ := id hQ
  have hF : Fr MOS h0 h0 := Fr.rf
  unfold aCut
  refine ax_enter [some (.ref 47), some (.int (iv n)), none] rfl (Nat.le_of_ble_eq_true rfl) (by decide) ?_
  refine ax_iload_n d_Mo_cut_0 rfl ?_
  refine aj_i2l d_Mo_cut_1 (by omega) ?_
  refine aj_lconst 0 d_Mo_cut_2 rfl ?_
  refine ax_aload_n d_Mo_cut_3 rfl ?_
  refine ax_get d_Mo_cut_4 fg_Mo_191 (by first | assumption | exact hH.g 0 rfl | exact hH.g 1 rfl | exact hH.g 2 rfl | exact hH.g 3 rfl | exact hH.g 4 rfl | exact hH.g 5 rfl | exact hH.g 6 rfl | exact hH.g 7 rfl | exact hH.g 8 rfl | exact hH.g 9 rfl | exact hH.g 10 rfl | exact hH.g 11 rfl | exact hH.g 12 rfl | exact hH.g 13 rfl | exact hH.g 14 rfl | exact hH.g 15 rfl | exact hH.g 16 rfl | exact hH.g 17 rfl | exact hH.g 18 rfl) (by rfl) ?_
  refine aj_i2l d_Mo_cut_7 (by omega) ?_
  refine ax_cS3 d_Mo_cut_8 s_Mo_isIn lk_Mo_72 (by decide) (Nat.le_of_ble_eq_true rfl) (cm_z (c_Mo_isIn (v := n) (a := 0) (b := iz 26) (by omega) (by omega) (by omega)) (fun b h1 hq => ?_))
  obtain ⟨rfl, rfl⟩ := hq
  refine az_if_ne 16 d_Mo_cut_11 (by decide) (bz_in _) (fun hcb => ?_) (fun hcb => ?_)
  · have hin := of_decide_eq_true (bz_t hcb)
    rw [if_neg (by omega)]
    refine ax_aload_n d_Mo_cut_16 rfl ?_
    refine ax_get d_Mo_cut_17 fg_Mo_191 (by first | assumption | exact hH.g 0 rfl | exact hH.g 1 rfl | exact hH.g 2 rfl | exact hH.g 3 rfl | exact hH.g 4 rfl | exact hH.g 5 rfl | exact hH.g 6 rfl | exact hH.g 7 rfl | exact hH.g 8 rfl | exact hH.g 9 rfl | exact hH.g 10 rfl | exact hH.g 11 rfl | exact hH.g 12 rfl | exact hH.g 13 rfl | exact hH.g 14 rfl | exact hH.g 15 rfl | exact hH.g 16 rfl | exact hH.g 17 rfl | exact hH.g 18 rfl) (by rfl) ?_
    refine ax_istore_n d_Mo_cut_20 (by decide) rfl ?_
    refine ax_aload_n d_Mo_cut_21 rfl ?_
    refine ax_iload_n d_Mo_cut_22 rfl ?_
    first | refine ah_put d_Mo_cut_23 fp_Mo_191 hH hF 0 rfl rfl rfl (by first | rfl | decide) (Nat.le_of_ble_eq_true rfl) (fun h hH hF => ?_) | refine ah_put d_Mo_cut_23 fp_Mo_191 hH hF 1 rfl rfl rfl (by first | rfl | decide) (Nat.le_of_ble_eq_true rfl) (fun h hH hF => ?_) | refine ah_put d_Mo_cut_23 fp_Mo_191 hH hF 2 rfl rfl rfl (by first | rfl | decide) (Nat.le_of_ble_eq_true rfl) (fun h hH hF => ?_) | refine ah_put d_Mo_cut_23 fp_Mo_191 hH hF 3 rfl rfl rfl (by first | rfl | decide) (Nat.le_of_ble_eq_true rfl) (fun h hH hF => ?_) | refine ah_put d_Mo_cut_23 fp_Mo_191 hH hF 4 rfl rfl rfl (by first | rfl | decide) (Nat.le_of_ble_eq_true rfl) (fun h hH hF => ?_) | refine ah_put d_Mo_cut_23 fp_Mo_191 hH hF 5 rfl rfl rfl (by first | rfl | decide) (Nat.le_of_ble_eq_true rfl) (fun h hH hF => ?_) | refine ah_put d_Mo_cut_23 fp_Mo_191 hH hF 6 rfl rfl rfl (by first | rfl | decide) (Nat.le_of_ble_eq_true rfl) (fun h hH hF => ?_) | refine ah_put d_Mo_cut_23 fp_Mo_191 hH hF 7 rfl rfl rfl (by first | rfl | decide) (Nat.le_of_ble_eq_true rfl) (fun h hH hF => ?_) | refine ah_put d_Mo_cut_23 fp_Mo_191 hH hF 8 rfl rfl rfl (by first | rfl | decide) (Nat.le_of_ble_eq_true rfl) (fun h hH hF => ?_) | refine ah_put d_Mo_cut_23 fp_Mo_191 hH hF 9 rfl rfl rfl (by first | rfl | decide) (Nat.le_of_ble_eq_true rfl) (fun h hH hF => ?_) | refine ah_put d_Mo_cut_23 fp_Mo_191 hH hF 10 rfl rfl rfl (by first | rfl | decide) (Nat.le_of_ble_eq_true rfl) (fun h hH hF => ?_) | refine ah_put d_Mo_cut_23 fp_Mo_191 hH hF 11 rfl rfl rfl (by first | rfl | decide) (Nat.le_of_ble_eq_true rfl) (fun h hH hF => ?_) | refine ah_put d_Mo_cut_23 fp_Mo_191 hH hF 12 rfl rfl rfl (by first | rfl | decide) (Nat.le_of_ble_eq_true rfl) (fun h hH hF => ?_) | refine ah_put d_Mo_cut_23 fp_Mo_191 hH hF 13 rfl rfl rfl (by first | rfl | decide) (Nat.le_of_ble_eq_true rfl) (fun h hH hF => ?_) | refine ah_put d_Mo_cut_23 fp_Mo_191 hH hF 14 rfl rfl rfl (by first | rfl | decide) (Nat.le_of_ble_eq_true rfl) (fun h hH hF => ?_) | refine ah_put d_Mo_cut_23 fp_Mo_191 hH hF 15 rfl rfl rfl (by first | rfl | decide) (Nat.le_of_ble_eq_true rfl) (fun h hH hF => ?_) | refine ah_put d_Mo_cut_23 fp_Mo_191 hH hF 16 rfl rfl rfl (by first | rfl | decide) (Nat.le_of_ble_eq_true rfl) (fun h hH hF => ?_) | refine ah_put d_Mo_cut_23 fp_Mo_191 hH hF 17 rfl rfl rfl (by first | rfl | decide) (Nat.le_of_ble_eq_true rfl) (fun h hH hF => ?_) | refine ah_put d_Mo_cut_23 fp_Mo_191 hH hF 18 rfl rfl rfl (by first | rfl | decide) (Nat.le_of_ble_eq_true rfl) (fun h hH hF => ?_)
    refine ax_iload_n d_Mo_cut_26 rfl ?_
    refine ax_iret d_Mo_cut_27 rfl ?_
    refine ⟨_, rfl, k10, ⟨up iz 26 n, ar, hH, ?_⟩, hF⟩
    refine hQ.tp (K := [26]) (K' := []) (KI.rf.up 26 _ rfl) KA.rf rfl rfl (by show n = _; rw [List.length_take]; omega) (by rw [List.length_take]; omega) (fun j hj => ?_) (Bs_take k13 _)
    rw [List.length_take] at hj
    rw [List.getD_eq_getElem?_getD, List.getElem?_take, if_pos (by omega), ← List.getD_eq_getElem?_getD]
    exact k12 j (by omega)
  · have hin := of_decide_eq_false (bz_f hcb)
    rw [if_pos (by omega)]
    refine az_iconst d_Mo_cut_14 ?_
    refine ax_iret d_Mo_cut_15 rfl ?_
    exact ⟨_, rfl, rfl, hM0, Fr.rf⟩
set_option maxRecDepth 100000 in
theorem c_Mo_faultAt {h0 : ax_H} {xs T out : List Int} {fp : Int} (hM : MoI h0 xs T out fp) : ax_Ci m_Mo_faultAt 0 [.ref 47] h0 (fun z h1 => z = fp ∧ MoI h1 xs T out fp ∧ Fr MOS h0 h1) := by
  have hM0 := hM
  obtain ⟨iz, ar, hH, hQ⟩ := hM
  obtain ⟨-, -, -, -, -, -, -, -, -, -, -, -, -, k14⟩ := id hQ
  refine ax_enter [some (.ref 47)] rfl (Nat.le_of_ble_eq_true rfl) (by decide) ?_
  refine ax_aload_n d_Mo_faultAt_0 rfl ?_
  refine ax_get d_Mo_faultAt_1 fg_Mo_63 (by first | assumption | exact hH.g 0 rfl | exact hH.g 1 rfl | exact hH.g 2 rfl | exact hH.g 3 rfl | exact hH.g 4 rfl | exact hH.g 5 rfl | exact hH.g 6 rfl | exact hH.g 7 rfl | exact hH.g 8 rfl | exact hH.g 9 rfl | exact hH.g 10 rfl | exact hH.g 11 rfl | exact hH.g 12 rfl | exact hH.g 13 rfl | exact hH.g 14 rfl | exact hH.g 15 rfl | exact hH.g 16 rfl | exact hH.g 17 rfl | exact hH.g 18 rfl) (by rfl) ?_
  refine ax_iret d_Mo_faultAt_4 rfl ?_
  exact ⟨_, rfl, k14, hM0, Fr.rf⟩
