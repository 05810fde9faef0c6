/-! the reference: order, last, origin, rounds, start, steps -/
theorem MoI.of {h : ax_H} {xs T out : List Int} {fp : Int} (k : ∃ iz ar, MoH h iz ar ∧ MoQ iz ar xs T out fp ∧ Laid iz ar xs) : MoI h xs T out fp := by
  obtain ⟨iz, ar, h1, h2, -⟩ := k
  exact ⟨iz, ar, h1, h2⟩
set_option maxRecDepth 100000 in
theorem c_Mo_order {h0 : ax_H} {xs T out : List Int} {fp : Int} (hM : MoI h0 xs T out fp) {i : Int} (hi : -2147483648 ≤ i ∧ i < 2147483648) : ax_Ci m_Mo_order 4 [.ref 47, .int (iv i)] h0 (fun z h1 => z = aOrd xs i ∧ MoI h1 xs T out fp ∧ Fr MOS h0 h1) := by
  obtain ⟨iz0, ar0, hH, -⟩ := id hM
  unfold aOrd
  refine ax_enter [some (.ref 47), some (.int (iv i))] rfl (Nat.le_of_ble_eq_true rfl) (by decide) ?_
  refine ax_aload_n d_Mo_order_0 rfl ?_
  refine ax_cV0 d_Mo_order_1 v_Mo_lay lk_Mo_117 (by first | assumption | exact hH.g 0 rfl | exact hH.g 1 rfl | exact hH.g 2 rfl | exact hH.g 3 rfl | exact hH.g 4 rfl | exact hH.g 5 rfl | exact hH.g 6 rfl | exact hH.g 7 rfl | exact hH.g 8 rfl | exact hH.g 9 rfl | exact hH.g 10 rfl | exact hH.g 11 rfl | exact hH.g 12 rfl | exact hH.g 13 rfl | exact hH.g 14 rfl | exact hH.g 15 rfl | exact hH.g 16 rfl | exact hH.g 17 rfl | exact hH.g 18 rfl) (by decide) (Nat.le_of_ble_eq_true rfl) (cm_v (c_Mo_lay hM) (fun h1 hq => ?_))
  obtain ⟨⟨iz, ar, hH1, hQ, hL⟩, hF1⟩ := hq
  have hM1 : MoI h1 xs T out fp := ⟨iz, ar, hH1, hQ⟩
  have hH := hH1
  obtain ⟨q0, q1, q2, q3, -⟩ := id hQ
  refine ax_iload_n d_Mo_order_4 rfl ?_
  refine aj_i2l d_Mo_order_5 (by omega) ?_
  refine aj_lconst 0 d_Mo_order_6 rfl ?_
  refine ax_aload_n d_Mo_order_7 rfl ?_
  refine ax_get d_Mo_order_8 fg_Mo_76 (by first | assumption | exact hH.g 0 rfl | exact hH.g 1 rfl | exact hH.g 2 rfl | exact hH.g 3 rfl | exact hH.g 4 rfl | exact hH.g 5 rfl | exact hH.g 6 rfl | exact hH.g 7 rfl | exact hH.g 8 rfl | exact hH.g 9 rfl | exact hH.g 10 rfl | exact hH.g 11 rfl | exact hH.g 12 rfl | exact hH.g 13 rfl | exact hH.g 14 rfl | exact hH.g 15 rfl | exact hH.g 16 rfl | exact hH.g 17 rfl | exact hH.g 18 rfl) (by rfl) ?_
  refine az_iconst d_Mo_order_11 ?_
  refine az_isub d_Mo_order_12 ?_
  refine aj_i2l d_Mo_order_13 (by omega) ?_
  refine ax_cS3 d_Mo_order_14 s_Mo_isIn lk_Mo_72 (by decide) (Nat.le_of_ble_eq_true rfl) (cm_z (c_Mo_isIn (v := i) (a := 0) (b := iz 0 - 1) (by omega) (by omega) (by omega)) (fun b h2 hq => ?_))
  obtain ⟨rfl, rfl⟩ := hq
  refine az_if_eq 29 d_Mo_order_17 (by decide) (bz_in _) (fun hcb => ?_) (fun hcb => ?_)
  · have hin := of_decide_eq_false (bz_f hcb)
    rw [if_neg (by omega)]
    refine az_bipush _ d_Mo_order_29 (by decide) ?_
    refine ax_iret d_Mo_order_31 rfl ?_
    exact ⟨_, rfl, rfl, hM1, hF1⟩
  · have hin := of_decide_eq_true (bz_t hcb)
    rw [if_pos (by omega)]
    refine ax_aload_n d_Mo_order_20 rfl ?_
    refine ax_get d_Mo_order_21 fg_Mo_22 (by first | assumption | exact hH.g 0 rfl | exact hH.g 1 rfl | exact hH.g 2 rfl | exact hH.g 3 rfl | exact hH.g 4 rfl | exact hH.g 5 rfl | exact hH.g 6 rfl | exact hH.g 7 rfl | exact hH.g 8 rfl | exact hH.g 9 rfl | exact hH.g 10 rfl | exact hH.g 11 rfl | exact hH.g 12 rfl | exact hH.g 13 rfl | exact hH.g 14 rfl | exact hH.g 15 rfl | exact hH.g 16 rfl | exact hH.g 17 rfl | exact hH.g 18 rfl) (by rfl) ?_
    refine ax_iload_n d_Mo_order_24 rfl ?_
    refine az_iald d_Mo_order_25 (by first | assumption | exact hH.g 0 rfl | exact hH.g 1 rfl | exact hH.g 2 rfl | exact hH.g 3 rfl | exact hH.g 4 rfl | exact hH.g 5 rfl | exact hH.g 6 rfl | exact hH.g 7 rfl | exact hH.g 8 rfl | exact hH.g 9 rfl | exact hH.g 10 rfl | exact hH.g 11 rfl | exact hH.g 12 rfl | exact hH.g 13 rfl | exact hH.g 14 rfl | exact hH.g 15 rfl | exact hH.g 16 rfl | exact hH.g 17 rfl | exact hH.g 18 rfl) (by omega) (by omega) (by omega) ?_
    refine ax_goto 31 d_Mo_order_26 (by decide) ?_
    refine ax_iret d_Mo_order_31 rfl ?_
    exact ⟨_, rfl, hL.1 _ (by omega), hM1, hF1⟩
set_option maxRecDepth 100000 in
theorem c_Mo_last {h0 : ax_H} {xs T out : List Int} {fp : Int} (hM : MoI h0 xs T out fp) {i : Int} (hi : -2147483648 ≤ i ∧ i < 2147483648) : ax_Ci m_Mo_last 4 [.ref 47, .int (iv i)] h0 (fun z h1 => z = rAt (lastT xs) i ∧ MoI h1 xs T out fp ∧ Fr MOS h0 h1) := by
  obtain ⟨iz0, ar0, hH, -⟩ := id hM
  unfold rAt
  rw [lastT_len]
  refine ax_enter [some (.ref 47), some (.int (iv i))] rfl (Nat.le_of_ble_eq_true rfl) (by decide) ?_
  refine ax_aload_n d_Mo_last_0 rfl ?_
  refine ax_cV0 d_Mo_last_1 v_Mo_lay lk_Mo_117 (by first | assumption | exact hH.g 0 rfl | exact hH.g 1 rfl | exact hH.g 2 rfl | exact hH.g 3 rfl | exact hH.g 4 rfl | exact hH.g 5 rfl | exact hH.g 6 rfl | exact hH.g 7 rfl | exact hH.g 8 rfl | exact hH.g 9 rfl | exact hH.g 10 rfl | exact hH.g 11 rfl | exact hH.g 12 rfl | exact hH.g 13 rfl | exact hH.g 14 rfl | exact hH.g 15 rfl | exact hH.g 16 rfl | exact hH.g 17 rfl | exact hH.g 18 rfl) (by decide) (Nat.le_of_ble_eq_true rfl) (cm_v (c_Mo_lay hM) (fun h1 hq => ?_))
  obtain ⟨⟨iz, ar, hH1, hQ, hL⟩, hF1⟩ := hq
  have hM1 : MoI h1 xs T out fp := ⟨iz, ar, hH1, hQ⟩
  have hH := hH1
  obtain ⟨q0, q1, q2, q3, -⟩ := id hQ
  refine ax_iload_n d_Mo_last_4 rfl ?_
  refine aj_i2l d_Mo_last_5 (by omega) ?_
  refine aj_lconst 0 d_Mo_last_6 rfl ?_
  refine ax_aload_n d_Mo_last_7 rfl ?_
  refine ax_get d_Mo_last_8 fg_Mo_76 (by first | assumption | exact hH.g 0 rfl | exact hH.g 1 rfl | exact hH.g 2 rfl | exact hH.g 3 rfl | exact hH.g 4 rfl | exact hH.g 5 rfl | exact hH.g 6 rfl | exact hH.g 7 rfl | exact hH.g 8 rfl | exact hH.g 9 rfl | exact hH.g 10 rfl | exact hH.g 11 rfl | exact hH.g 12 rfl | exact hH.g 13 rfl | exact hH.g 14 rfl | exact hH.g 15 rfl | exact hH.g 16 rfl | exact hH.g 17 rfl | exact hH.g 18 rfl) (by rfl) ?_
  refine az_iconst d_Mo_last_11 ?_
  refine az_isub d_Mo_last_12 ?_
  refine aj_i2l d_Mo_last_13 (by omega) ?_
  refine ax_cS3 d_Mo_last_14 s_Mo_isIn lk_Mo_72 (by decide) (Nat.le_of_ble_eq_true rfl) (cm_z (c_Mo_isIn (v := i) (a := 0) (b := iz 0 - 1) (by omega) (by omega) (by omega)) (fun b h2 hq => ?_))
  obtain ⟨rfl, rfl⟩ := hq
  refine az_if_eq 46 d_Mo_last_17 (by decide) (bz_in _) (fun hcb => ?_) (fun hcb => ?_)
  · have hin := of_decide_eq_false (bz_f hcb)
    rw [if_neg (by omega)]
    refine az_bipush _ d_Mo_last_46 (by decide) ?_
    refine ax_iret d_Mo_last_48 rfl ?_
    exact ⟨_, rfl, rfl, hM1, hF1⟩
  · have hin := of_decide_eq_true (bz_t hcb)
    rw [if_pos (by omega)]
    have eo := hL.1 i.toNat (by omega)
    have ho := (ordT_ok (xs := xs) (k := i.toNat) (by omega)).1
    have em : ((ordT xs i.toNat : Nat) : Int) + iz 0 - 1 = ((ordT xs i.toNat : Nat) : Int) + ((xs.length - 1 : Nat) : Int) := by omega
    have hml : (ordT xs i.toNat + (xs.length - 1)) % xs.length < xs.length := Nat.mod_lt _ (by omega)
    have em2 : (((ordT xs i.toNat : Nat) : Int) + ((xs.length - 1 : Nat) : Int)) % iz 0 = (((ordT xs i.toNat + (xs.length - 1)) % xs.length : Nat) : Int) := by rw [q0]; exact mod_nat _ _ _
    refine ax_aload_n d_Mo_last_20 rfl ?_
    refine ax_get d_Mo_last_21 fg_Mo_7 (by first | assumption | exact hH.g 0 rfl | exact hH.g 1 rfl | exact hH.g 2 rfl | exact hH.g 3 rfl | exact hH.g 4 rfl | exact hH.g 5 rfl | exact hH.g 6 rfl | exact hH.g 7 rfl | exact hH.g 8 rfl | exact hH.g 9 rfl | exact hH.g 10 rfl | exact hH.g 11 rfl | exact hH.g 12 rfl | exact hH.g 13 rfl | exact hH.g 14 rfl | exact hH.g 15 rfl | exact hH.g 16 rfl | exact hH.g 17 rfl | exact hH.g 18 rfl) (by rfl) ?_
    refine ax_aload_n d_Mo_last_24 rfl ?_
    refine ax_get d_Mo_last_25 fg_Mo_22 (by first | assumption | exact hH.g 0 rfl | exact hH.g 1 rfl | exact hH.g 2 rfl | exact hH.g 3 rfl | exact hH.g 4 rfl | exact hH.g 5 rfl | exact hH.g 6 rfl | exact hH.g 7 rfl | exact hH.g 8 rfl | exact hH.g 9 rfl | exact hH.g 10 rfl | exact hH.g 11 rfl | exact hH.g 12 rfl | exact hH.g 13 rfl | exact hH.g 14 rfl | exact hH.g 15 rfl | exact hH.g 16 rfl | exact hH.g 17 rfl | exact hH.g 18 rfl) (by rfl) ?_
    refine ax_iload_n d_Mo_last_28 rfl ?_
    refine az_iald d_Mo_last_29 (by first | assumption | exact hH.g 0 rfl | exact hH.g 1 rfl | exact hH.g 2 rfl | exact hH.g 3 rfl | exact hH.g 4 rfl | exact hH.g 5 rfl | exact hH.g 6 rfl | exact hH.g 7 rfl | exact hH.g 8 rfl | exact hH.g 9 rfl | exact hH.g 10 rfl | exact hH.g 11 rfl | exact hH.g 12 rfl | exact hH.g 13 rfl | exact hH.g 14 rfl | exact hH.g 15 rfl | exact hH.g 16 rfl | exact hH.g 17 rfl | exact hH.g 18 rfl) (by omega) (by omega) (by omega) ?_
    rw [eo]
    refine ax_aload_n d_Mo_last_30 rfl ?_
    refine ax_get d_Mo_last_31 fg_Mo_76 (by first | assumption | exact hH.g 0 rfl | exact hH.g 1 rfl | exact hH.g 2 rfl | exact hH.g 3 rfl | exact hH.g 4 rfl | exact hH.g 5 rfl | exact hH.g 6 rfl | exact hH.g 7 rfl | exact hH.g 8 rfl | exact hH.g 9 rfl | exact hH.g 10 rfl | exact hH.g 11 rfl | exact hH.g 12 rfl | exact hH.g 13 rfl | exact hH.g 14 rfl | exact hH.g 15 rfl | exact hH.g 16 rfl | exact hH.g 17 rfl | exact hH.g 18 rfl) (by rfl) ?_
    refine az_iadd d_Mo_last_34 ?_
    refine az_iconst d_Mo_last_35 ?_
    refine az_isub d_Mo_last_36 ?_
    rw [em]
    refine ax_aload_n d_Mo_last_37 rfl ?_
    refine ax_get d_Mo_last_38 fg_Mo_76 (by first | assumption | exact hH.g 0 rfl | exact hH.g 1 rfl | exact hH.g 2 rfl | exact hH.g 3 rfl | exact hH.g 4 rfl | exact hH.g 5 rfl | exact hH.g 6 rfl | exact hH.g 7 rfl | exact hH.g 8 rfl | exact hH.g 9 rfl | exact hH.g 10 rfl | exact hH.g 11 rfl | exact hH.g 12 rfl | exact hH.g 13 rfl | exact hH.g 14 rfl | exact hH.g 15 rfl | exact hH.g 16 rfl | exact hH.g 17 rfl | exact hH.g 18 rfl) (by rfl) ?_
    refine az_irem d_Mo_last_41 (by omega) (by omega) ?_
    rw [em2]
    refine az_iald d_Mo_last_42 (by first | assumption | exact hH.g 0 rfl | exact hH.g 1 rfl | exact hH.g 2 rfl | exact hH.g 3 rfl | exact hH.g 4 rfl | exact hH.g 5 rfl | exact hH.g 6 rfl | exact hH.g 7 rfl | exact hH.g 8 rfl | exact hH.g 9 rfl | exact hH.g 10 rfl | exact hH.g 11 rfl | exact hH.g 12 rfl | exact hH.g 13 rfl | exact hH.g 14 rfl | exact hH.g 15 rfl | exact hH.g 16 rfl | exact hH.g 17 rfl | exact hH.g 18 rfl) (by omega) (by omega) (by omega) ?_
    refine ax_goto 48 d_Mo_last_43 (by decide) ?_
    refine ax_iret d_Mo_last_48 rfl ?_
    refine ⟨_, rfl, ?_, hM1, hF1⟩
    rw [lastT, mk_at (by omega), show (((ordT xs i.toNat + (xs.length - 1)) % xs.length : Nat) : Int).toNat = (ordT xs i.toNat + (xs.length - 1)) % xs.length by omega]
    exact q2 _ hml
set_option maxRecDepth 100000 in
theorem c_Mo_origin {h0 : ax_H} {xs T out : List Int} {fp : Int} (hM : MoI h0 xs T out fp) : ax_Ci m_Mo_origin 4 [.ref 47] h0 (fun z h1 => z = aPl xs 0 ∧ MoI h1 xs T out fp ∧ Fr MOS h0 h1) := by
  obtain ⟨iz0, ar0, hH, -⟩ := id hM
  unfold aPl
  refine ax_enter [some (.ref 47)] rfl (Nat.le_of_ble_eq_true rfl) (by decide) ?_
  refine ax_aload_n d_Mo_origin_0 rfl ?_
  refine ax_cV0 d_Mo_origin_1 v_Mo_lay lk_Mo_117 (by first | assumption | exact hH.g 0 rfl | exact hH.g 1 rfl | exact hH.g 2 rfl | exact hH.g 3 rfl | exact hH.g 4 rfl | exact hH.g 5 rfl | exact hH.g 6 rfl | exact hH.g 7 rfl | exact hH.g 8 rfl | exact hH.g 9 rfl | exact hH.g 10 rfl | exact hH.g 11 rfl | exact hH.g 12 rfl | exact hH.g 13 rfl | exact hH.g 14 rfl | exact hH.g 15 rfl | exact hH.g 16 rfl | exact hH.g 17 rfl | exact hH.g 18 rfl) (by decide) (Nat.le_of_ble_eq_true rfl) (cm_v (c_Mo_lay hM) (fun h1 hq => ?_))
  obtain ⟨⟨iz, ar, hH1, hQ, hL⟩, hF1⟩ := hq
  have hM1 : MoI h1 xs T out fp := ⟨iz, ar, hH1, hQ⟩
  have hH := hH1
  obtain ⟨q0, q1, q2, q3, -⟩ := id hQ
  refine ax_aload_n d_Mo_origin_4 rfl ?_
  refine ax_get d_Mo_origin_5 fg_Mo_76 (by first | assumption | exact hH.g 0 rfl | exact hH.g 1 rfl | exact hH.g 2 rfl | exact hH.g 3 rfl | exact hH.g 4 rfl | exact hH.g 5 rfl | exact hH.g 6 rfl | exact hH.g 7 rfl | exact hH.g 8 rfl | exact hH.g 9 rfl | exact hH.g 10 rfl | exact hH.g 11 rfl | exact hH.g 12 rfl | exact hH.g 13 rfl | exact hH.g 14 rfl | exact hH.g 15 rfl | exact hH.g 16 rfl | exact hH.g 17 rfl | exact hH.g 18 rfl) (by rfl) ?_
  refine az_if_ne 16 d_Mo_origin_8 (by decide) (by first | exact bz_in _ | omega) (fun hz => ?_) (fun hz => ?_)
  · refine ax_aload_n d_Mo_origin_16 rfl ?_
    refine ax_get d_Mo_origin_17 fg_Mo_111 (by first | assumption | exact hH.g 0 rfl | exact hH.g 1 rfl | exact hH.g 2 rfl | exact hH.g 3 rfl | exact hH.g 4 rfl | exact hH.g 5 rfl | exact hH.g 6 rfl | exact hH.g 7 rfl | exact hH.g 8 rfl | exact hH.g 9 rfl | exact hH.g 10 rfl | exact hH.g 11 rfl | exact hH.g 12 rfl | exact hH.g 13 rfl | exact hH.g 14 rfl | exact hH.g 15 rfl | exact hH.g 16 rfl | exact hH.g 17 rfl | exact hH.g 18 rfl) (by rfl) ?_
    refine ax_iret d_Mo_origin_20 rfl ?_
    refine ⟨_, rfl, ?_, hM1, hF1⟩
    rw [if_pos (by omega)]
    exact hL.2.1 (by omega)
  · refine az_bipush _ d_Mo_origin_11 (by decide) ?_
    refine ax_goto 20 d_Mo_origin_13 (by decide) ?_
    refine ax_iret d_Mo_origin_20 rfl ?_
    refine ⟨_, rfl, ?_, hM1, hF1⟩
    rw [if_neg (by omega)]
set_option maxRecDepth 100000 in
theorem c_Mo_rounds {h0 : ax_H} {xs T out : List Int} {fp : Int} (hM : MoI h0 xs T out fp) : ax_Ci m_Mo_rounds 4 [.ref 47] h0 (fun z h1 => isARnd xs z ∧ MoI h1 xs T out fp ∧ Fr MOS h0 h1) := by
  obtain ⟨iz0, ar0, hH, -⟩ := id hM
  unfold isARnd
  refine ax_enter [some (.ref 47)] rfl (Nat.le_of_ble_eq_true rfl) (by decide) ?_
  refine ax_aload_n d_Mo_rounds_0 rfl ?_
  refine ax_cV0 d_Mo_rounds_1 v_Mo_lay lk_Mo_117 (by first | assumption | exact hH.g 0 rfl | exact hH.g 1 rfl | exact hH.g 2 rfl | exact hH.g 3 rfl | exact hH.g 4 rfl | exact hH.g 5 rfl | exact hH.g 6 rfl | exact hH.g 7 rfl | exact hH.g 8 rfl | exact hH.g 9 rfl | exact hH.g 10 rfl | exact hH.g 11 rfl | exact hH.g 12 rfl | exact hH.g 13 rfl | exact hH.g 14 rfl | exact hH.g 15 rfl | exact hH.g 16 rfl | exact hH.g 17 rfl | exact hH.g 18 rfl) (by decide) (Nat.le_of_ble_eq_true rfl) (cm_v (c_Mo_lay hM) (fun h1 hq => ?_))
  obtain ⟨⟨iz, ar, hH1, hQ, hL⟩, hF1⟩ := hq
  have hM1 : MoI h1 xs T out fp := ⟨iz, ar, hH1, hQ⟩
  have hH := hH1
  obtain ⟨q0, q1, q2, q3, -⟩ := id hQ
  refine ax_aload_n d_Mo_rounds_4 rfl ?_
  refine ax_get d_Mo_rounds_5 fg_Mo_76 (by first | assumption | exact hH.g 0 rfl | exact hH.g 1 rfl | exact hH.g 2 rfl | exact hH.g 3 rfl | exact hH.g 4 rfl | exact hH.g 5 rfl | exact hH.g 6 rfl | exact hH.g 7 rfl | exact hH.g 8 rfl | exact hH.g 9 rfl | exact hH.g 10 rfl | exact hH.g 11 rfl | exact hH.g 12 rfl | exact hH.g 13 rfl | exact hH.g 14 rfl | exact hH.g 15 rfl | exact hH.g 16 rfl | exact hH.g 17 rfl | exact hH.g 18 rfl) (by rfl) ?_
  refine az_if_ne 16 d_Mo_rounds_8 (by decide) (by first | exact bz_in _ | omega) (fun hz => ?_) (fun hz => ?_)
  · refine ax_aload_n d_Mo_rounds_16 rfl ?_
    refine ax_get d_Mo_rounds_17 fg_Mo_114 (by first | assumption | exact hH.g 0 rfl | exact hH.g 1 rfl | exact hH.g 2 rfl | exact hH.g 3 rfl | exact hH.g 4 rfl | exact hH.g 5 rfl | exact hH.g 6 rfl | exact hH.g 7 rfl | exact hH.g 8 rfl | exact hH.g 9 rfl | exact hH.g 10 rfl | exact hH.g 11 rfl | exact hH.g 12 rfl | exact hH.g 13 rfl | exact hH.g 14 rfl | exact hH.g 15 rfl | exact hH.g 16 rfl | exact hH.g 17 rfl | exact hH.g 18 rfl) (by rfl) ?_
    refine ax_iret d_Mo_rounds_20 rfl ?_
    refine ⟨_, rfl, ?_, hM1, hF1⟩
    rw [if_neg (by omega)]
    exact hL.2.2 (by omega)
  · refine az_bipush _ d_Mo_rounds_11 (by decide) ?_
    refine ax_goto 20 d_Mo_rounds_13 (by decide) ?_
    refine ax_iret d_Mo_rounds_20 rfl ?_
    refine ⟨_, rfl, ?_, hM1, hF1⟩
    rw [if_pos (by omega)]
set_option maxRecDepth 100000 in
set_option maxHeartbeats 4000000 in
theorem c_Mo_start {h0 : ax_H} {xs T out : List Int} {fp : Int} (hM : MoI h0 xs T out fp) {m i : Int} (hm : -2147483648 ≤ m ∧ m < 2147483648) (hi : -2147483648 ≤ i ∧ i < 2147483648) : ax_Ci m_Mo_start 4 [.ref 47, .int (iv m), .int (iv i)] h0 (fun z h1 => z = aStart xs m i ∧ MoI h1 xs T out fp ∧ Fr MOS h0 h1) := by
  obtain ⟨iz0, ar0, hH, hQ0⟩ := id hM
  obtain ⟨q0, q1, -⟩ := id hQ0
  have bad : (m < 1 ∨ 64 < m ∨ i < 0 ∨ m ≤ i) → ax_W m_Mo_start 4 25 [some (.ref 47), some (.int (iv m)), some (.int (iv i)), none, none] [] h0 (fun r0 h1 => ∃ z : Int, r0 = some (.int (iv z)) ∧ z = aStart xs m i ∧ MoI h1 xs T out fp ∧ Fr MOS h0 h1) := by
    intro hbad
    refine az_iconst d_Mo_start_25 ?_
    refine ax_iret d_Mo_start_26 rfl ?_
    exact ⟨_, rfl, by rw [aStart, if_pos hbad], hM, Fr.rf⟩
  refine ax_enter [some (.ref 47), some (.int (iv m)), some (.int (iv i)), none, none] rfl (Nat.le_of_ble_eq_true rfl) (by decide) ?_
  refine ax_iload_n d_Mo_start_0 rfl ?_
  refine aj_i2l d_Mo_start_1 (by omega) ?_
  refine aj_lconst 1 d_Mo_start_2 rfl ?_
  refine aj_ldc2 64 d_Mo_start_3 cn_Mo_120 ?_
  refine ax_cS3 d_Mo_start_6 s_Mo_isIn lk_Mo_72 (by decide) (Nat.le_of_ble_eq_true rfl) (cm_z (c_Mo_isIn (v := m) (a := 1) (b := 64) (by omega) (by omega) (by omega)) (fun b h0 hq => ?_))
  obtain ⟨rfl, rfl⟩ := hq
  refine az_if_eq 25 d_Mo_start_9 (by decide) (bz_in _) (fun hcb => ?_) (fun hcb => ?_)
  · have hin := of_decide_eq_false (bz_f hcb)
    exact bad (by omega)
  · have hin := of_decide_eq_true (bz_t hcb)
    refine ax_iload_n d_Mo_start_12 rfl ?_
    refine aj_i2l d_Mo_start_13 (by omega) ?_
    refine aj_lconst 0 d_Mo_start_14 rfl ?_
    refine ax_iload_n d_Mo_start_15 rfl ?_
    refine az_iconst d_Mo_start_16 ?_
    refine az_isub d_Mo_start_17 ?_
    refine aj_i2l d_Mo_start_18 (by omega) ?_
    refine ax_cS3 d_Mo_start_19 s_Mo_isIn lk_Mo_72 (by decide) (Nat.le_of_ble_eq_true rfl) (cm_z (c_Mo_isIn (v := i) (a := 0) (b := m - 1) (by omega) (by omega) (by omega)) (fun b h0 hq => ?_))
    obtain ⟨rfl, rfl⟩ := hq
    refine az_if_ne 27 d_Mo_start_22 (by decide) (bz_in _) (fun hcb => ?_) (fun hcb => ?_)
    · have hii := of_decide_eq_true (bz_t hcb)
      obtain ⟨i0, rfl⟩ := Int.eq_ofNat_of_zero_le (show 0 ≤ i by omega)
      obtain ⟨m0, rfl⟩ := Int.eq_ofNat_of_zero_le (show 0 ≤ m by omega)
      obtain ⟨q, hqe⟩ : ∃ q : Nat, q = i0 * xs.length / m0 := ⟨_, rfl⟩
      have es : aStart xs (m0 : Int) (i0 : Int) = if xs.length = 0 then -2 else (plT xs q : Int) := by
        unfold aStart
        rw [if_neg (by omega), hqe]
        rfl
      rw [es]
      refine ax_aload_n d_Mo_start_27 rfl ?_
      refine ax_get d_Mo_start_28 fg_Mo_76 (by first | assumption | exact hH.g 0 rfl | exact hH.g 1 rfl | exact hH.g 2 rfl | exact hH.g 3 rfl | exact hH.g 4 rfl | exact hH.g 5 rfl | exact hH.g 6 rfl | exact hH.g 7 rfl | exact hH.g 8 rfl | exact hH.g 9 rfl | exact hH.g 10 rfl | exact hH.g 11 rfl | exact hH.g 12 rfl | exact hH.g 13 rfl | exact hH.g 14 rfl | exact hH.g 15 rfl | exact hH.g 16 rfl | exact hH.g 17 rfl | exact hH.g 18 rfl) (by rfl) ?_
      refine az_if_ne 37 d_Mo_start_31 (by decide) (by first | exact bz_in _ | omega) (fun hz => ?_) (fun hz => ?_)
      · rw [if_neg (by omega)]
        refine ax_aload_n d_Mo_start_37 rfl ?_
        refine ax_cV0 d_Mo_start_38 v_Mo_lay lk_Mo_117 (by first | assumption | exact hH.g 0 rfl | exact hH.g 1 rfl | exact hH.g 2 rfl | exact hH.g 3 rfl | exact hH.g 4 rfl | exact hH.g 5 rfl | exact hH.g 6 rfl | exact hH.g 7 rfl | exact hH.g 8 rfl | exact hH.g 9 rfl | exact hH.g 10 rfl | exact hH.g 11 rfl | exact hH.g 12 rfl | exact hH.g 13 rfl | exact hH.g 14 rfl | exact hH.g 15 rfl | exact hH.g 16 rfl | exact hH.g 17 rfl | exact hH.g 18 rfl) (by decide) (Nat.le_of_ble_eq_true rfl) (cm_v (c_Mo_lay hM) (fun h1 hq => ?_))
        obtain ⟨⟨iz, ar, hH1, hQ, hL⟩, hF1⟩ := hq
        have hM1 : MoI h1 xs T out fp := ⟨iz, ar, hH1, hQ⟩
        have hH := hH1
        have e0 := hQ.1
        have hb : i0 * xs.length ≤ 64 * 600 := Nat.mul_le_mul (by omega) q1
        have e1 : (i0 : Int) * iz 0 = ((i0 * xs.length : Nat) : Int) := by rw [e0, Int.natCast_mul]
        have e2 : ((i0 * xs.length : Nat) : Int) / (m0 : Int) = (q : Int) := by rw [hqe, Int.natCast_ediv]
        have hd : q ≤ i0 * xs.length := by rw [hqe]; exact Nat.div_le_self _ _
        have hlt : q < xs.length := by
          rw [hqe, Nat.div_lt_iff_lt_mul (by omega), Nat.mul_comm]
          exact Nat.mul_lt_mul_of_pos_left (by omega) (by omega)
        refine ax_iload_n d_Mo_start_41 rfl ?_
        refine ax_aload_n d_Mo_start_42 rfl ?_
        refine ax_get d_Mo_start_43 fg_Mo_76 (by first | assumption | exact hH.g 0 rfl | exact hH.g 1 rfl | exact hH.g 2 rfl | exact hH.g 3 rfl | exact hH.g 4 rfl | exact hH.g 5 rfl | exact hH.g 6 rfl | exact hH.g 7 rfl | exact hH.g 8 rfl | exact hH.g 9 rfl | exact hH.g 10 rfl | exact hH.g 11 rfl | exact hH.g 12 rfl | exact hH.g 13 rfl | exact hH.g 14 rfl | exact hH.g 15 rfl | exact hH.g 16 rfl | exact hH.g 17 rfl | exact hH.g 18 rfl) (by rfl) ?_
        refine az_imul d_Mo_start_46 ?_
        rw [e1]
        refine ax_iload_n d_Mo_start_47 rfl ?_
        refine az_idiv d_Mo_start_48 (by omega) (by omega) ?_
        rw [e2]
        refine ax_istore_n d_Mo_start_49 (by decide) rfl ?_
        refine az_iconst d_Mo_start_50 ?_
        refine ax_istore d_Mo_start_51 (by decide) rfl ?_
        have key : ∀ (f k : Nat), k + f = xs.length → (∀ j : Nat, j < k → ordT xs j ≠ q) →
            ax_W m_Mo_start 4 53 [some (.ref 47), some (.int (iv m0)), some (.int (iv i0)), some (.int (iv q)), some (.int (iv k))] [] h1 (fun r0 h2 => ∃ z : Int, r0 = some (.int (iv z)) ∧ z = (plT xs q : Int) ∧ MoI h2 xs T out fp ∧ Fr MOS h0 h2) := by
          intro f
          induction f with
          | zero =>
            intro k he hj
            exfalso
            have h1 : plT xs q < xs.length := plc_lt_n (ltT_ok xs) hlt
            exact hj _ (by omega) (ordT_pl hlt)
          | succ f ih =>
            intro k he hj
            have hk := hL.1 k (by omega)
            have hk' : ar 7 ((k : Int).toNat) = ordT xs k := hk
            have hol := ordT_ok (xs := xs) (k := k) (by omega)
            have ho1 := hol.1
            refine ax_iload d_Mo_start_53 rfl ?_
            refine ax_aload_n d_Mo_start_55 rfl ?_
            refine ax_get d_Mo_start_56 fg_Mo_76 (by first | assumption | exact hH.g 0 rfl | exact hH.g 1 rfl | exact hH.g 2 rfl | exact hH.g 3 rfl | exact hH.g 4 rfl | exact hH.g 5 rfl | exact hH.g 6 rfl | exact hH.g 7 rfl | exact hH.g 8 rfl | exact hH.g 9 rfl | exact hH.g 10 rfl | exact hH.g 11 rfl | exact hH.g 12 rfl | exact hH.g 13 rfl | exact hH.g 14 rfl | exact hH.g 15 rfl | exact hH.g 16 rfl | exact hH.g 17 rfl | exact hH.g 18 rfl) (by rfl) ?_
            refine az_icmp_ge 82 d_Mo_start_59 (by decide) (by omega) (by omega) (fun hc => ?_) (fun hc => ?_)
            · exfalso
              omega
            · refine ax_aload_n d_Mo_start_62 rfl ?_
              refine ax_get d_Mo_start_63 fg_Mo_22 (by first | assumption | exact hH.g 0 rfl | exact hH.g 1 rfl | exact hH.g 2 rfl | exact hH.g 3 rfl | exact hH.g 4 rfl | exact hH.g 5 rfl | exact hH.g 6 rfl | exact hH.g 7 rfl | exact hH.g 8 rfl | exact hH.g 9 rfl | exact hH.g 10 rfl | exact hH.g 11 rfl | exact hH.g 12 rfl | exact hH.g 13 rfl | exact hH.g 14 rfl | exact hH.g 15 rfl | exact hH.g 16 rfl | exact hH.g 17 rfl | exact hH.g 18 rfl) (by rfl) ?_
              refine ax_iload d_Mo_start_66 rfl ?_
              refine az_iald d_Mo_start_68 (by first | assumption | exact hH.g 0 rfl | exact hH.g 1 rfl | exact hH.g 2 rfl | exact hH.g 3 rfl | exact hH.g 4 rfl | exact hH.g 5 rfl | exact hH.g 6 rfl | exact hH.g 7 rfl | exact hH.g 8 rfl | exact hH.g 9 rfl | exact hH.g 10 rfl | exact hH.g 11 rfl | exact hH.g 12 rfl | exact hH.g 13 rfl | exact hH.g 14 rfl | exact hH.g 15 rfl | exact hH.g 16 rfl | exact hH.g 17 rfl | exact hH.g 18 rfl) (by omega) (by omega) (by omega) ?_
              rw [hk']
              refine ax_iload_n d_Mo_start_69 rfl ?_
              refine az_icmp_ne 76 d_Mo_start_70 (by decide) (by omega) (by omega) (fun hne => ?_) (fun hne => ?_)
              · refine az_iinc d_Mo_start_76 rfl (by decide) rfl ?_
                refine ax_goto 53 d_Mo_start_79 (by decide) ?_
                refine ih (k + 1) (by omega) (fun j hj2 => ?_)
                by_cases e : j = k
                · rw [e]; omega
                · exact hj j (by omega)
              · refine ax_iload d_Mo_start_73 rfl ?_
                refine ax_iret d_Mo_start_75 rfl ?_
                refine ⟨_, rfl, ?_, hM1, hF1⟩
                have e9 : ordT xs k = q := by omega
                rw [← e9, hol.2]
        exact key xs.length 0 (by omega) (fun j hj => by omega)
      · rw [if_pos (by omega)]
        refine az_bipush _ d_Mo_start_34 (by decide) ?_
        refine ax_iret d_Mo_start_36 rfl ?_
        exact ⟨_, rfl, rfl, hM, Fr.rf⟩
    · have hii := of_decide_eq_false (bz_f hcb)
      exact bad (by omega)
set_option maxRecDepth 100000 in
set_option maxHeartbeats 8000000 in
theorem c_Mo_steps {h0 : ax_H} {xs T out : List Int} {fp : Int} (hM : MoI h0 xs T out fp) (x : Int64) {n w : Int} (hn : -2147483648 ≤ n ∧ n < 2147483648) (hw : -2147483648 ≤ w ∧ w < 2147483648) : ax_Ci m_Mo_steps 4 [.ref 47, .long x, .int (iv n), .int (iv w)] h0 (fun z h1 => z = aSteps xs x n w ∧ MoI h1 xs T out fp ∧ Fr MOS h0 h1) := by
  obtain ⟨iz0, ar0, hH, -⟩ := id hM
  have bad : (n < 1 ∨ 8 < n ∨ w < 0 ∨ 2 < w) → ax_W m_Mo_steps 4 25 [some (.ref 47), some (.long x), none, some (.int (iv n)), some (.int (iv w)), none, none, none, none, none] [] h0 (fun r0 h1 => ∃ z : Int, r0 = some (.int (iv z)) ∧ z = aSteps xs x n w ∧ MoI h1 xs T out fp ∧ Fr MOS h0 h1) := by
    intro hbad
    refine az_iconst d_Mo_steps_25 ?_
    refine ax_iret d_Mo_steps_26 rfl ?_
    exact ⟨_, rfl, by rw [aSteps, if_pos hbad], hM, Fr.rf⟩
  refine ax_enter [some (.ref 47), some (.long x), none, some (.int (iv n)), some (.int (iv w)), none, none, none, none, none] rfl (Nat.le_of_ble_eq_true rfl) (by decide) ?_
  refine ax_iload_n d_Mo_steps_0 rfl ?_
  refine aj_i2l d_Mo_steps_1 (by omega) ?_
  refine aj_lconst 1 d_Mo_steps_2 rfl ?_
  refine aj_ldc2 8 d_Mo_steps_3 cn_Mo_70 ?_
  refine ax_cS3 d_Mo_steps_6 s_Mo_isIn lk_Mo_72 (by decide) (Nat.le_of_ble_eq_true rfl) (cm_z (c_Mo_isIn (v := n) (a := 1) (b := 8) (by omega) (by omega) (by omega)) (fun b h0 hq => ?_))
  obtain ⟨rfl, rfl⟩ := hq
  refine az_if_eq 25 d_Mo_steps_9 (by decide) (bz_in _) (fun hcb => ?_) (fun hcb => ?_)
  · have hin := of_decide_eq_false (bz_f hcb)
    exact bad (by omega)
  · have hin := of_decide_eq_true (bz_t hcb)
    refine ax_iload d_Mo_steps_12 rfl ?_
    refine aj_i2l d_Mo_steps_14 (by omega) ?_
    refine aj_lconst 0 d_Mo_steps_15 rfl ?_
    refine aj_ldc2 2 d_Mo_steps_16 cn_Mo_122 ?_
    refine ax_cS3 d_Mo_steps_19 s_Mo_isIn lk_Mo_72 (by decide) (Nat.le_of_ble_eq_true rfl) (cm_z (c_Mo_isIn (v := w) (a := 0) (b := 2) (by omega) (by omega) (by omega)) (fun b h0 hq => ?_))
    obtain ⟨rfl, rfl⟩ := hq
    refine az_if_ne 27 d_Mo_steps_22 (by decide) (bz_in _) (fun hcb => ?_) (fun hcb => ?_)
    · have hii := of_decide_eq_true (bz_t hcb)
      obtain ⟨n0, rfl⟩ := Int.eq_ofNat_of_zero_le (show 0 ≤ n by omega)
      have hst := stS_in xs x n0
      have ea : aSteps xs x (n0 : Int) w = if w = 2 then ((stS xs x n0 xs.length).2 : Int) else if w = 0 ∨ (stS xs x n0 xs.length).2 = 0 then (stS xs x n0 xs.length).1 else (stS xs x n0 xs.length).1 + (stS xs x n0 xs.length).2 := by
        unfold aSteps
        rw [if_neg (by omega), show ((n0 : Nat) : Int).toNat = n0 by omega]
      rw [ea]
      refine ax_aload_n d_Mo_steps_27 rfl ?_
      refine ax_cV0 d_Mo_steps_28 v_Mo_lay lk_Mo_117 (by first | assumption | exact hH.g 0 rfl | exact hH.g 1 rfl | exact hH.g 2 rfl | exact hH.g 3 rfl | exact hH.g 4 rfl | exact hH.g 5 rfl | exact hH.g 6 rfl | exact hH.g 7 rfl | exact hH.g 8 rfl | exact hH.g 9 rfl | exact hH.g 10 rfl | exact hH.g 11 rfl | exact hH.g 12 rfl | exact hH.g 13 rfl | exact hH.g 14 rfl | exact hH.g 15 rfl | exact hH.g 16 rfl | exact hH.g 17 rfl | exact hH.g 18 rfl) (by decide) (Nat.le_of_ble_eq_true rfl) (cm_v (c_Mo_lay hM) (fun h1 hq => ?_))
      obtain ⟨⟨iz, ar, hH1, hQ, hL⟩, hF1⟩ := hq
      have hM1 : MoI h1 xs T out fp := ⟨iz, ar, hH1, hQ⟩
      have hH := hH1
      obtain ⟨q0, q1, q2, q3, -⟩ := id hQ
      refine az_bipush _ d_Mo_steps_31 (by decide) ?_
      refine ax_istore d_Mo_steps_33 (by decide) rfl ?_
      refine az_iconst d_Mo_steps_35 ?_
      refine ax_istore d_Mo_steps_36 (by decide) rfl ?_
      refine az_iconst d_Mo_steps_38 ?_
      refine ax_istore d_Mo_steps_39 (by decide) rfl ?_
      have key : ∀ (g k : Nat), k + g = xs.length → ∀ v8 v9 : Option Value,
          ax_W m_Mo_steps 4 41 [some (.ref 47), some (.long x), none, some (.int (iv n0)), some (.int (iv w)), some (.int (iv (stS xs x n0 k).1)), some (.int (iv (stS xs x n0 k).2)), some (.int (iv k)), v8, v9] [] h1 (fun r0 h2 => ∃ z : Int, r0 = some (.int (iv z)) ∧ z = (if w = 2 then ((stS xs x n0 xs.length).2 : Int) else if w = 0 ∨ (stS xs x n0 xs.length).2 = 0 then (stS xs x n0 xs.length).1 else (stS xs x n0 xs.length).1 + (stS xs x n0 xs.length).2) ∧ MoI h2 xs T out fp ∧ Fr MOS h0 h2) := by
        intro g
        induction g with
        | zero =>
          intro k he v8 v9
          have hk : k = xs.length := by omega
          subst hk
          have hi := hst xs.length
          refine ax_iload d_Mo_steps_41 rfl ?_
          refine ax_aload_n d_Mo_steps_43 rfl ?_
          refine ax_get d_Mo_steps_44 fg_Mo_76 (by first | assumption | exact hH.g 0 rfl | exact hH.g 1 rfl | exact hH.g 2 rfl | exact hH.g 3 rfl | exact hH.g 4 rfl | exact hH.g 5 rfl | exact hH.g 6 rfl | exact hH.g 7 rfl | exact hH.g 8 rfl | exact hH.g 9 rfl | exact hH.g 10 rfl | exact hH.g 11 rfl | exact hH.g 12 rfl | exact hH.g 13 rfl | exact hH.g 14 rfl | exact hH.g 15 rfl | exact hH.g 16 rfl | exact hH.g 17 rfl | exact hH.g 18 rfl) (by rfl) ?_
          refine az_icmp_ge 166 d_Mo_steps_47 (by decide) (by omega) (by omega) (fun hc => ?_) (fun hc => ?_)
          · refine ax_iload d_Mo_steps_166 rfl ?_
            refine az_if_ne 176 d_Mo_steps_168 (by decide) (by first | exact bz_in _ | omega) (fun hw0 => ?_) (fun hw0 => ?_)
            · refine ax_iload d_Mo_steps_176 rfl ?_
              refine az_iconst d_Mo_steps_178 ?_
              refine az_icmp_ne 200 d_Mo_steps_179 (by decide) (by omega) (by omega) (fun hw1 => ?_) (fun hw1 => ?_)
              · refine ax_iload d_Mo_steps_200 rfl ?_
                refine ax_iret d_Mo_steps_202 rfl ?_
                exact ⟨_, rfl, by rw [if_pos (by omega)], hM1, hF1⟩
              · refine ax_iload d_Mo_steps_182 rfl ?_
                refine az_if_ne 192 d_Mo_steps_184 (by decide) (by first | exact bz_in _ | omega) (fun hf => ?_) (fun hf => ?_)
                · refine ax_iload d_Mo_steps_192 rfl ?_
                  refine ax_iload d_Mo_steps_194 rfl ?_
                  refine az_iadd d_Mo_steps_196 ?_
                  refine ax_goto 202 d_Mo_steps_197 (by decide) ?_
                  refine ax_iret d_Mo_steps_202 rfl ?_
                  exact ⟨_, rfl, by rw [if_neg (by omega), if_neg (by omega)], hM1, hF1⟩
                · refine az_bipush _ d_Mo_steps_187 (by decide) ?_
                  refine ax_goto 202 d_Mo_steps_189 (by decide) ?_
                  refine ax_iret d_Mo_steps_202 rfl ?_
                  refine ⟨_, rfl, ?_, hM1, hF1⟩
                  rw [if_neg (by omega), if_pos (by omega)]
                  exact (hi.2.2.2 (by omega)).symm
            · refine ax_iload d_Mo_steps_171 rfl ?_
              refine ax_goto 202 d_Mo_steps_173 (by decide) ?_
              refine ax_iret d_Mo_steps_202 rfl ?_
              exact ⟨_, rfl, by rw [if_neg (by omega), if_pos (by omega)], hM1, hF1⟩
          · exfalso
            omega
        | succ g ih =>
          intro k he v8 v9
          have hi := hst k
          have ho := ordT_ok (show k < xs.length by omega)
          have ho1 := ho.1
          have hk7 : ar 7 ((k : Int).toNat) = ordT xs k := hL.1 k (by omega)
          have ih1 := ih (k + 1) (by omega)
          rw [stS] at ih1
          have ek : (k : Int) + 1 = ((k + 1 : Nat) : Int) := by omega
          -- what is found of this place
          have rest : ∀ b : Bool, b = begB xs (ordT xs k) x n0 → ∀ v9 : Option Value, ax_W m_Mo_steps 4 131 [some (.ref 47), some (.long x), none, some (.int (iv n0)), some (.int (iv w)), some (.int (iv (stS xs x n0 k).1)), some (.int (iv (stS xs x n0 k).2)), some (.int (iv k)), some (.int (iv (bz b))), v9] [] h1 (fun r0 h2 => ∃ z : Int, r0 = some (.int (iv z)) ∧ z = (if w = 2 then ((stS xs x n0 xs.length).2 : Int) else if w = 0 ∨ (stS xs x n0 xs.length).2 = 0 then (stS xs x n0 xs.length).1 else (stS xs x n0 xs.length).1 + (stS xs x n0 xs.length).2) ∧ MoI h2 xs T out fp ∧ Fr MOS h0 h2) := by
            intro b hb v9
            rw [← hb] at ih1
            cases b with
            | false =>
              have eb : bz false = 0 := rfl
              rw [eb]
              rw [if_neg (by decide)] at ih1
              refine ax_iload d_Mo_steps_131 rfl ?_
              refine az_if_eq 145 d_Mo_steps_133 (by decide) (by first | exact bz_in _ | omega) (fun hc => ?_) (fun hc => ?_)
              · refine ax_iload d_Mo_steps_145 rfl ?_
                refine ax_iload d_Mo_steps_147 rfl ?_
                refine az_if_eq 156 d_Mo_steps_149 (by decide) (by first | exact bz_in _ | omega) (fun hc => ?_) (fun hc => ?_)
                · refine az_iconst d_Mo_steps_156 ?_
                  refine az_iadd d_Mo_steps_157 ?_
                  refine ax_istore d_Mo_steps_158 (by decide) rfl ?_
                  refine az_iinc d_Mo_steps_160 rfl (by decide) rfl ?_
                  have e0 : ((stS xs x n0 k).2 : Int) + 0 = ((stS xs x n0 k).2 : Int) := by omega
                  rw [e0]
                  refine ax_goto 41 d_Mo_steps_163 (by decide) ?_
                  exact ih1 _ _
                · exfalso
                  omega
              · exfalso
                omega
            | true =>
              have eb : bz true = 1 := rfl
              rw [eb]
              rw [if_pos rfl] at ih1
              refine ax_iload d_Mo_steps_131 rfl ?_
              refine az_if_eq 145 d_Mo_steps_133 (by decide) (by first | exact bz_in _ | omega) (fun hc => ?_) (fun hc => ?_)
              · exfalso
                omega
              · refine ax_iload d_Mo_steps_136 rfl ?_
                refine az_if_ne 145 d_Mo_steps_138 (by decide) (by first | exact bz_in _ | omega) (fun hf => ?_) (fun hf => ?_)
                · rw [if_neg (by omega)] at ih1
                  refine ax_iload d_Mo_steps_145 rfl ?_
                  refine ax_iload d_Mo_steps_147 rfl ?_
                  refine az_if_eq 156 d_Mo_steps_149 (by decide) (by first | exact bz_in _ | omega) (fun hc => ?_) (fun hc => ?_)
                  · exfalso
                    omega
                  · refine az_iconst d_Mo_steps_152 ?_
                    refine ax_goto 157 d_Mo_steps_153 (by decide) ?_
                    refine az_iadd d_Mo_steps_157 ?_
                    refine ax_istore d_Mo_steps_158 (by decide) rfl ?_
                    refine az_iinc d_Mo_steps_160 rfl (by decide) rfl ?_
                    refine ax_goto 41 d_Mo_steps_163 (by decide) ?_
                    exact ih1 _ _
                · rw [if_pos (by omega)] at ih1
                  refine ax_iload d_Mo_steps_141 rfl ?_
                  refine ax_istore d_Mo_steps_143 (by decide) rfl ?_
                  refine ax_iload d_Mo_steps_145 rfl ?_
                  refine ax_iload d_Mo_steps_147 rfl ?_
                  refine az_if_eq 156 d_Mo_steps_149 (by decide) (by first | exact bz_in _ | omega) (fun hc => ?_) (fun hc => ?_)
                  · exfalso
                    omega
                  · refine az_iconst d_Mo_steps_152 ?_
                    refine ax_goto 157 d_Mo_steps_153 (by decide) ?_
                    refine az_iadd d_Mo_steps_157 ?_
                    refine ax_istore d_Mo_steps_158 (by decide) rfl ?_
                    refine az_iinc d_Mo_steps_160 rfl (by decide) rfl ?_
                    refine ax_goto 41 d_Mo_steps_163 (by decide) ?_
                    exact ih1 _ _
          refine ax_iload d_Mo_steps_41 rfl ?_
          refine ax_aload_n d_Mo_steps_43 rfl ?_
          refine ax_get d_Mo_steps_44 fg_Mo_76 (by first | assumption | exact hH.g 0 rfl | exact hH.g 1 rfl | exact hH.g 2 rfl | exact hH.g 3 rfl | exact hH.g 4 rfl | exact hH.g 5 rfl | exact hH.g 6 rfl | exact hH.g 7 rfl | exact hH.g 8 rfl | exact hH.g 9 rfl | exact hH.g 10 rfl | exact hH.g 11 rfl | exact hH.g 12 rfl | exact hH.g 13 rfl | exact hH.g 14 rfl | exact hH.g 15 rfl | exact hH.g 16 rfl | exact hH.g 17 rfl | exact hH.g 18 rfl) (by rfl) ?_
          refine az_icmp_ge 166 d_Mo_steps_47 (by decide) (by omega) (by omega) (fun hc => ?_) (fun hc => ?_)
          · exfalso
            omega
          · -- the bytes of this place
            have inner : n0 ≤ xs.length → ∀ (f j : Nat), j + f = n0 → (∀ i : Nat, i < j → gx xs ((ordT xs k + i) % xs.length) = byN x (n0 - 1 - i)) →
                ax_W m_Mo_steps 4 68 [some (.ref 47), some (.long x), none, some (.int (iv n0)), some (.int (iv w)), some (.int (iv (stS xs x n0 k).1)), some (.int (iv (stS xs x n0 k).2)), some (.int (iv k)), some (.int (iv 1)), some (.int (iv j))] [] h1 (fun r0 h2 => ∃ z : Int, r0 = some (.int (iv z)) ∧ z = (if w = 2 then ((stS xs x n0 xs.length).2 : Int) else if w = 0 ∨ (stS xs x n0 xs.length).2 = 0 then (stS xs x n0 xs.length).1 else (stS xs x n0 xs.length).1 + (stS xs x n0 xs.length).2) ∧ MoI h2 xs T out fp ∧ Fr MOS h0 h2) := by
              intro hnx f
              induction f with
              | zero =>
                intro j hj hall
                refine ax_iload d_Mo_steps_68 rfl ?_
                refine ax_iload_n d_Mo_steps_70 rfl ?_
                refine az_icmp_ge 131 d_Mo_steps_71 (by decide) (by omega) (by omega) (fun hc => ?_) (fun hc => ?_)
                · exact rest true (begB_t hnx (fun i hi => hall i (by omega))).symm _
                · exfalso
                  omega
              | succ f ih2 =>
                intro j hj hall
                have hml : (ordT xs k + j) % xs.length < xs.length := Nat.mod_lt _ (by omega)
                have em2 : (((ordT xs k : Nat) : Int) + (j : Int)) % iz 0 = (((ordT xs k + j) % xs.length : Nat) : Int) := by rw [q0]; exact mod_nat _ _ _
                have hg := gx_Bs q3 ((ordT xs k + j) % xs.length)
                have hby := byN_in x (n0 - 1 - j)
                have er : ar 1 (((ordT xs k + j) % xs.length : Nat) : Int).toNat = gx xs ((ordT xs k + j) % xs.length) := by
                  rw [show (((ordT xs k + j) % xs.length : Nat) : Int).toNat = (ordT xs k + j) % xs.length by omega]
                  exact q2 _ hml
                have e8 : (n0 : Int) - 1 - (j : Int) = ((n0 - 1 - j : Nat) : Int) := by omega
                refine ax_iload d_Mo_steps_68 rfl ?_
                refine ax_iload_n d_Mo_steps_70 rfl ?_
                refine az_icmp_ge 131 d_Mo_steps_71 (by decide) (by omega) (by omega) (fun hc => ?_) (fun hc => ?_)
                · exfalso
                  omega
                · refine ax_iload d_Mo_steps_74 rfl ?_
                  refine az_if_eq 131 d_Mo_steps_76 (by decide) (by first | exact bz_in _ | omega) (fun h1f => ?_) (fun h1f => ?_)
                  · exfalso
                    omega
                  · refine ax_aload_n d_Mo_steps_79 rfl ?_
                    refine ax_get d_Mo_steps_80 fg_Mo_7 (by first | assumption | exact hH.g 0 rfl | exact hH.g 1 rfl | exact hH.g 2 rfl | exact hH.g 3 rfl | exact hH.g 4 rfl | exact hH.g 5 rfl | exact hH.g 6 rfl | exact hH.g 7 rfl | exact hH.g 8 rfl | exact hH.g 9 rfl | exact hH.g 10 rfl | exact hH.g 11 rfl | exact hH.g 12 rfl | exact hH.g 13 rfl | exact hH.g 14 rfl | exact hH.g 15 rfl | exact hH.g 16 rfl | exact hH.g 17 rfl | exact hH.g 18 rfl) (by rfl) ?_
                    refine ax_aload_n d_Mo_steps_83 rfl ?_
                    refine ax_get d_Mo_steps_84 fg_Mo_22 (by first | assumption | exact hH.g 0 rfl | exact hH.g 1 rfl | exact hH.g 2 rfl | exact hH.g 3 rfl | exact hH.g 4 rfl | exact hH.g 5 rfl | exact hH.g 6 rfl | exact hH.g 7 rfl | exact hH.g 8 rfl | exact hH.g 9 rfl | exact hH.g 10 rfl | exact hH.g 11 rfl | exact hH.g 12 rfl | exact hH.g 13 rfl | exact hH.g 14 rfl | exact hH.g 15 rfl | exact hH.g 16 rfl | exact hH.g 17 rfl | exact hH.g 18 rfl) (by rfl) ?_
                    refine ax_iload d_Mo_steps_87 rfl ?_
                    refine az_iald d_Mo_steps_89 (by first | assumption | exact hH.g 0 rfl | exact hH.g 1 rfl | exact hH.g 2 rfl | exact hH.g 3 rfl | exact hH.g 4 rfl | exact hH.g 5 rfl | exact hH.g 6 rfl | exact hH.g 7 rfl | exact hH.g 8 rfl | exact hH.g 9 rfl | exact hH.g 10 rfl | exact hH.g 11 rfl | exact hH.g 12 rfl | exact hH.g 13 rfl | exact hH.g 14 rfl | exact hH.g 15 rfl | exact hH.g 16 rfl | exact hH.g 17 rfl | exact hH.g 18 rfl) (by omega) (by omega) (by omega) ?_
                    rw [hk7]
                    refine ax_iload d_Mo_steps_90 rfl ?_
                    refine az_iadd d_Mo_steps_92 ?_
                    refine ax_aload_n d_Mo_steps_93 rfl ?_
                    refine ax_get d_Mo_steps_94 fg_Mo_76 (by first | assumption | exact hH.g 0 rfl | exact hH.g 1 rfl | exact hH.g 2 rfl | exact hH.g 3 rfl | exact hH.g 4 rfl | exact hH.g 5 rfl | exact hH.g 6 rfl | exact hH.g 7 rfl | exact hH.g 8 rfl | exact hH.g 9 rfl | exact hH.g 10 rfl | exact hH.g 11 rfl | exact hH.g 12 rfl | exact hH.g 13 rfl | exact hH.g 14 rfl | exact hH.g 15 rfl | exact hH.g 16 rfl | exact hH.g 17 rfl | exact hH.g 18 rfl) (by rfl) ?_
                    refine az_irem d_Mo_steps_97 (by omega) (by omega) ?_
                    rw [em2]
                    refine az_iald d_Mo_steps_98 (by first | assumption | exact hH.g 0 rfl | exact hH.g 1 rfl | exact hH.g 2 rfl | exact hH.g 3 rfl | exact hH.g 4 rfl | exact hH.g 5 rfl | exact hH.g 6 rfl | exact hH.g 7 rfl | exact hH.g 8 rfl | exact hH.g 9 rfl | exact hH.g 10 rfl | exact hH.g 11 rfl | exact hH.g 12 rfl | exact hH.g 13 rfl | exact hH.g 14 rfl | exact hH.g 15 rfl | exact hH.g 16 rfl | exact hH.g 17 rfl | exact hH.g 18 rfl) (by omega) (by omega) (by omega) ?_
                    rw [er]
                    refine ax_lload_n d_Mo_steps_99 rfl ?_
                    refine az_bipush _ d_Mo_steps_100 (by decide) ?_
                    refine ax_iload_n d_Mo_steps_102 rfl ?_
                    refine az_iconst d_Mo_steps_103 ?_
                    refine az_isub d_Mo_steps_104 ?_
                    refine ax_iload d_Mo_steps_105 rfl ?_
                    refine az_isub d_Mo_steps_107 ?_
                    rw [e8]
                    refine az_imul d_Mo_steps_108 ?_
                    refine ax_lushr d_Mo_steps_109 ?_
                    refine ax_ldc2 d_Mo_steps_110 cn_Mo_79 ?_
                    refine ax_land d_Mo_steps_113 ?_
                    refine az_l2i d_Mo_steps_114 ?_
                    rw [by_model x (show n0 - 1 - j < 8 by omega)]
                    refine az_icmp_ne 122 d_Mo_steps_115 (by decide) (by omega) (by omega) (fun hne => ?_) (fun hne => ?_)
                    · refine az_iconst d_Mo_steps_122 ?_
                      refine ax_istore d_Mo_steps_123 (by decide) rfl ?_
                      refine az_iinc d_Mo_steps_125 rfl (by decide) rfl ?_
                      refine ax_goto 68 d_Mo_steps_128 (by decide) ?_
                      refine ax_iload d_Mo_steps_68 rfl ?_
                      refine ax_iload_n d_Mo_steps_70 rfl ?_
                      refine az_icmp_ge 131 d_Mo_steps_71 (by decide) (by omega) (by omega) (fun hc => ?_) (fun hc => ?_)
                      · exact rest false (begB_f (show j < n0 by omega) hne).symm _
                      · refine ax_iload d_Mo_steps_74 rfl ?_
                        refine az_if_eq 131 d_Mo_steps_76 (by decide) (by first | exact bz_in _ | omega) (fun hc => ?_) (fun hc => ?_)
                        · exact rest false (begB_f (show j < n0 by omega) hne).symm _
                        · exfalso
                          omega
                    · refine az_iconst d_Mo_steps_118 ?_
                      refine ax_goto 123 d_Mo_steps_119 (by decide) ?_
                      refine ax_istore d_Mo_steps_123 (by decide) rfl ?_
                      refine az_iinc d_Mo_steps_125 rfl (by decide) rfl ?_
                      refine ax_goto 68 d_Mo_steps_128 (by decide) ?_
                      refine ih2 (j + 1) (by omega) (fun i hi => ?_)
                      by_cases e : i = j
                      · rw [e]; exact hne
                      · exact hall i (by omega)
            refine ax_iload_n d_Mo_steps_50 rfl ?_
            refine ax_aload_n d_Mo_steps_51 rfl ?_
            refine ax_get d_Mo_steps_52 fg_Mo_76 (by first | assumption | exact hH.g 0 rfl | exact hH.g 1 rfl | exact hH.g 2 rfl | exact hH.g 3 rfl | exact hH.g 4 rfl | exact hH.g 5 rfl | exact hH.g 6 rfl | exact hH.g 7 rfl | exact hH.g 8 rfl | exact hH.g 9 rfl | exact hH.g 10 rfl | exact hH.g 11 rfl | exact hH.g 12 rfl | exact hH.g 13 rfl | exact hH.g 14 rfl | exact hH.g 15 rfl | exact hH.g 16 rfl | exact hH.g 17 rfl | exact hH.g 18 rfl) (by rfl) ?_
            refine az_icmp_gt 62 d_Mo_steps_55 (by decide) (by omega) (by omega) (fun hgt => ?_) (fun hgt => ?_)
            · refine az_iconst d_Mo_steps_62 ?_
              refine ax_istore d_Mo_steps_63 (by decide) rfl ?_
              refine az_iconst d_Mo_steps_65 ?_
              refine ax_istore d_Mo_steps_66 (by decide) rfl ?_
              refine ax_iload d_Mo_steps_68 rfl ?_
              refine ax_iload_n d_Mo_steps_70 rfl ?_
              refine az_icmp_ge 131 d_Mo_steps_71 (by decide) (by omega) (by omega) (fun hc => ?_) (fun hc => ?_)
              · exact rest false (begB_s (by omega)).symm _
              · refine ax_iload d_Mo_steps_74 rfl ?_
                refine az_if_eq 131 d_Mo_steps_76 (by decide) (by first | exact bz_in _ | omega) (fun hc => ?_) (fun hc => ?_)
                · exact rest false (begB_s (by omega)).symm _
                · exfalso
                  omega
            · refine az_iconst d_Mo_steps_58 ?_
              refine ax_goto 63 d_Mo_steps_59 (by decide) ?_
              refine ax_istore d_Mo_steps_63 (by decide) rfl ?_
              refine az_iconst d_Mo_steps_65 ?_
              refine ax_istore d_Mo_steps_66 (by decide) rfl ?_
              exact inner (by omega) n0 0 (by omega) (fun i hi => by omega)
      exact key xs.length 0 (by omega) none none
    · have hii := of_decide_eq_false (bz_f hcb)
      exact bad (by omega)
