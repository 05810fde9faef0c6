/-! SortTransform: back, ring, symbols, streams -/
theorem ClQ.blk {h h1 : ax_H} {xs ys T out : List Int} {fp : Int} (k : ClQ h xs T out fp) (hF : Fr [2, 3] h h1) (h2 : Rw h1 2 3 600 ys) (hb : Bs ys) : ClQ h1 ys T out fp := by
  obtain ⟨k1, k2, k3, k4, k5, k6, k7, k8, f, k9⟩ := k
  exact ⟨h2, hb, k3.fr hF rfl rfl, k4.fr hF rfl, k5.fr hF rfl, k6.fr hF rfl rfl, k7, k8.fr hF rfl rfl, f, k9.fr hF rfl⟩
theorem ClP.tp {h h1 : ax_H} {xs T T' out : List Int} {fp : Int} {pf tf cf : Bool} (k : ClP h xs T out fp pf tf cf) (hF : Fr [43, 44] h h1) (h2 : Rw h1 43 44 3000 T') (hb : Bs T') : ClP h1 xs T' out fp pf tf cf := by
  obtain ⟨k0, ⟨k1, k2, k3, k4, k5, k6, k7, k8, f, k9⟩, hp, ht, hc⟩ := k
  exact ⟨k0.fr hF rfl, ⟨k1.fr hF rfl rfl, k2, k3.fr hF rfl rfl, k4.fr hF rfl, k5.fr hF rfl, h2, hb, k8.fr hF rfl rfl, f, k9.fr hF rfl⟩, fun q => ⟨(hp q).1.fr hF rfl rfl, (hp q).2⟩, fun q => (ht q).fr hF rfl rfl rfl, fun q => (hc q).fr hF rfl rfl⟩
def aBack (xs : List Int) (o : Int) : Int × List Int := if xs.length = 0 then (-2, xs) else if ¬ (0 ≤ o ∧ o < (xs.length : Int)) then (-1, xs) else (bz (rightB xs o.toNat), gbT xs o.toNat)
set_option maxRecDepth 100000 in
theorem c_S_back {h0 : ax_H} {xs T out : List Int} {fp : Int} (hC : ClI h0 xs T out fp) {o : Int} (ho : -2147483648 ≤ o ∧ o < 2147483648) : ax_Ci m_S_back 5 [.ref 1, .int (iv o)] h0 (fun z h1 => z = (aBack xs o).1 ∧ ClI h1 (aBack xs o).2 T out fp ∧ Fr CLS h0 h1) := by
  have hC0 := hC
  obtain ⟨pf, tf, cf, hH, ⟨k1, k2, k3, ⟨b0, b1, b2, b3, b4, b5, b6, b7, b8, b9, b10⟩, k5, k6, k7, k8, f, k9⟩, hp, ht, hcf⟩ := hC
  have hl := k1.lc
  have hsz := k1.sz
  have c6 : h0[6]? = some (ob 1 [.ref 7, .ref 15, .ref 18, .ref 22, .ref 33, .ref 35, .ref 37]) := b0
  unfold aBack
  refine ax_enter [some (.ref 1), some (.int (iv o)), none] rfl (Nat.le_of_ble_eq_true rfl) (by decide) ?_
  refine ax_aload_n d_S_back_0 rfl ?_
  refine ax_get d_S_back_1 fg_S_14 (by first | assumption | exact hH.g 0 rfl) (by rfl) ?_
  refine ax_get d_S_back_4 fg_S_60 (by first | assumption | exact hH.g 0 rfl) (by rfl) ?_
  refine az_if_ne 13 d_S_back_7 (by decide) (by first | exact bz_in _ | omega) (fun hz => ?_) (fun hz => ?_)
  · rw [if_neg (by omega)]
    refine ax_aload_n d_S_back_13 rfl ?_
    refine ax_get d_S_back_14 fg_S_14 (by first | assumption | exact hH.g 0 rfl) (by rfl) ?_
    refine ax_iload_n d_S_back_17 rfl ?_
    refine ax_cV1 d_S_back_18 v_Rw_has lk_S_99 (by first | assumption | exact hH.g 0 rfl) (by decide) (Nat.le_of_ble_eq_true rfl) (cm_z (c_Rw_has k1 ho) (fun b h1 hq => ?_))
    obtain ⟨rfl, rfl⟩ := hq
    refine az_if_ne 26 d_S_back_21 (by decide) (bz_in _) (fun hcb => ?_) (fun hcb => ?_)
    · have hin := of_decide_eq_true (bz_t hcb)
      rw [if_neg (fun q => q hin)]
      obtain ⟨o0, rfl⟩ := Int.eq_ofNat_of_zero_le hin.1
      have eo : ((o0 : Nat) : Int).toNat = o0 := by omega
      rw [eo]
      refine ax_aload_n d_S_back_26 rfl ?_
      refine ax_get d_S_back_27 fg_S_24 (by first | assumption | exact hH.g 0 rfl) (by rfl) ?_
      refine ax_aload_n d_S_back_30 rfl ?_
      refine ax_get d_S_back_31 fg_S_14 (by first | assumption | exact hH.g 0 rfl) (by rfl) ?_
      refine ax_iload_n d_S_back_34 rfl ?_
      refine ax_cV2 d_S_back_35 v_Bn_goBack lk_S_102 (by first | assumption | exact hH.g 0 rfl) (by decide) (Nat.le_of_ble_eq_true rfl) (cm_z (c_Bn_goBack b0 b1 b2 b3 b8 k1 k2 (by omega) (o := o0) (by omega) rfl rfl) (fun b h2 hq => ?_))
      obtain ⟨rfl, q1, q2, q3, q4, hF1⟩ := hq
      have hH : SO h2 pf tf cf := hH.fr hF1 rfl
      have c6 : h2[6]? = some (ob 1 [.ref 7, .ref 15, .ref 18, .ref 22, .ref 33, .ref 35, .ref 37]) := b0.fr hF1 rfl
      have k12 := k1.fr hF1 rfl rfl
      have hsz2 := k12.sz
      have q0 : ClQ h2 xs T out fp := ⟨k12, k2, k3.fr hF1 rfl rfl, ⟨b0.fr hF1 rfl, q2, q3, q4, b4.fr hF1 rfl, b5.fr hF1 rfl, b6.fr hF1 rfl, b7.fr hF1 rfl, ⟨_, q1⟩, b9.fr hF1 rfl rfl, b10.fr hF1 rfl rfl⟩, k5.fr hF1 rfl, k6.fr hF1 rfl rfl, k7, k8.fr hF1 rfl rfl, f, k9.fr hF1 rfl⟩
      refine ax_istore_n d_S_back_38 (by decide) rfl ?_
      refine ax_aload_n d_S_back_39 rfl ?_
      refine ax_get d_S_back_40 fg_S_14 (by first | assumption | exact hH.g 0 rfl) (by rfl) ?_
      refine ax_aload_n d_S_back_43 rfl ?_
      refine ax_get d_S_back_44 fg_S_24 (by first | assumption | exact hH.g 0 rfl) (by rfl) ?_
      refine ax_get d_S_back_47 fg_S_106 (by first | assumption | exact hH.g 0 rfl) (by rfl) ?_
      refine ax_cV1 d_S_back_50 v_Rw_copyOf lk_S_109 (by first | assumption | exact hH.g 0 rfl) (by decide) (Nat.le_of_ble_eq_true rfl) (cm_v (c_Rw_copyOf k12 q1 rfl rfl (by rw [gbT_len]; exact hl)) (fun h3 hq => ?_))
      obtain ⟨k13, hF3⟩ := hq
      have q03 : ClQ h3 (gbT xs o0) T out fp := q0.blk hF3 k13 (Bs_gbT k2 (by omega))
      have hH : SO h3 pf tf cf := hH.fr hF3 rfl
      refine ax_aload_n d_S_back_53 rfl ?_
      refine ax_cV0 d_S_back_54 v_S_blockChanged lk_S_46 (by first | assumption | exact hH.g 0 rfl) (by decide) (Nat.le_of_ble_eq_true rfl) (cm_v (c_S_blockChanged hH) (fun h4 hq => ?_))
      have hfr : Fr CLS h1 h4 := ((hF1.wide rfl).tr (hF3.wide rfl)).tr (hq.2.wide rfl)
      refine ax_iload_n d_S_back_57 rfl ?_
      refine az_if_eq 65 d_S_back_58 (by decide) (by first | exact bz_in _ | omega) (fun hr => ?_) (fun hr => ?_)
      · refine az_iconst d_S_back_65 ?_
        refine ax_iret d_S_back_66 rfl ?_
        rw [bz_f hr]
        exact ⟨_, rfl, rfl, ClI.none hq.1 (q03.fr1 hq.2), hfr⟩
      · refine az_iconst d_S_back_61 ?_
        refine ax_goto 66 d_S_back_62 (by decide) ?_
        refine ax_iret d_S_back_66 rfl ?_
        rw [bz_t hr]
        exact ⟨_, rfl, rfl, ClI.none hq.1 (q03.fr1 hq.2), hfr⟩
    · have hin := of_decide_eq_false (bz_f hcb)
      rw [if_pos hin]
      refine az_iconst d_S_back_24 ?_
      refine ax_iret d_S_back_25 rfl ?_
      exact ⟨_, rfl, rfl, hC0, Fr.rf⟩
  · rw [if_pos (by omega)]
    refine az_bipush _ d_S_back_10 (by decide) ?_
    refine ax_iret d_S_back_12 rfl ?_
    exact ⟨_, rfl, rfl, hC0, Fr.rf⟩
def aRing (xs : List Int) (k : Int) : Int := if 0 ≤ k ∧ k < (xs.length : Int) then ringN (nxT xs) k (xs.length - 1) (nxT xs k.toNat) 1 else -1
set_option maxRecDepth 100000 in
theorem c_S_ring {h0 : ax_H} {xs T out : List Int} {fp : Int} (hC : ClI h0 xs T out fp) {k : Int} (hk : -2147483648 ≤ k ∧ k < 2147483648) : ax_Ci m_S_ring 3 [.ref 1, .int (iv k)] h0 (fun z h1 => z = aRing xs k ∧ ClI h1 xs T out fp ∧ Fr CLS h0 h1) := by
  have hC0 := hC
  obtain ⟨pf, tf, cf, hH, ⟨k1, k2, k3, ⟨b0, b1, b2, ⟨nC, nx, off, b3⟩, b4, b5, b6, b7, b8, b9, b10⟩, k5, k6, k7, k8, f, k9⟩, hp, ht, hcf⟩ := hC
  have hl := k1.lc
  have hsz := k1.sz
  have c6 : h0[6]? = some (ob 1 [.ref 7, .ref 15, .ref 18, .ref 22, .ref 33, .ref 35, .ref 37]) := b0
  have c15 : h0[15]? = _ := b3.g 0 rfl
  unfold aRing
  refine ax_enter [some (.ref 1), some (.int (iv k))] rfl (Nat.le_of_ble_eq_true rfl) (by decide) ?_
  refine ax_aload_n d_S_ring_0 rfl ?_
  refine ax_get d_S_ring_1 fg_S_14 (by first | assumption | exact hH.g 0 rfl) (by rfl) ?_
  refine ax_iload_n d_S_ring_4 rfl ?_
  refine ax_cV1 d_S_ring_5 v_Rw_has lk_S_99 (by first | assumption | exact hH.g 0 rfl) (by decide) (Nat.le_of_ble_eq_true rfl) (cm_z (c_Rw_has k1 hk) (fun b h1 hq => ?_))
  obtain ⟨rfl, rfl⟩ := hq
  refine az_if_ne 13 d_S_ring_8 (by decide) (bz_in _) (fun hcb => ?_) (fun hcb => ?_)
  · have hin := of_decide_eq_true (bz_t hcb)
    rw [if_pos hin]
    obtain ⟨k0, rfl⟩ := Int.eq_ofNat_of_zero_le hin.1
    have eo : ((k0 : Nat) : Int).toNat = k0 := by omega
    rw [eo]
    refine ax_aload_n d_S_ring_13 rfl ?_
    refine ax_get d_S_ring_14 fg_S_24 (by first | assumption | exact hH.g 0 rfl) (by rfl) ?_
    refine ax_get d_S_ring_17 fg_S_113 (by first | assumption | exact hH.g 0 rfl) (by rfl) ?_
    refine ax_aload_n d_S_ring_20 rfl ?_
    refine ax_get d_S_ring_21 fg_S_14 (by first | assumption | exact hH.g 0 rfl) (by rfl) ?_
    refine ax_cV1 d_S_ring_24 v_Ch_link lk_S_117 (by first | assumption | exact hH.g 0 rfl) (by decide) (Nat.le_of_ble_eq_true rfl) (cm_v (c_Ch_link k1 k2 (by omega) b3 rfl rfl) (fun h2 hq => ?_))
    obtain ⟨nx1, off1, hCh1, hnx, hF1⟩ := hq
    have hH : SO h2 pf tf cf := hH.fr hF1 rfl
    have c6 : h2[6]? = some (ob 1 [.ref 7, .ref 15, .ref 18, .ref 22, .ref 33, .ref 35, .ref 37]) := b0.fr hF1 rfl
    have c15 : h2[15]? = _ := hCh1.g 0 rfl
    refine ax_aload_n d_S_ring_27 rfl ?_
    refine ax_get d_S_ring_28 fg_S_24 (by first | assumption | exact hH.g 0 rfl) (by rfl) ?_
    refine ax_get d_S_ring_31 fg_S_113 (by first | assumption | exact hH.g 0 rfl) (by rfl) ?_
    refine ax_iload_n d_S_ring_34 rfl ?_
    refine ax_cV1 d_S_ring_35 v_Ch_ringLength lk_S_122 (by first | assumption | exact hH.g 0 rfl) (by decide) (Nat.le_of_ble_eq_true rfl) (cm_i (c_Ch_ringLength (by omega) hCh1 hnx (k := k0) (by omega)) (fun z h3 hq => ?_))
    obtain ⟨rfl, rfl⟩ := hq
    refine ax_iret d_S_ring_38 rfl ?_
    have q0 : ClQ h3 xs T out fp := ⟨k1.fr hF1 rfl rfl, k2, k3.fr hF1 rfl rfl, ⟨b0.fr hF1 rfl, b1.fr hF1 rfl, b2.fr hF1 rfl rfl, ⟨_, _, _, hCh1⟩, b4.fr hF1 rfl, b5.fr hF1 rfl, b6.fr hF1 rfl, b7.fr hF1 rfl, b8.fr hF1 rfl rfl, b9.fr hF1 rfl rfl, b10.fr hF1 rfl rfl⟩, k5.fr hF1 rfl, k6.fr hF1 rfl rfl, k7, k8.fr hF1 rfl rfl, f, k9.fr hF1 rfl⟩
    refine ⟨_, rfl, ?_, ⟨pf, tf, cf, hH, q0, fun q => ⟨(hp q).1.fr hF1 rfl rfl, (hp q).2⟩, fun q => (ht q).fr hF1 rfl rfl rfl, fun q => (hcf q).fr hF1 rfl rfl⟩, hF1.wide rfl⟩
    obtain ⟨j, hj, ej, -⟩ := nx_in hnx (show k0 < xs.length by omega)
    rw [← isNx_eq hnx (by omega), ej, ringN_cg hnx k0 _ j 1 hj]
  · have hin := of_decide_eq_false (bz_f hcb)
    rw [if_neg hin]
    refine az_iconst d_S_ring_11 ?_
    refine ax_iret d_S_ring_12 rfl ?_
    exact ⟨_, rfl, rfl, hC0, Fr.rf⟩
set_option maxRecDepth 100000 in
theorem c_S_symbol {h0 : ax_H} {xs T out : List Int} {fp : Int} (hC : ClI h0 xs T out fp) {i : Int} (hi : -2147483648 ≤ i ∧ i < 2147483648) : ax_Ci m_S_symbol 5 [.ref 1, .int (iv i)] h0 (fun z h1 => z = rAt (sy xs) i ∧ ClI h1 xs T out fp ∧ Fr CLS h0 h1) := by
  have hC0 := hC
  obtain ⟨pf0, tf0, cf0, hH, -⟩ := hC0
  refine ax_enter [some (.ref 1), some (.int (iv i))] rfl (Nat.le_of_ble_eq_true rfl) (by decide) ?_
  refine ax_aload_n d_S_symbol_0 rfl ?_
  refine ax_cV0 d_S_symbol_1 v_S_freshenCodes lk_S_125 (by first | assumption | exact hH.g 0 rfl) (by decide) (Nat.le_of_ble_eq_true rfl) (cm_v (c_S_freshenCodes hC) (fun h1 hq => ?_))
  obtain ⟨⟨pf, tf, hP⟩, hF1⟩ := hq
  have hH : SO h1 pf tf true := hP.1
  obtain ⟨hS, wt, lg, vl, bl, pl, hCd, hlg, hvl, hok⟩ := hP.2.2.2.2 rfl
  have c6 : h1[6]? = some (ob 1 [.ref 7, .ref 15, .ref 18, .ref 22, .ref 33, .ref 35, .ref 37]) := hP.2.1.2.2.2.1.1
  have c18 := hS.sz
  refine ax_aload_n d_S_symbol_4 rfl ?_
  refine ax_get d_S_symbol_5 fg_S_24 (by first | assumption | exact hH.g 0 rfl) (by rfl) ?_
  refine ax_get d_S_symbol_8 fg_S_128 (by first | assumption | exact hH.g 0 rfl) (by rfl) ?_
  refine ax_iload_n d_S_symbol_11 rfl ?_
  refine ax_cV1 d_S_symbol_12 v_Sy_at lk_S_132 (by first | assumption | exact hH.g 0 rfl) (by decide) (Nat.le_of_ble_eq_true rfl) (cm_i (c_Sy_at hS hi) (fun z h2 hq => ?_))
  obtain ⟨rfl, rfl⟩ := hq
  refine ax_iret d_S_symbol_15 rfl ?_
  exact ⟨_, rfl, rfl, ⟨_, _, _, hP⟩, hF1⟩
def aCode (xs : List Int) (s w : Int) : Int := if ¬ (0 ≤ s ∧ s < (nT xs : Int)) ∨ w < 0 ∨ 1 < w then -1 else if w = 0 then lgR xs s.toNat else vlR xs s.toNat
theorem nT_le (xs : List Int) : nT xs ≤ 258 ∧ 2 ≤ nT xs := by have := lst_len xs; unfold nT; omega
set_option maxRecDepth 100000 in
theorem c_S_code {h0 : ax_H} {xs T out : List Int} {fp : Int} (hC : ClI h0 xs T out fp) {s w : Int} (hs : -2147483648 ≤ s ∧ s < 2147483648) (hw : -2147483648 ≤ w ∧ w < 2147483648) : ax_Ci m_S_code 5 [.ref 1, .int (iv s), .int (iv w)] h0 (fun z h1 => z = aCode xs s w ∧ ClI h1 xs T out fp ∧ Fr CLS h0 h1) := by
  have hC0 := hC
  obtain ⟨pf0, tf0, cf0, hH, -⟩ := hC0
  have hn := (nT_le xs).1
  refine ax_enter [some (.ref 1), some (.int (iv s)), some (.int (iv w)), none] rfl (Nat.le_of_ble_eq_true rfl) (by decide) ?_
  refine ax_aload_n d_S_code_0 rfl ?_
  refine ax_cV0 d_S_code_1 v_S_freshenCodes lk_S_125 (by first | assumption | exact hH.g 0 rfl) (by decide) (Nat.le_of_ble_eq_true rfl) (cm_v (c_S_freshenCodes hC) (fun h1 hq => ?_))
  obtain ⟨⟨pf, tf, hP⟩, hF1⟩ := hq
  have hH : SO h1 pf tf true := hP.1
  obtain ⟨hS, wt, lg, vl, bl, pl, hCd, hlg, hvl, hok⟩ := hP.2.2.2.2 rfl
  have c6 : h1[6]? = some (ob 1 [.ref 7, .ref 15, .ref 18, .ref 22, .ref 33, .ref 35, .ref 37]) := hP.2.1.2.2.2.1.1
  have c22 : h1[22]? = _ := hCd.g 0 rfl
  have bad : (¬ (0 ≤ s ∧ s < (nT xs : Int)) ∨ w < 0 ∨ 1 < w) → ax_W m_S_code 5 29 [some (.ref 1), some (.int (iv s)), some (.int (iv w)), some (.ref 22)] [] h1 (fun r0 h2 => ∃ z : Int, r0 = some (.int (iv z)) ∧ z = aCode xs s w ∧ ClI h2 xs T out fp ∧ Fr CLS h0 h2) := by
    intro hbad
    refine az_iconst d_S_code_29 ?_
    refine ax_iret d_S_code_30 rfl ?_
    exact ⟨_, rfl, by rw [aCode, if_pos hbad], ⟨_, _, _, hP⟩, hF1⟩
  refine ax_aload_n d_S_code_4 rfl ?_
  refine ax_get d_S_code_5 fg_S_24 (by first | assumption | exact hH.g 0 rfl) (by rfl) ?_
  refine ax_get d_S_code_8 fg_S_135 (by first | assumption | exact hH.g 0 rfl) (by rfl) ?_
  refine ax_astore_n d_S_code_11 (by decide) rfl ?_
  refine ax_aload_n d_S_code_12 rfl ?_
  refine ax_iload_n d_S_code_13 rfl ?_
  refine ax_cV1 d_S_code_14 v_Cd_has lk_S_139 (by first | assumption | exact hH.g 0 rfl) (by decide) (Nat.le_of_ble_eq_true rfl) (cm_z (c_Cd_has hCd hn hs) (fun b h2 hq => ?_))
  obtain ⟨rfl, rfl⟩ := hq
  refine az_if_eq 29 d_S_code_17 (by decide) (bz_in _) (fun hcb => ?_) (fun hcb => ?_)
  · exact bad (Or.inl (of_decide_eq_false (bz_f hcb)))
  · have hin := of_decide_eq_true (bz_t hcb)
    refine ax_iload_n d_S_code_20 rfl ?_
    refine az_if_lt 29 d_S_code_21 (by decide) (by first | exact bz_in _ | omega) (fun hc => ?_) (fun hc => ?_)
    · exact bad (by omega)
    · refine ax_iload_n d_S_code_24 rfl ?_
      refine az_iconst d_S_code_25 ?_
      refine az_icmp_le 31 d_S_code_26 (by decide) (by omega) (by omega) (fun hc => ?_) (fun hc => ?_)
      · have ea : aCode xs s w = if w = 0 then lgR xs s.toNat else vlR xs s.toNat := by
          unfold aCode
          rw [if_neg (by omega)]
        rw [ea]
        refine ax_iload_n d_S_code_31 rfl ?_
        refine az_if_ne 43 d_S_code_32 (by decide) (by first | exact bz_in _ | omega) (fun hw0 => ?_) (fun hw0 => ?_)
        · refine ax_aload_n d_S_code_43 rfl ?_
          refine ax_iload_n d_S_code_44 rfl ?_
          refine ax_cV1 d_S_code_45 v_Cd_valueOf lk_S_145 (by first | assumption | exact hH.g 0 rfl) (by decide) (Nat.le_of_ble_eq_true rfl) (cm_i (c_Cd_valueOf hCd hn hs) (fun z h3 hq => ?_))
          obtain ⟨rfl, rfl⟩ := hq
          refine ax_iret d_S_code_48 rfl ?_
          refine ⟨_, rfl, ?_, ⟨_, _, _, hP⟩, hF1⟩
          rw [if_pos hin, if_neg hw0]
          exact hvl _ (by omega)
        · refine ax_aload_n d_S_code_35 rfl ?_
          refine ax_iload_n d_S_code_36 rfl ?_
          refine ax_cV1 d_S_code_37 v_Cd_lengthOf lk_S_142 (by first | assumption | exact hH.g 0 rfl) (by decide) (Nat.le_of_ble_eq_true rfl) (cm_i (c_Cd_lengthOf hCd hn hs) (fun z h3 hq => ?_))
          obtain ⟨rfl, rfl⟩ := hq
          refine ax_goto 48 d_S_code_40 (by decide) ?_
          refine ax_iret d_S_code_48 rfl ?_
          refine ⟨_, rfl, ?_, ⟨_, _, _, hP⟩, hF1⟩
          rw [if_pos hin, if_pos hw0]
          exact hlg _ (by omega)
      · exact bad (by omega)
/-- the lengths of some symbols, together -/
def lsum (lg : Nat → Int) : List Int → Int
  | [] => 0
  | s :: t => lg s.toNat + lsum lg t
theorem lsum_snoc (lg : Nat → Int) : ∀ (a : List Int) (s : Int), lsum lg (a ++ [s]) = lsum lg a + lg s.toNat
  | [], s => by simp [lsum]
  | x :: t, s => by
    have := lsum_snoc lg t s
    show lg x.toNat + lsum lg (t ++ [s]) = lg x.toNat + lsum lg t + lg s.toNat
    omega
set_option maxRecDepth 100000 in
set_option maxHeartbeats 4000000 in
theorem c_S_bits {h0 : ax_H} {xs T out : List Int} {fp : Int} (hC : ClI h0 xs T out fp) : ax_Ci m_S_bits 5 [.ref 1] h0 (fun z h1 => z = lsum (lgR xs) (sy xs) ∧ ClI h1 xs T out fp ∧ Fr CLS h0 h1) := by
  have hC0 := hC
  obtain ⟨pf0, tf0, cf0, hH, -⟩ := hC0
  have hn := (nT_le xs).1
  refine ax_enter [some (.ref 1), none, none] rfl (Nat.le_of_ble_eq_true rfl) (by decide) ?_
  refine ax_aload_n d_S_bits_0 rfl ?_
  refine ax_cV0 d_S_bits_1 v_S_freshenCodes lk_S_125 (by first | assumption | exact hH.g 0 rfl) (by decide) (Nat.le_of_ble_eq_true rfl) (cm_v (c_S_freshenCodes hC) (fun h1 hq => ?_))
  obtain ⟨⟨pf, tf, hP⟩, hF1⟩ := hq
  have hH : SO h1 pf tf true := hP.1
  obtain ⟨hS, wt, lg, vl, bl, pl, hCd, hlg, hvl, hok⟩ := hP.2.2.2.2 rfl
  have c6 : h1[6]? = some (ob 1 [.ref 7, .ref 15, .ref 18, .ref 22, .ref 33, .ref 35, .ref 37]) := hP.2.1.2.2.2.1.1
  have c22 : h1[22]? = _ := hCd.g 0 rfl
  have c18 := hS.sz
  have hsl : (sy xs).length ≤ 901 := by obtain ⟨g, -, -, q⟩ := hS; exact q
  refine az_iconst d_S_bits_4 ?_
  refine ax_istore_n d_S_bits_5 (by decide) rfl ?_
  refine az_iconst d_S_bits_6 ?_
  refine ax_istore_n d_S_bits_7 (by decide) rfl ?_
  have key : ∀ (g i : Nat), i + g = (sy xs).length → ax_W m_S_bits 5 8 [some (.ref 1), some (.int (iv (lsum (lgR xs) ((sy xs).take i)))), some (.int (iv i))] [] h1 (fun r0 h2 => ∃ z : Int, r0 = some (.int (iv z)) ∧ z = lsum (lgR xs) (sy xs) ∧ ClI h2 xs T out fp ∧ Fr CLS h0 h2) := by
    intro g
    induction g with
    | zero =>
      intro i he
      refine ax_iload_n d_S_bits_8 rfl ?_
      refine ax_aload_n d_S_bits_9 rfl ?_
      refine ax_get d_S_bits_10 fg_S_24 (by first | assumption | exact hH.g 0 rfl) (by rfl) ?_
      refine ax_get d_S_bits_13 fg_S_128 (by first | assumption | exact hH.g 0 rfl) (by rfl) ?_
      refine ax_get d_S_bits_16 fg_S_148 (by first | assumption | exact hH.g 0 rfl) (by rfl) ?_
      refine az_icmp_ge 52 d_S_bits_19 (by decide) (by omega) (by omega) (fun hc => ?_) (fun hc => ?_)
      · refine ax_iload_n d_S_bits_52 rfl ?_
        refine ax_iret d_S_bits_53 rfl ?_
        exact ⟨_, rfl, by rw [List.take_of_length_le (by omega)], ⟨_, _, _, hP⟩, hF1⟩
      · exfalso
        omega
    | succ g ih =>
      intro i he
      have ih1 := ih (i + 1) (by omega)
      have hss := sy_in hP.2.1.2.1 (gx (sy xs) i) (inL_mem ⟨i, by omega, rfl⟩)
      have hss : 0 ≤ gx (sy xs) i ∧ gx (sy xs) i < ((nT xs : Nat) : Int) := hss
      have e1 : rAt (sy xs) i = gx (sy xs) i := by rw [rAt, if_pos (by omega)]; rfl
      have et : lsum (lgR xs) ((sy xs).take (i + 1)) = lsum (lgR xs) ((sy xs).take i) + lgR xs (gx (sy xs) i).toNat := by
        rw [← take_succ_getD (sy xs) (by omega), lsum_snoc]
      rw [et] at ih1
      refine ax_iload_n d_S_bits_8 rfl ?_
      refine ax_aload_n d_S_bits_9 rfl ?_
      refine ax_get d_S_bits_10 fg_S_24 (by first | assumption | exact hH.g 0 rfl) (by rfl) ?_
      refine ax_get d_S_bits_13 fg_S_128 (by first | assumption | exact hH.g 0 rfl) (by rfl) ?_
      refine ax_get d_S_bits_16 fg_S_148 (by first | assumption | exact hH.g 0 rfl) (by rfl) ?_
      refine az_icmp_ge 52 d_S_bits_19 (by decide) (by omega) (by omega) (fun hc => ?_) (fun hc => ?_)
      · exfalso
        omega
      · refine ax_iload_n d_S_bits_22 rfl ?_
        refine ax_aload_n d_S_bits_23 rfl ?_
        refine ax_get d_S_bits_24 fg_S_24 (by first | assumption | exact hH.g 0 rfl) (by rfl) ?_
        refine ax_get d_S_bits_27 fg_S_135 (by first | assumption | exact hH.g 0 rfl) (by rfl) ?_
        refine ax_aload_n d_S_bits_30 rfl ?_
        refine ax_get d_S_bits_31 fg_S_24 (by first | assumption | exact hH.g 0 rfl) (by rfl) ?_
        refine ax_get d_S_bits_34 fg_S_128 (by first | assumption | exact hH.g 0 rfl) (by rfl) ?_
        refine ax_iload_n d_S_bits_37 rfl ?_
        refine ax_cV1 d_S_bits_38 v_Sy_at lk_S_132 (by first | assumption | exact hH.g 0 rfl) (by decide) (Nat.le_of_ble_eq_true rfl) (cm_i (c_Sy_at hS (i := i) (by omega)) (fun z h2 hq => ?_))
        obtain ⟨rfl, rfl⟩ := hq
        rw [e1]
        refine ax_cV1 d_S_bits_41 v_Cd_lengthOf lk_S_142 (by first | assumption | exact hH.g 0 rfl) (by decide) (Nat.le_of_ble_eq_true rfl) (cm_i (c_Cd_lengthOf hCd hn (i := gx (sy xs) i) (by omega)) (fun z h2 hq => ?_))
        obtain ⟨rfl, rfl⟩ := hq
        rw [if_pos (by omega), hlg _ (by omega)]
        refine az_iadd d_S_bits_44 ?_
        refine ax_istore_n d_S_bits_45 (by decide) rfl ?_
        refine az_iinc d_S_bits_46 rfl (by decide) rfl ?_
        refine ax_goto 8 d_S_bits_49 (by decide) ?_
        exact ih1
  exact key (sy xs).length 0 (by omega)
theorem outT_ok (xs : List Int) (chk : Int) : Bs (outT xs chk) := (P0_ok (okB_app (okB_str xs chk) (okB_V 0 _))).1.2.2
set_option maxRecDepth 100000 in
theorem c_S_write {h0 : ax_H} {xs T out : List Int} {fp : Int} (hC : ClI h0 xs T out fp) : ax_Ci m_S_write 5 [.ref 1] h0 (fun z h1 => z = (outT (pk xs) (crc xs)).length ∧ ClI h1 xs T (outT (pk xs) (crc xs)) fp ∧ Fr CLS h0 h1) := by
  have hC0 := hC
  obtain ⟨pf0, tf0, cf0, hH, -⟩ := hC0
  refine ax_enter [some (.ref 1)] rfl (Nat.le_of_ble_eq_true rfl) (by decide) ?_
  refine ax_aload_n d_S_write_0 rfl ?_
  refine ax_cV0 d_S_write_1 v_S_freshenPack lk_S_71 (by first | assumption | exact hH.g 0 rfl) (by decide) (Nat.le_of_ble_eq_true rfl) (cm_v (c_S_freshenPack hC) (fun h1 hq => ?_))
  obtain ⟨⟨tf, cf, hH1, ⟨k1, k2, k3, ⟨b0, b1, b2, b3, b4, b5, b6, b7, b8, b9, b10⟩, k5, k6, k7, k8, f, k9⟩, hp, ht, hcf⟩, hF1⟩ := hq
  have hH : SO h1 true tf cf := hH1
  obtain ⟨p1, p2, p3⟩ := hp rfl
  have k5' := k5
  obtain ⟨st0, ⟨q39, -⟩, -⟩ := k5'
  have c39 : h1[39]? = _ := q39.g 0 rfl
  refine ax_aload_n d_S_write_4 rfl ?_
  refine ax_get d_S_write_5 fg_S_31 (by first | assumption | exact hH.g 0 rfl) (by rfl) ?_
  refine ax_aload_n d_S_write_8 rfl ?_
  refine ax_get d_S_write_9 fg_S_18 (by first | assumption | exact hH.g 0 rfl) (by rfl) ?_
  refine ax_aload_n d_S_write_12 rfl ?_
  refine ax_get d_S_write_13 fg_S_14 (by first | assumption | exact hH.g 0 rfl) (by rfl) ?_
  refine ax_cS1 d_S_write_16 s_S_checkOf lk_S_151 (by decide) (Nat.le_of_ble_eq_true rfl) (cm_i (c_S_checkOf k1) (fun z h2 hq => ?_))
  obtain ⟨rfl, rfl⟩ := hq
  refine ax_aload_n d_S_write_19 rfl ?_
  refine ax_get d_S_write_20 fg_S_24 (by first | assumption | exact hH.g 0 rfl) (by rfl) ?_
  refine ax_cV3 d_S_write_23 v_Sw_writeStream lk_S_155 (by first | assumption | exact hH.g 0 rfl) (by decide) (Nat.le_of_ble_eq_true rfl) (cm_v (c_Sw_writeStream b0 b1 b2 b4 b5 b6 b7 k5 p1 p2 p3 rfl rfl) (fun h3 hq => ?_))
  obtain ⟨w1, w2, w3, w4, w5, w6, w7, hF3⟩ := hq
  have hH : SO h3 true tf cf := hH.fr hF3 rfl
  have q0 : ClQ h3 xs T (outT (pk xs) (crc xs)) fp := ⟨k1.fr hF3 rfl rfl, k2, k3.fr hF3 rfl rfl, ⟨b0.fr hF3 rfl, w2, w3, b3.fr hF3 rfl, w4, w5, w6, w7, b8.fr hF3 rfl rfl, b9.fr hF3 rfl rfl, b10.fr hF3 rfl rfl⟩, w1, k6.fr hF3 rfl rfl, k7, k8.fr hF3 rfl rfl, f, k9.fr hF3 rfl⟩
  refine ax_aload_n d_S_write_26 rfl ?_
  refine ax_cV0 d_S_write_27 v_S_benchUsed lk_S_159 (by first | assumption | exact hH.g 0 rfl) (by decide) (Nat.le_of_ble_eq_true rfl) (cm_v (c_S_benchUsed hH) (fun h4 hq => ?_))
  have q4 := q0.fr1 hq.2
  have hH := hq.1
  obtain ⟨st, ⟨hs39, hs40, -⟩, hse⟩ := q4.2.2.2.2.1
  have c39 : h4[39]? = _ := hs39.g 0 rfl
  have hsz := hs40.sz
  rw [hse] at hsz
  refine ax_aload_n d_S_write_30 rfl ?_
  refine ax_get d_S_write_31 fg_S_31 (by first | assumption | exact hH.g 0 rfl) (by rfl) ?_
  refine ax_get d_S_write_34 fg_S_162 (by first | assumption | exact hH.g 0 rfl) (by rfl) ?_
  refine ax_get d_S_write_37 fg_S_60 (by first | assumption | exact hH.g 0 rfl) (by rfl) ?_
  refine ax_iret d_S_write_40 rfl ?_
  exact ⟨_, rfl, rfl, ⟨true, false, false, hq.1, q4, fun _ => ⟨(p1.fr hF3 rfl rfl).fr hq.2 rfl rfl, p2, p3⟩, (fun q => by cases q), (fun q => by cases q)⟩, (hF1.tr (hF3.wide rfl)).tr (hq.2.wide rfl)⟩
set_option maxRecDepth 100000 in
theorem c_S_out {h0 : ax_H} {xs T out : List Int} {fp : Int} (hC : ClI h0 xs T out fp) {i : Int} (hi : -2147483648 ≤ i ∧ i < 2147483648) : ax_Ci m_S_out 3 [.ref 1, .int (iv i)] h0 (fun z h1 => z = rAt out i ∧ ClI h1 xs T out fp ∧ Fr CLS h0 h1) := by
  have hC0 := hC
  obtain ⟨pf, tf, cf, hH, hQ, -⟩ := hC
  obtain ⟨st, ⟨hs39, hs40, -⟩, hse⟩ := hQ.2.2.2.2.1
  have c39 : h0[39]? = _ := hs39.g 0 rfl
  rw [hse] at hs40
  have hsz := hs40.sz
  refine ax_enter [some (.ref 1), some (.int (iv i))] rfl (Nat.le_of_ble_eq_true rfl) (by decide) ?_
  refine ax_aload_n d_S_out_0 rfl ?_
  refine ax_get d_S_out_1 fg_S_31 (by first | assumption | exact hH.g 0 rfl) (by rfl) ?_
  refine ax_get d_S_out_4 fg_S_162 (by first | assumption | exact hH.g 0 rfl) (by rfl) ?_
  refine ax_iload_n d_S_out_7 rfl ?_
  refine ax_cV1 d_S_out_8 v_Rw_at lk_S_67 (by first | assumption | exact hH.g 0 rfl) (by decide) (Nat.le_of_ble_eq_true rfl) (cm_i (c_Rw_at hs40 hi) (fun z h2 hq => ?_))
  obtain ⟨rfl, rfl⟩ := hq
  refine ax_iret d_S_out_11 rfl ?_
  exact ⟨_, rfl, rfl, hC0, Fr.rf⟩
set_option maxRecDepth 100000 in
theorem c_S_tape {h0 : ax_H} {xs T out : List Int} {fp : Int} (hC : ClI h0 xs T out fp) (x : Int64) {n : Int} (hn : -2147483648 ≤ n ∧ n < 2147483648) : ax_Ci m_S_tape 3 [.ref 1, .long x, .int (iv n)] h0 (fun z h1 => z = (aAdd 3000 T x n).1 ∧ ClI h1 xs (aAdd 3000 T x n).2 out fp ∧ Fr CLS h0 h1) := by
  have hC0 := hC
  obtain ⟨pf, tf, cf, hP⟩ := hC
  have hH := hP.1
  obtain ⟨f, pp, cc, oo, kk, hd, c42⟩ := hP.2.1.2.2.2.2.2.2.2.2
  have c42 : h0[42]? = _ := c42.g 0 rfl
  have k6 := hP.2.1.2.2.2.2.2.1
  have k7 := hP.2.1.2.2.2.2.2.2.1
  refine ax_enter [some (.ref 1), some (.long x), none, some (.int (iv n))] rfl (Nat.le_of_ble_eq_true rfl) (by decide) ?_
  refine ax_aload_n d_S_tape_0 rfl ?_
  refine ax_get d_S_tape_1 fg_S_38 (by first | assumption | exact hH.g 0 rfl) (by rfl) ?_
  refine ax_get d_S_tape_4 fg_S_165 (by first | assumption | exact hH.g 0 rfl) (by rfl) ?_
  refine ax_lload_n d_S_tape_7 rfl ?_
  refine ax_iload_n d_S_tape_8 rfl ?_
  refine ax_cS3 d_S_tape_9 s_S_addLowest lk_S_42 (by decide) (Nat.le_of_ble_eq_true rfl) (cm_i (c_S_addLowest k6 hn) (fun z h1 hq => ?_))
  unfold aAdd
  by_cases w1 : n < 1 ∨ 8 < n
  · rw [if_pos w1] at hq ⊢
    obtain ⟨rfl, rfl⟩ := hq
    refine ax_iret d_S_tape_12 rfl ?_
    exact ⟨_, rfl, rfl, hC0, Fr.rf⟩
  · rw [if_neg w1] at hq ⊢
    by_cases w2 : ((3000 : Nat) : Int) - T.length < n
    · rw [if_pos w2] at hq ⊢
      obtain ⟨rfl, rfl⟩ := hq
      refine ax_iret d_S_tape_12 rfl ?_
      exact ⟨_, rfl, rfl, hC0, Fr.rf⟩
    · rw [if_neg w2] at hq ⊢
      obtain ⟨rfl, q1, hF1⟩ := hq
      refine ax_iret d_S_tape_12 rfl ?_
      exact ⟨_, rfl, rfl, ⟨_, _, _, hP.tp hF1 q1 (Bs_app k7 (Bs_byL _ _))⟩, hF1.wide rfl⟩
set_option maxRecDepth 100000 in
theorem c_S_take {h0 : ax_H} {xs T out : List Int} {fp : Int} (hC : ClI h0 xs T out fp) : ax_Ci m_S_take 3 [.ref 1] h0 (fun z h1 => z = out.length ∧ ClI h1 xs out out fp ∧ Fr CLS h0 h1) := by
  obtain ⟨pf, tf, cf, hP⟩ := hC
  have hH := hP.1
  obtain ⟨f, pp, cc, oo, kk, hd, c42s⟩ := hP.2.1.2.2.2.2.2.2.2.2
  have c42 : h0[42]? = _ := c42s.g 0 rfl
  have k6 := hP.2.1.2.2.2.2.2.1
  obtain ⟨st, ⟨hs39, hs40, hokw⟩, hse⟩ := hP.2.1.2.2.2.2.1
  have hbo : Bs out := by rw [← hse]; exact hokw.2.2
  have c39 : h0[39]? = _ := hs39.g 0 rfl
  rw [hse] at hs40
  have hsz := k6.sz
  have hlo := hs40.lc
  refine ax_enter [some (.ref 1)] rfl (Nat.le_of_ble_eq_true rfl) (by decide) ?_
  refine ax_aload_n d_S_take_0 rfl ?_
  refine ax_get d_S_take_1 fg_S_38 (by first | assumption | exact hH.g 0 rfl) (by rfl) ?_
  refine ax_get d_S_take_4 fg_S_165 (by first | assumption | exact hH.g 0 rfl) (by rfl) ?_
  refine ax_aload_n d_S_take_7 rfl ?_
  refine ax_get d_S_take_8 fg_S_31 (by first | assumption | exact hH.g 0 rfl) (by rfl) ?_
  refine ax_get d_S_take_11 fg_S_162 (by first | assumption | exact hH.g 0 rfl) (by rfl) ?_
  refine ax_cV1 d_S_take_14 v_Rw_copyOf lk_S_109 (by first | assumption | exact hH.g 0 rfl) (by decide) (Nat.le_of_ble_eq_true rfl) (cm_v (c_Rw_copyOf k6 hs40 rfl rfl (by omega)) (fun h1 hq => ?_))
  obtain ⟨q1, hF1⟩ := hq
  have hH : SO h1 pf tf cf := hH.fr hF1 rfl
  have c42 : h1[42]? = _ := (Hs.fr c42s hF1 rfl).g 0 rfl
  have hsz := q1.sz
  refine ax_aload_n d_S_take_17 rfl ?_
  refine ax_get d_S_take_18 fg_S_38 (by first | assumption | exact hH.g 0 rfl) (by rfl) ?_
  refine ax_get d_S_take_21 fg_S_165 (by first | assumption | exact hH.g 0 rfl) (by rfl) ?_
  refine ax_get d_S_take_24 fg_S_60 (by first | assumption | exact hH.g 0 rfl) (by rfl) ?_
  refine ax_iret d_S_take_27 rfl ?_
  exact ⟨_, rfl, rfl, ⟨_, _, _, hP.tp hF1 q1 hbo⟩, hF1.wide rfl⟩
def aSpoil (T : List Int) (i m : Int) : Int × List Int := if ¬ (0 ≤ i ∧ i < (T.length : Int)) ∨ ¬ (0 ≤ m ∧ m < 256) then (-1, T) else (zxor (gx T i.toNat) m, T.set i.toNat (zxor (gx T i.toNat) m))
theorem zxor_256 {a b : Int} (ha : 0 ≤ a ∧ a < 256) (hb : 0 ≤ b ∧ b < 256) : 0 ≤ zxor a b ∧ zxor a b < 256 := by
  obtain ⟨m, rfl⟩ := Int.eq_ofNat_of_zero_le ha.1
  obtain ⟨n, rfl⟩ := Int.eq_ofNat_of_zero_le hb.1
  have hx : m ^^^ n < 2 ^ 8 := Nat.xor_lt_two_pow (by omega) (by omega)
  have e : zxor (m : Int) (n : Int) = ((m ^^^ n : Nat) : Int) := by
    unfold zxor
    rw [iv_nat, iv_nat]
    have e2 : nI m ^^^ nI n = nI (m ^^^ n) := by
      apply Int32.toBitVec_inj.mp
      apply BitVec.eq_of_getLsbD_eq
      intro i hi
      simp [nI, Nat.testBit_xor]
    rw [e2, toInt_nI (by omega)]
  rw [e]
  omega
theorem Bs_set {T : List Int} (h : Bs T) {i : Nat} {v : Int} (hv : 0 ≤ v ∧ v < 256) : Bs (T.set i v) := by
  intro j hj
  rw [List.length_set] at hj
  rw [List.getD_eq_getElem?_getD, List.getElem?_set]
  by_cases e : i = j
  · subst e
    rw [if_pos rfl, if_pos hj]
    exact hv
  · rw [if_neg e]
    have := h j hj
    rw [List.getD_eq_getElem?_getD] at this
    exact this
set_option maxRecDepth 100000 in
theorem c_S_spoil {h0 : ax_H} {xs T out : List Int} {fp : Int} (hC : ClI h0 xs T out fp) {i m : Int} (hi : -2147483648 ≤ i ∧ i < 2147483648) (hm : -2147483648 ≤ m ∧ m < 2147483648) : ax_Ci m_S_spoil 3 [.ref 1, .int (iv i), .int (iv m)] h0 (fun z h1 => z = (aSpoil T i m).1 ∧ ClI h1 xs (aSpoil T i m).2 out fp ∧ Fr CLS h0 h1) := by
  have hC0 := hC
  obtain ⟨pf, tf, cf, hP⟩ := hC
  have hH := hP.1
  obtain ⟨f, pp, cc, oo, kk, hd, c42s⟩ := hP.2.1.2.2.2.2.2.2.2.2
  have c42 : h0[42]? = _ := c42s.g 0 rfl
  have k6 := hP.2.1.2.2.2.2.2.1
  have k7 := hP.2.1.2.2.2.2.2.2.1
  have hsz := k6.sz
  have hlo := k6.lc
  unfold aSpoil
  have bad : (¬ (0 ≤ i ∧ i < (T.length : Int)) ∨ ¬ (0 ≤ m ∧ m < 256)) → ax_W m_S_spoil 3 21 [some (.ref 1), some (.int (iv i)), some (.int (iv m))] [] h0 (fun r0 h1 => ∃ z : Int, r0 = some (.int (iv z)) ∧ z = (if ¬ (0 ≤ i ∧ i < (T.length : Int)) ∨ ¬ (0 ≤ m ∧ m < 256) then (-1, T) else (zxor (gx T i.toNat) m, T.set i.toNat (zxor (gx T i.toNat) m))).1 ∧ ClI h1 xs (if ¬ (0 ≤ i ∧ i < (T.length : Int)) ∨ ¬ (0 ≤ m ∧ m < 256) then (-1, T) else (zxor (gx T i.toNat) m, T.set i.toNat (zxor (gx T i.toNat) m))).2 out fp ∧ Fr CLS h0 h1) := by
    intro hbad
    rw [if_pos hbad]
    refine az_iconst d_S_spoil_21 ?_
    refine ax_iret d_S_spoil_22 rfl ?_
    exact ⟨_, rfl, rfl, hC0, Fr.rf⟩
  refine ax_enter [some (.ref 1), some (.int (iv i)), some (.int (iv m))] rfl (Nat.le_of_ble_eq_true rfl) (by decide) ?_
  refine ax_aload_n d_S_spoil_0 rfl ?_
  refine ax_get d_S_spoil_1 fg_S_38 (by first | assumption | exact hH.g 0 rfl) (by rfl) ?_
  refine ax_get d_S_spoil_4 fg_S_165 (by first | assumption | exact hH.g 0 rfl) (by rfl) ?_
  refine ax_iload_n d_S_spoil_7 rfl ?_
  refine ax_cV1 d_S_spoil_8 v_Rw_has lk_S_99 (by first | assumption | exact hH.g 0 rfl) (by decide) (Nat.le_of_ble_eq_true rfl) (cm_z (c_Rw_has k6 hi) (fun b h1 hq => ?_))
  obtain ⟨rfl, rfl⟩ := hq
  refine az_if_eq 21 d_S_spoil_11 (by decide) (bz_in _) (fun hcb => ?_) (fun hcb => ?_)
  · exact bad (Or.inl (of_decide_eq_false (bz_f hcb)))
  · have hin := of_decide_eq_true (bz_t hcb)
    refine ax_iload_n d_S_spoil_14 rfl ?_
    refine ax_cS1 d_S_spoil_15 s_S_isByte lk_S_49 (by decide) (Nat.le_of_ble_eq_true rfl) (cm_z (c_S_isByte hm) (fun b h1 hq => ?_))
    obtain ⟨rfl, rfl⟩ := hq
    refine az_if_ne 23 d_S_spoil_18 (by decide) (bz_in _) (fun hcb => ?_) (fun hcb => ?_)
    · have hby := of_decide_eq_true (bz_t hcb)
      rw [if_neg (by omega)]
      refine ax_aload_n d_S_spoil_23 rfl ?_
      refine ax_get d_S_spoil_24 fg_S_38 (by first | assumption | exact hH.g 0 rfl) (by rfl) ?_
      refine ax_get d_S_spoil_27 fg_S_165 (by first | assumption | exact hH.g 0 rfl) (by rfl) ?_
      refine ax_iload_n d_S_spoil_30 rfl ?_
      refine ax_iload_n d_S_spoil_31 rfl ?_
      refine ax_cV2 d_S_spoil_32 v_Rw_joinWith lk_S_168 (by first | assumption | exact hH.g 0 rfl) (by decide) (Nat.le_of_ble_eq_true rfl) (cm_v (c_Rw_joinWith k6 (i := i) (m := m) hin) (fun h2 hq => ?_))
      obtain ⟨q1, hF1⟩ := hq
      have hH : SO h2 pf tf cf := hH.fr hF1 rfl
      have c42 : h2[42]? = _ := (Hs.fr c42s hF1 rfl).g 0 rfl
      have hsz := q1.sz
      have hbx := zxor_256 (gx_Bs k7 i.toNat) hby
      refine ax_aload_n d_S_spoil_35 rfl ?_
      refine ax_get d_S_spoil_36 fg_S_38 (by first | assumption | exact hH.g 0 rfl) (by rfl) ?_
      refine ax_get d_S_spoil_39 fg_S_165 (by first | assumption | exact hH.g 0 rfl) (by rfl) ?_
      refine ax_iload_n d_S_spoil_42 rfl ?_
      refine ax_cV1 d_S_spoil_43 v_Rw_at lk_S_67 (by first | assumption | exact hH.g 0 rfl) (by decide) (Nat.le_of_ble_eq_true rfl) (cm_i (c_Rw_at q1 hi) (fun z h3 hq => ?_))
      obtain ⟨rfl, rfl⟩ := hq
      refine ax_iret d_S_spoil_46 rfl ?_
      refine ⟨_, rfl, ?_, ⟨_, _, _, hP.tp hF1 q1 (Bs_set k7 hbx)⟩, hF1.wide rfl⟩
      rw [rAt, if_pos (by rw [List.length_set]; exact hin), List.getD_eq_getElem?_getD, List.getElem?_set, if_pos rfl, if_pos (by omega)]
      rfl
    · exact bad (Or.inr (of_decide_eq_false (bz_f hcb)))
def aCut (T : List Int) (n : Int) : Int × List Int := if n < 0 ∨ (T.length : Int) < n then (-1, T) else (T.length, T.take n.toNat)
theorem Bs_take {T : List Int} (h : Bs T) (n : Nat) : Bs (T.take n) := by
  intro i hi
  rw [List.length_take] at hi
  rw [List.getD_eq_getElem?_getD, List.getElem?_take, if_pos (by omega)]
  have := h i (by omega)
  rw [List.getD_eq_getElem?_getD] at this
  exact this
set_option maxRecDepth 100000 in
theorem c_S_cut {h0 : ax_H} {xs T out : List Int} {fp : Int} (hC : ClI h0 xs T out fp) {n : Int} (hn : -2147483648 ≤ n ∧ n < 2147483648) : ax_Ci m_S_cut 3 [.ref 1, .int (iv n)] h0 (fun z h1 => z = (aCut T n).1 ∧ ClI h1 xs (aCut T n).2 out fp ∧ Fr CLS h0 h1) := by
  have hC0 := hC
  obtain ⟨pf, tf, cf, hP⟩ := hC
  have hH := hP.1
  obtain ⟨f, pp, cc, oo, kk, hd, c42s⟩ := hP.2.1.2.2.2.2.2.2.2.2
  have c42 : h0[42]? = _ := c42s.g 0 rfl
  have k6 := hP.2.1.2.2.2.2.2.1
  have k7 := hP.2.1.2.2.2.2.2.2.1
  have hsz := k6.sz
  have hlo := k6.lc
  unfold aCut
  refine ax_enter [some (.ref 1), some (.int (iv n)), none] rfl (Nat.le_of_ble_eq_true rfl) (by decide) ?_
  refine ax_aload_n d_S_cut_0 rfl ?_
  refine ax_get d_S_cut_1 fg_S_38 (by first | assumption | exact hH.g 0 rfl) (by rfl) ?_
  refine ax_get d_S_cut_4 fg_S_165 (by first | assumption | exact hH.g 0 rfl) (by rfl) ?_
  refine ax_get d_S_cut_7 fg_S_60 (by first | assumption | exact hH.g 0 rfl) (by rfl) ?_
  refine ax_istore_n d_S_cut_10 (by decide) rfl ?_
  refine ax_iload_n d_S_cut_11 rfl ?_
  refine az_if_lt 20 d_S_cut_12 (by decide) (by first | exact bz_in _ | omega) (fun hc => ?_) (fun hc => ?_)
  · rw [if_pos (by omega)]
    refine az_iconst d_S_cut_20 ?_
    refine ax_iret d_S_cut_21 rfl ?_
    exact ⟨_, rfl, rfl, hC0, Fr.rf⟩
  · refine ax_iload_n d_S_cut_15 rfl ?_
    refine ax_iload_n d_S_cut_16 rfl ?_
    refine az_icmp_le 22 d_S_cut_17 (by decide) (by omega) (by omega) (fun hc => ?_) (fun hc => ?_)
    · rw [if_neg (by omega)]
      refine ax_aload_n d_S_cut_22 rfl ?_
      refine ax_get d_S_cut_23 fg_S_38 (by first | assumption | exact hH.g 0 rfl) (by rfl) ?_
      refine ax_get d_S_cut_26 fg_S_165 (by first | assumption | exact hH.g 0 rfl) (by rfl) ?_
      refine ax_iload_n d_S_cut_29 rfl ?_
      refine ax_cV1 d_S_cut_30 v_Rw_shorten lk_S_64 (by first | assumption | exact hH.g 0 rfl) (by decide) (Nat.le_of_ble_eq_true rfl) (cm_v (c_Rw_shorten k6 hn) (fun h1 hq => ?_))
      obtain ⟨q1, hF1⟩ := hq
      rw [if_pos (by omega)] at q1
      refine ax_iload_n d_S_cut_33 rfl ?_
      refine ax_iret d_S_cut_34 rfl ?_
      exact ⟨_, rfl, rfl, ⟨_, _, _, hP.tp hF1 q1 (Bs_take k7 _)⟩, hF1.wide rfl⟩
    · rw [if_pos (by omega)]
      refine az_iconst d_S_cut_20 ?_
      refine ax_iret d_S_cut_21 rfl ?_
      exact ⟨_, rfl, rfl, hC0, Fr.rf⟩
set_option maxRecDepth 100000 in
theorem c_S_faultAt {h0 : ax_H} {xs T out : List Int} {fp : Int} (hC : ClI h0 xs T out fp) : ax_Ci m_S_faultAt 3 [.ref 1] h0 (fun z h1 => z = fp ∧ ClI h1 xs T out fp ∧ Fr CLS h0 h1) := by
  have hC0 := hC
  obtain ⟨pf, tf, cf, hP⟩ := hC
  have hH := hP.1
  obtain ⟨f, pp, cc, oo, kk, hd, c42s⟩ := hP.2.1.2.2.2.2.2.2.2.2
  have c42 : h0[42]? = _ := c42s.g 0 rfl
  refine ax_enter [some (.ref 1)] rfl (Nat.le_of_ble_eq_true rfl) (by decide) ?_
  refine ax_aload_n d_S_faultAt_0 rfl ?_
  refine ax_get d_S_faultAt_1 fg_S_38 (by first | assumption | exact hH.g 0 rfl) (by rfl) ?_
  refine ax_get d_S_faultAt_4 fg_S_181 (by first | assumption | exact hH.g 0 rfl) (by rfl) ?_
  refine ax_iret d_S_faultAt_7 rfl ?_
  exact ⟨_, rfl, rfl, hC0, Fr.rf⟩
set_option maxRecDepth 100000 in
theorem c_S_check {h0 : ax_H} {xs T out : List Int} {fp : Int} (hC : ClI h0 xs T out fp) : ax_Ci m_S_check 3 [.ref 1] h0 (fun z h1 => z = crc xs ∧ ClI h1 xs T out fp ∧ Fr CLS h0 h1) := by
  have hC0 := hC
  obtain ⟨pf, tf, cf, hP⟩ := hC
  have hH := hP.1
  have k1 := hP.2.1.1
  refine ax_enter [some (.ref 1)] rfl (Nat.le_of_ble_eq_true rfl) (by decide) ?_
  refine ax_aload_n d_S_check_0 rfl ?_
  refine ax_get d_S_check_1 fg_S_14 (by first | assumption | exact hH.g 0 rfl) (by rfl) ?_
  refine ax_cS1 d_S_check_4 s_S_checkOf lk_S_151 (by decide) (Nat.le_of_ble_eq_true rfl) (cm_i (c_S_checkOf k1) (fun z h1 hq => ?_))
  obtain ⟨rfl, rfl⟩ := hq
  refine ax_iret d_S_check_7 rfl ?_
  exact ⟨_, rfl, rfl, hC0, Fr.rf⟩
def aRead (xs T : List Int) : Int × List Int × Int := match rdT T with
  | .inl e => (-10 - e.1, xs, e.2)
  | .inr u => (u.length, u, -2)
theorem rdFin_ok {T row u : List Int} {o k p : Nat} (hb : Bs row) (ho : o < row.length ∨ (o = 0 ∧ row.length = 0)) (h : rdFin T o k row p = .inr u) : Bs u ∧ u.length ≤ 600 := by
  unfold rdFin at h
  split at h
  · cases h
  · split at h
    · cases h
    · rename_i v hv
      split at h
      · cases h
      · split at h
        · cases h
        · split at h
          · cases h
            exact upT_ok (Bs_gbT hb ho) hv
          · cases h
theorem rdHead_ok {T : List Int} {q : Nat × Nat × Nat} (h : rdHead T = .inr q) : q.1 ≤ 900 ∧ (q.2.1 < q.1 ∨ (q.2.1 = 0 ∧ q.1 = 0)) ∧ 80 ≤ 8 * T.length := by
  unfold rdHead at h
  split at h
  · cases h
  · split at h
    · cases h
    · split at h
      · cases h
      · split at h
        · cases h
        · split at h
          · cases h
          · split at h
            · cases h
            · split at h
              · cases h
              · cases h
                refine ⟨by show tv T 16 16 ≤ 900; omega, ?_, by omega⟩
                show tv T 16 32 < tv T 16 16 ∨ (tv T 16 32 = 0 ∧ tv T 16 16 = 0)
                omega
theorem rdT_ok {T u : List Int} (h : rdT T = .inr u) : Bs u ∧ u.length ≤ 600 := by
  unfold rdT at h
  split at h
  · cases h
  · rename_i q hq
    have h1 := rdHead_ok hq
    split at h
    · rename_i h2
      exact rdFin_ok Bs_nil (by simp; omega) h
    · split at h
      · cases h
      · rename_i l hl
        have h3 := rdList_ok (l := l.1) (p' := l.2) hl
        split at h
        · cases h
        · split at h
          · cases h
          · rename_i r hr
            have h4 := rdR_ok _ _ _ _ _ _ (okL_Bs h3.1 (Nat.le_refl _)) (List.length_pos_iff.mpr h3.2.2) Bs_nil (by omega) (by simp) hr
            exact rdFin_ok h4.1 (by omega) h
set_option maxRecDepth 100000 in
theorem c_S_read {h0 : ax_H} {xs T out : List Int} {fp : Int} (hC : ClI h0 xs T out fp) : ax_Ci m_S_read 6 [.ref 1] h0 (fun z h1 => z = (aRead xs T).1 ∧ ClI h1 (aRead xs T).2.1 [] out (aRead xs T).2.2 ∧ Fr CLS h0 h1) := by
  obtain ⟨pf, tf, cf, hH, ⟨k1, k2, k3, k4, k5, k6, k7, k8, f, k9⟩, hp, ht, hcf⟩ := hC
  obtain ⟨pp, cc, oo, kk, hd, c42s⟩ := k9
  have c42 : h0[42]? = _ := c42s.g 0 rfl
  refine ax_enter [some (.ref 1), none] rfl (Nat.le_of_ble_eq_true rfl) (by decide) ?_
  refine ax_aload_n d_S_read_0 rfl ?_
  refine ax_get d_S_read_1 fg_S_38 (by first | assumption | exact hH.g 0 rfl) (by rfl) ?_
  refine ax_aload_n d_S_read_4 rfl ?_
  refine ax_get d_S_read_5 fg_S_24 (by first | assumption | exact hH.g 0 rfl) (by rfl) ?_
  refine ax_cV1 d_S_read_8 v_Sr_readStream lk_S_171 (by first | assumption | exact hH.g 0 rfl) (by decide) (Nat.le_of_ble_eq_true rfl) (cm_z (c_Sr_readStream c42s k6 k7 k8 k4) (fun b h1 hq => ?_))
  obtain ⟨hF1, hB1, hLa1, hq⟩ := hq
  have hH : SO h1 pf tf cf := hH.fr hF1 rfl
  have k1' := k1.fr hF1 rfl rfl
  have k3' := k3.fr hF1 rfl rfl
  have k5' := k5.fr hF1 rfl
  have k6' := k6.fr hF1 rfl rfl
  refine ax_istore_n d_S_read_11 (by decide) rfl ?_
  refine ax_aload_n d_S_read_12 rfl ?_
  refine ax_cV0 d_S_read_13 v_S_benchUsed lk_S_159 (by first | assumption | exact hH.g 0 rfl) (by decide) (Nat.le_of_ble_eq_true rfl) (cm_v (c_S_benchUsed hH) (fun h2 hu => ?_))
  obtain ⟨hH2, hF2⟩ := hu
  have hH := hH2
  have k62 := k6'.fr hF2 rfl rfl
  have hsz := k62.sz
  unfold aRead
  cases hT : rdT T with
  | inl e =>
    rw [hT] at hq
    obtain ⟨rfl, hE⟩ := hq
    have hE2 := hE.fr hF2 rfl
    obtain ⟨pp2, cc2, oo2, kk2, hd2, c42t⟩ := hE2
    have c42 : h2[42]? = _ := c42t.g 0 rfl
    refine ax_aload_n d_S_read_16 rfl ?_
    refine ax_get d_S_read_17 fg_S_38 (by first | assumption | exact hH.g 0 rfl) (by rfl) ?_
    refine ax_get d_S_read_20 fg_S_165 (by first | assumption | exact hH.g 0 rfl) (by rfl) ?_
    refine az_iconst d_S_read_23 ?_
    refine ax_cV1 d_S_read_24 v_Rw_shorten lk_S_64 (by first | assumption | exact hH.g 0 rfl) (by decide) (Nat.le_of_ble_eq_true rfl) (cm_v (c_Rw_shorten k62 (n := 0) (by omega)) (fun h3 hs => ?_))
    obtain ⟨k63, hF3⟩ := hs
    have k63 : Rw h3 43 44 3000 [] := k63
    have hH : SO h3 pf false false := hH.fr hF3 rfl
    have c42 : h3[42]? = _ := (Hs.fr c42t hF3 rfl).g 0 rfl
    have hF12 : Fr [1, 43, 44] h1 h3 := (hF2.wide rfl).tr (hF3.wide rfl)
    refine ax_iload_n d_S_read_27 rfl ?_
    refine az_if_ne 42 d_S_read_28 (by decide) (by first | exact bz_in _ | omega) (fun hx => ?_) (fun hx => ?_)
    · exact absurd rfl hx
    · refine az_bipush _ d_S_read_31 (by decide) ?_
      refine ax_aload_n d_S_read_33 rfl ?_
      refine ax_get d_S_read_34 fg_S_38 (by first | assumption | exact hH.g 0 rfl) (by rfl) ?_
      refine ax_get d_S_read_37 fg_S_175 (by first | assumption | exact hH.g 0 rfl) (by rfl) ?_
      refine az_isub d_S_read_40 ?_
      refine ax_iret d_S_read_41 rfl ?_
      refine ⟨_, rfl, rfl, ⟨pf, false, false, hH, ⟨k1'.fr hF12 rfl rfl, k2, k3'.fr hF12 rfl rfl, hB1.fr hF12 rfl, k5'.fr hF12 rfl, k63, Bs_nil, hLa1.fr hF12 rfl rfl, e.1, ⟨_, _, _, _, _, Hs.fr c42t hF3 rfl⟩⟩, fun q => ⟨((hp q).1.fr hF1 rfl rfl).fr hF12 rfl rfl, (hp q).2⟩, (fun q => by cases q), (fun q => by cases q)⟩, (hF1.wide rfl).tr (hF12.wide rfl)⟩
  | inr u =>
    rw [hT] at hq
    obtain ⟨rfl, hE, hU⟩ := hq
    have hE2 := hE.fr hF2 rfl
    obtain ⟨pp2, cc2, oo2, kk2, hd2, c42t⟩ := hE2
    have c42 : h2[42]? = _ := c42t.g 0 rfl
    have hbu := rdT_ok hT
    refine ax_aload_n d_S_read_16 rfl ?_
    refine ax_get d_S_read_17 fg_S_38 (by first | assumption | exact hH.g 0 rfl) (by rfl) ?_
    refine ax_get d_S_read_20 fg_S_165 (by first | assumption | exact hH.g 0 rfl) (by rfl) ?_
    refine az_iconst d_S_read_23 ?_
    refine ax_cV1 d_S_read_24 v_Rw_shorten lk_S_64 (by first | assumption | exact hH.g 0 rfl) (by decide) (Nat.le_of_ble_eq_true rfl) (cm_v (c_Rw_shorten k62 (n := 0) (by omega)) (fun h3 hs => ?_))
    obtain ⟨k63, hF3⟩ := hs
    have k63 : Rw h3 43 44 3000 [] := k63
    have hH : SO h3 pf false false := hH.fr hF3 rfl
    have hF12 : Fr [1, 43, 44] h1 h3 := (hF2.wide rfl).tr (hF3.wide rfl)
    have q0 : ClQ h3 xs [] out (-2) := ⟨k1'.fr hF12 rfl rfl, k2, k3'.fr hF12 rfl rfl, hB1.fr hF12 rfl, k5'.fr hF12 rfl, k63, Bs_nil, hLa1.fr hF12 rfl rfl, 0, ⟨_, _, _, _, _, Hs.fr c42t hF3 rfl⟩⟩
    have hU3 := hU.fr hF12 rfl rfl
    have c6 : h3[6]? = some (ob 1 [.ref 7, .ref 15, .ref 18, .ref 22, .ref 33, .ref 35, .ref 37]) := q0.2.2.2.1.1
    have hsz2 := q0.1.sz
    refine ax_iload_n d_S_read_27 rfl ?_
    refine az_if_ne 42 d_S_read_28 (by decide) (by first | exact bz_in _ | omega) (fun hx => ?_) (fun hx => ?_)
    · refine ax_aload_n d_S_read_42 rfl ?_
      refine ax_get d_S_read_43 fg_S_14 (by first | assumption | exact hH.g 0 rfl) (by rfl) ?_
      refine ax_aload_n d_S_read_46 rfl ?_
      refine ax_get d_S_read_47 fg_S_24 (by first | assumption | exact hH.g 0 rfl) (by rfl) ?_
      refine ax_get d_S_read_50 fg_S_178 (by first | assumption | exact hH.g 0 rfl) (by rfl) ?_
      refine ax_cV1 d_S_read_53 v_Rw_copyOf lk_S_109 (by first | assumption | exact hH.g 0 rfl) (by decide) (Nat.le_of_ble_eq_true rfl) (cm_v (c_Rw_copyOf q0.1 hU3 rfl rfl hbu.2) (fun h4 hs => ?_))
      obtain ⟨k14, hF4⟩ := hs
      have q4 := q0.blk hF4 k14 hbu.1
      have hH : SO h4 pf false false := hH.fr hF4 rfl
      refine ax_aload_n d_S_read_56 rfl ?_
      refine ax_cV0 d_S_read_57 v_S_blockChanged lk_S_46 (by first | assumption | exact hH.g 0 rfl) (by decide) (Nat.le_of_ble_eq_true rfl) (cm_v (c_S_blockChanged hH) (fun h5 hs => ?_))
      have q5 := q4.fr1 hs.2
      have hH := hs.1
      have hsz := q5.1.sz
      refine ax_aload_n d_S_read_60 rfl ?_
      refine ax_get d_S_read_61 fg_S_14 (by first | assumption | exact hH.g 0 rfl) (by rfl) ?_
      refine ax_get d_S_read_64 fg_S_60 (by first | assumption | exact hH.g 0 rfl) (by rfl) ?_
      refine ax_iret d_S_read_67 rfl ?_
      exact ⟨_, rfl, rfl, ClI.none hs.1 q5, (((hF1.wide rfl).tr (hF12.wide rfl)).tr (hF4.wide rfl)).tr (hs.2.wide rfl)⟩
    · exact absurd hx (by decide)
