/-! SortTransform: its calls on the block -/
theorem Bs_byL (x : Int64) (n : Nat) : Bs (byL x n) := by
  intro i hi
  rw [byL_len] at hi
  rw [byL, mk_at hi]
  exact byN_in x i
theorem Bs_app {a b : List Int} (ha : Bs a) (hb : Bs b) : Bs (a ++ b) := by
  intro i hi
  rw [List.length_append] at hi
  rw [List.getD_eq_getElem?_getD, List.getElem?_append]
  split
  · have := ha i (by omega)
    rw [List.getD_eq_getElem?_getD] at this
    exact this
  · have := hb (i - a.length) (by omega)
    rw [List.getD_eq_getElem?_getD] at this
    exact this
def aAdd (cap : Nat) (xs : List Int) (x : Int64) (n : Int) : Int × List Int := if n < 1 ∨ 8 < n then (-1, xs) else if (cap : Int) - xs.length < n then (-3, xs) else (xs.length + n, xs ++ byL x n.toNat)
set_option maxRecDepth 100000 in
theorem c_S_feed {h0 : ax_H} {xs T out : List Int} {fp : Int} (hC : ClI h0 xs T out fp) (x : Int64) {n : Int} (hn : -2147483648 ≤ n ∧ n < 2147483648) : ax_Ci m_S_feed 3 [.ref 1, .long x, .int (iv n)] h0 (fun z h1 => z = (aAdd 600 xs x n).1 ∧ ClI h1 (aAdd 600 xs x n).2 T out fp ∧ Fr CLS h0 h1) := by
  have hC0 := hC
  obtain ⟨pf, tf, cf, hH, ⟨k1, k2, k3, k4, k5, k6, k7, k8, f, k9⟩, hp, ht, hcf⟩ := hC
  have hl := k1.lc
  refine ax_enter [some (.ref 1), some (.long x), none, some (.int (iv n)), none] rfl (Nat.le_of_ble_eq_true rfl) (by decide) ?_
  refine ax_aload_n d_S_feed_0 rfl ?_
  refine ax_get d_S_feed_1 fg_S_14 (by first | assumption | exact hH.g 0 rfl) (by rfl) ?_
  refine ax_lload_n d_S_feed_4 rfl ?_
  refine ax_iload_n d_S_feed_5 rfl ?_
  refine ax_cS3 d_S_feed_6 s_S_addLowest lk_S_42 (by decide) (Nat.le_of_ble_eq_true rfl) (cm_i (c_S_addLowest k1 hn) (fun z h1 hq => ?_))
  unfold aAdd
  by_cases w1 : n < 1 ∨ 8 < n
  · rw [if_pos w1] at hq ⊢
    obtain ⟨rfl, rfl⟩ := hq
    refine ax_istore d_S_feed_9 (by decide) rfl ?_
    refine ax_iload d_S_feed_11 rfl ?_
    refine az_if_le 20 d_S_feed_13 (by decide) (by first | exact bz_in _ | omega) (fun hc => ?_) (fun hc => ?_)
    · refine ax_iload d_S_feed_20 rfl ?_
      refine ax_iret d_S_feed_22 rfl ?_
      exact ⟨_, rfl, rfl, hC0, Fr.rf⟩
    · exfalso
      omega
  · rw [if_neg w1] at hq ⊢
    by_cases w2 : ((600 : Nat) : Int) - xs.length < n
    · rw [if_pos w2] at hq ⊢
      obtain ⟨rfl, rfl⟩ := hq
      refine ax_istore d_S_feed_9 (by decide) rfl ?_
      refine ax_iload d_S_feed_11 rfl ?_
      refine az_if_le 20 d_S_feed_13 (by decide) (by first | exact bz_in _ | omega) (fun hc => ?_) (fun hc => ?_)
      · refine ax_iload d_S_feed_20 rfl ?_
        refine ax_iret d_S_feed_22 rfl ?_
        exact ⟨_, rfl, rfl, hC0, Fr.rf⟩
      · exfalso
        omega
    · rw [if_neg w2] at hq ⊢
      obtain ⟨rfl, q1, hF1⟩ := hq
      have hH : SO h1 pf tf cf := hH.fr hF1 rfl
      have q0 : ClQ h1 (xs ++ byL x n.toNat) T out fp := ⟨q1, Bs_app k2 (Bs_byL _ _), k3.fr hF1 rfl rfl, k4.fr hF1 rfl, k5.fr hF1 rfl, k6.fr hF1 rfl rfl, k7, k8.fr hF1 rfl rfl, f, k9.fr hF1 rfl⟩
      refine ax_istore d_S_feed_9 (by decide) rfl ?_
      refine ax_iload d_S_feed_11 rfl ?_
      refine az_if_le 20 d_S_feed_13 (by decide) (by first | exact bz_in _ | omega) (fun hc => ?_) (fun hc => ?_)
      · exfalso
        omega
      · refine ax_aload_n d_S_feed_16 rfl ?_
        refine ax_cV0 d_S_feed_17 v_S_blockChanged lk_S_46 (by first | assumption | exact hH.g 0 rfl) (by decide) (Nat.le_of_ble_eq_true rfl) (cm_v (c_S_blockChanged hH) (fun h2 hq => ?_))
        refine ax_iload d_S_feed_20 rfl ?_
        refine ax_iret d_S_feed_22 rfl ?_
        exact ⟨_, rfl, rfl, ClI.none hq.1 (q0.fr1 hq.2), (hF1.wide rfl).tr (hq.2.wide rfl)⟩
def aFill (xs : List Int) (n b : Int) : Int × List Int := if n < 1 ∨ 600 < n ∨ ¬ (0 ≤ b ∧ b < 256) then (-1, xs) else if 600 - (xs.length : Int) < n then (-3, xs) else (xs.length + n, xs ++ List.replicate n.toNat b)
set_option maxRecDepth 100000 in
theorem c_S_fill {h0 : ax_H} {xs T out : List Int} {fp : Int} (hC : ClI h0 xs T out fp) {n b : Int} (hn : -2147483648 ≤ n ∧ n < 2147483648) (hb : -2147483648 ≤ b ∧ b < 2147483648) : ax_Ci m_S_fill 3 [.ref 1, .int (iv n), .int (iv b)] h0 (fun z h1 => z = (aFill xs n b).1 ∧ ClI h1 (aFill xs n b).2 T out fp ∧ Fr CLS h0 h1) := by
  have hC0 := hC
  obtain ⟨pf, tf, cf, hH, ⟨k1, k2, k3, k4, k5, k6, k7, k8, f, k9⟩, hp, ht, hcf⟩ := hC
  have hl := k1.lc
  have hsz := k1.sz
  unfold aFill
  have bad : n < 1 ∨ 600 < n ∨ ¬ (0 ≤ b ∧ b < 256) → ax_W m_S_fill 3 19 [some (.ref 1), some (.int (iv n)), some (.int (iv b))] [] h0 (fun r0 h1 => ∃ z : Int, r0 = some (.int (iv z)) ∧ z = (if n < 1 ∨ 600 < n ∨ ¬ (0 ≤ b ∧ b < 256) then ((-1 : Int), xs) else if 600 - (xs.length : Int) < n then (-3, xs) else (xs.length + n, xs ++ List.replicate n.toNat b)).1 ∧ ClI h1 (if n < 1 ∨ 600 < n ∨ ¬ (0 ≤ b ∧ b < 256) then ((-1 : Int), xs) else if 600 - (xs.length : Int) < n then (-3, xs) else (xs.length + n, xs ++ List.replicate n.toNat b)).2 T out fp ∧ Fr CLS h0 h1) := by
    intro hbad
    rw [if_pos hbad]
    refine az_iconst d_S_fill_19 ?_
    refine ax_iret d_S_fill_20 rfl ?_
    exact ⟨_, rfl, rfl, hC0, Fr.rf⟩
  refine ax_enter [some (.ref 1), some (.int (iv n)), some (.int (iv b))] rfl (Nat.le_of_ble_eq_true rfl) (by decide) ?_
  refine ax_iload_n d_S_fill_0 rfl ?_
  refine az_iconst d_S_fill_1 ?_
  refine az_icmp_lt 19 d_S_fill_2 (by decide) (by omega) (by omega) (fun hc => ?_) (fun hc => ?_)
  · exact bad (by omega)
  · refine ax_iload_n d_S_fill_5 rfl ?_
    refine az_sipush _ d_S_fill_6 (by decide) ?_
    refine az_icmp_gt 19 d_S_fill_9 (by decide) (by omega) (by omega) (fun hc => ?_) (fun hc => ?_)
    · exact bad (by omega)
    · refine ax_iload_n d_S_fill_12 rfl ?_
      refine ax_cS1 d_S_fill_13 s_S_isByte lk_S_49 (by decide) (Nat.le_of_ble_eq_true rfl) (cm_z (c_S_isByte hb) (fun bb h1 hq => ?_))
      obtain ⟨rfl, rfl⟩ := hq
      refine az_if_ne 21 d_S_fill_16 (by decide) (bz_in _) (fun hcb => ?_) (fun hcb => ?_)
      · have hby := of_decide_eq_true (bz_t hcb)
        rw [if_neg (by omega)]
        refine ax_aload_n d_S_fill_21 rfl ?_
        refine ax_get d_S_fill_22 fg_S_14 (by first | assumption | exact hH.g 0 rfl) (by rfl) ?_
        refine ax_iload_n d_S_fill_25 rfl ?_
        refine ax_cV1 d_S_fill_26 v_Rw_hasRoom lk_S_53 (by first | assumption | exact hH.g 0 rfl) (by decide) (Nat.le_of_ble_eq_true rfl) (cm_z (c_Rw_hasRoom k1 hn) (fun bb h2 hq => ?_))
        obtain ⟨rfl, rfl⟩ := hq
        refine az_if_ne 35 d_S_fill_29 (by decide) (bz_in _) (fun hcb => ?_) (fun hcb => ?_)
        · have hroom := of_decide_eq_true (bz_t hcb)
          rw [if_neg (by omega)]
          refine ax_aload_n d_S_fill_35 rfl ?_
          refine ax_get d_S_fill_36 fg_S_14 (by first | assumption | exact hH.g 0 rfl) (by rfl) ?_
          refine ax_iload_n d_S_fill_39 rfl ?_
          refine ax_iload_n d_S_fill_40 rfl ?_
          refine ax_cV2 d_S_fill_41 v_Rw_addMany lk_S_56 (by first | assumption | exact hH.g 0 rfl) (by decide) (Nat.le_of_ble_eq_true rfl) (cm_v (c_Rw_addMany k1 b hn) (fun h3 hq => ?_))
          obtain ⟨q1, hF1⟩ := hq
          rw [raddN_eq _ _ (by omega)] at q1
          have hH : SO h3 pf tf cf := hH.fr hF1 rfl
          have q0 : ClQ h3 (xs ++ List.replicate n.toNat b) T out fp := ⟨q1, Bs_rep k2 hby _, k3.fr hF1 rfl rfl, k4.fr hF1 rfl, k5.fr hF1 rfl, k6.fr hF1 rfl rfl, k7, k8.fr hF1 rfl rfl, f, k9.fr hF1 rfl⟩
          refine ax_aload_n d_S_fill_44 rfl ?_
          refine ax_cV0 d_S_fill_45 v_S_blockChanged lk_S_46 (by first | assumption | exact hH.g 0 rfl) (by decide) (Nat.le_of_ble_eq_true rfl) (cm_v (c_S_blockChanged hH) (fun h4 hq => ?_))
          have q4 := q0.fr1 hq.2
          have hH := hq.1
          have hsz := q4.1.sz
          refine ax_aload_n d_S_fill_48 rfl ?_
          refine ax_get d_S_fill_49 fg_S_14 (by first | assumption | exact hH.g 0 rfl) (by rfl) ?_
          refine ax_get d_S_fill_52 fg_S_60 (by first | assumption | exact hH.g 0 rfl) (by rfl) ?_
          refine ax_iret d_S_fill_55 rfl ?_
          refine ⟨_, rfl, ?_, ClI.none hq.1 q4, (hF1.wide rfl).tr (hq.2.wide rfl)⟩
          rw [List.length_append, List.length_replicate]
          show _ = (xs.length : Int) + n
          omega
        · have hroom := of_decide_eq_false (bz_f hcb)
          rw [if_pos (by omega)]
          refine az_bipush _ d_S_fill_32 (by decide) ?_
          refine ax_iret d_S_fill_34 rfl ?_
          exact ⟨_, rfl, rfl, hC0, Fr.rf⟩
      · have hby := of_decide_eq_false (bz_f hcb)
        exact bad (by omega)
set_option maxRecDepth 100000 in
theorem c_S_clear {h0 : ax_H} {xs T out : List Int} {fp : Int} (hC : ClI h0 xs T out fp) : ax_Ci m_S_clear 3 [.ref 1] h0 (fun z h1 => z = xs.length ∧ ClI h1 [] T out fp ∧ Fr CLS h0 h1) := by
  obtain ⟨pf, tf, cf, hH, ⟨k1, k2, k3, k4, k5, k6, k7, k8, f, k9⟩, hp, ht, hcf⟩ := hC
  have hsz := k1.sz
  refine ax_enter [some (.ref 1), none] rfl (Nat.le_of_ble_eq_true rfl) (by decide) ?_
  refine ax_aload_n d_S_clear_0 rfl ?_
  refine ax_get d_S_clear_1 fg_S_14 (by first | assumption | exact hH.g 0 rfl) (by rfl) ?_
  refine ax_get d_S_clear_4 fg_S_60 (by first | assumption | exact hH.g 0 rfl) (by rfl) ?_
  refine ax_istore_n d_S_clear_7 (by decide) rfl ?_
  refine ax_aload_n d_S_clear_8 rfl ?_
  refine ax_get d_S_clear_9 fg_S_14 (by first | assumption | exact hH.g 0 rfl) (by rfl) ?_
  refine az_iconst d_S_clear_12 ?_
  refine ax_cV1 d_S_clear_13 v_Rw_shorten lk_S_64 (by first | assumption | exact hH.g 0 rfl) (by decide) (Nat.le_of_ble_eq_true rfl) (cm_v (c_Rw_shorten k1 (n := 0) (by omega)) (fun h1 hq => ?_))
  obtain ⟨q1, hF1⟩ := hq
  have q1 : Rw h1 2 3 600 [] := q1
  have hH : SO h1 pf tf cf := hH.fr hF1 rfl
  have q0 : ClQ h1 [] T out fp := ⟨q1, Bs_nil, k3.fr hF1 rfl rfl, k4.fr hF1 rfl, k5.fr hF1 rfl, k6.fr hF1 rfl rfl, k7, k8.fr hF1 rfl rfl, f, k9.fr hF1 rfl⟩
  refine ax_aload_n d_S_clear_16 rfl ?_
  refine ax_cV0 d_S_clear_17 v_S_blockChanged lk_S_46 (by first | assumption | exact hH.g 0 rfl) (by decide) (Nat.le_of_ble_eq_true rfl) (cm_v (c_S_blockChanged hH) (fun h2 hq => ?_))
  refine ax_iload_n d_S_clear_20 rfl ?_
  refine ax_iret d_S_clear_21 rfl ?_
  exact ⟨_, rfl, rfl, ClI.none hq.1 (q0.fr1 hq.2), (hF1.wide rfl).tr (hq.2.wide rfl)⟩
set_option maxRecDepth 100000 in
theorem c_S_octet {h0 : ax_H} {xs T out : List Int} {fp : Int} (hC : ClI h0 xs T out fp) {i : Int} (hi : -2147483648 ≤ i ∧ i < 2147483648) : ax_Ci m_S_octet 3 [.ref 1, .int (iv i)] h0 (fun z h1 => z = rAt xs i ∧ ClI h1 xs T out fp ∧ Fr CLS h0 h1) := by
  have hC0 := hC
  obtain ⟨pf, tf, cf, hH, ⟨k1, k2, k3, k4, k5, k6, k7, k8, f, k9⟩, hp, ht, hcf⟩ := hC
  have hsz := k1.sz
  refine ax_enter [some (.ref 1), some (.int (iv i))] rfl (Nat.le_of_ble_eq_true rfl) (by decide) ?_
  refine ax_aload_n d_S_octet_0 rfl ?_
  refine ax_get d_S_octet_1 fg_S_14 (by first | assumption | exact hH.g 0 rfl) (by rfl) ?_
  refine ax_iload_n d_S_octet_4 rfl ?_
  refine ax_cV1 d_S_octet_5 v_Rw_at lk_S_67 (by first | assumption | exact hH.g 0 rfl) (by decide) (Nat.le_of_ble_eq_true rfl) (cm_i (c_Rw_at k1 hi) (fun z h1 hq => ?_))
  obtain ⟨rfl, rfl⟩ := hq
  refine ax_iret d_S_octet_8 rfl ?_
  exact ⟨_, rfl, rfl, hC0, Fr.rf⟩
set_option maxRecDepth 100000 in
theorem c_S_pack {h0 : ax_H} {xs T out : List Int} {fp : Int} (hC : ClI h0 xs T out fp) : ax_Ci m_S_pack 4 [.ref 1] h0 (fun z h1 => z = (pk xs).length ∧ ClI h1 xs T out fp ∧ Fr CLS h0 h1) := by
  have hC0 := hC
  obtain ⟨pf0, tf0, cf0, hH, -⟩ := hC0
  refine ax_enter [some (.ref 1)] rfl (Nat.le_of_ble_eq_true rfl) (by decide) ?_
  refine ax_aload_n d_S_pack_0 rfl ?_
  refine ax_cV0 d_S_pack_1 v_S_freshenPack lk_S_71 (by first | assumption | exact hH.g 0 rfl) (by decide) (Nat.le_of_ble_eq_true rfl) (cm_v (c_S_freshenPack hC) (fun h1 hq => ?_))
  obtain ⟨⟨tf, cf, hP⟩, hF1⟩ := hq
  have hH : SO h1 true tf cf := hP.1
  have hsz := (hP.2.2.1 rfl).1.sz
  refine ax_aload_n d_S_pack_4 rfl ?_
  refine ax_get d_S_pack_5 fg_S_18 (by first | assumption | exact hH.g 0 rfl) (by rfl) ?_
  refine ax_get d_S_pack_8 fg_S_60 (by first | assumption | exact hH.g 0 rfl) (by rfl) ?_
  refine ax_iret d_S_pack_11 rfl ?_
  exact ⟨_, rfl, rfl, ⟨_, _, _, hP⟩, hF1⟩
set_option maxRecDepth 100000 in
theorem c_S_packed {h0 : ax_H} {xs T out : List Int} {fp : Int} (hC : ClI h0 xs T out fp) {i : Int} (hi : -2147483648 ≤ i ∧ i < 2147483648) : ax_Ci m_S_packed 4 [.ref 1, .int (iv i)] h0 (fun z h1 => z = rAt (pk xs) i ∧ ClI h1 xs T out fp ∧ Fr CLS h0 h1) := by
  have hC0 := hC
  obtain ⟨pf0, tf0, cf0, hH, -⟩ := hC0
  refine ax_enter [some (.ref 1), some (.int (iv i))] rfl (Nat.le_of_ble_eq_true rfl) (by decide) ?_
  refine ax_aload_n d_S_packed_0 rfl ?_
  refine ax_cV0 d_S_packed_1 v_S_freshenPack lk_S_71 (by first | assumption | exact hH.g 0 rfl) (by decide) (Nat.le_of_ble_eq_true rfl) (cm_v (c_S_freshenPack hC) (fun h1 hq => ?_))
  obtain ⟨⟨tf, cf, hP⟩, hF1⟩ := hq
  have hH : SO h1 true tf cf := hP.1
  have hsz := (hP.2.2.1 rfl).1.sz
  refine ax_aload_n d_S_packed_4 rfl ?_
  refine ax_get d_S_packed_5 fg_S_18 (by first | assumption | exact hH.g 0 rfl) (by rfl) ?_
  refine ax_iload_n d_S_packed_8 rfl ?_
  refine ax_cV1 d_S_packed_9 v_Rw_at lk_S_67 (by first | assumption | exact hH.g 0 rfl) (by decide) (Nat.le_of_ble_eq_true rfl) (cm_i (c_Rw_at (hP.2.2.1 rfl).1 hi) (fun z h2 hq => ?_))
  obtain ⟨rfl, rfl⟩ := hq
  refine ax_iret d_S_packed_12 rfl ?_
  exact ⟨_, rfl, rfl, ⟨_, _, _, hP⟩, hF1⟩

/-! turns of the block -/
theorem TuFin.ord {xs : List Int} {o p : Nat → Int} {db : Int} (h : TuFin xs o p db) {k : Nat} (hk : k < xs.length) : o k = ordT xs k := by
  have h1 := ordT_ok hk
  have h2 := h.2.1 _ h1.1
  rw [h1.2] at h2
  exact h2
def aOrd (xs : List Int) (k : Int) : Int := if 0 ≤ k ∧ k < (xs.length : Int) then ordT xs k.toNat else -2
def aPl (xs : List Int) (k : Int) : Int := if 0 ≤ k ∧ k < (xs.length : Int) then plT xs k.toNat else -2
set_option maxRecDepth 100000 in
theorem c_S_order {h0 : ax_H} {xs T out : List Int} {fp : Int} (hC : ClI h0 xs T out fp) {i : Int} (hi : -2147483648 ≤ i ∧ i < 2147483648) : ax_Ci m_S_order 4 [.ref 1, .int (iv i)] h0 (fun z h1 => z = aOrd xs i ∧ ClI h1 xs T out fp ∧ Fr CLS h0 h1) := by
  have hC0 := hC
  obtain ⟨pf0, tf0, cf0, hH, -⟩ := hC0
  refine ax_enter [some (.ref 1), some (.int (iv i))] rfl (Nat.le_of_ble_eq_true rfl) (by decide) ?_
  refine ax_aload_n d_S_order_0 rfl ?_
  refine ax_cV0 d_S_order_1 v_S_freshenTurns lk_S_74 (by first | assumption | exact hH.g 0 rfl) (by decide) (Nat.le_of_ble_eq_true rfl) (cm_v (c_S_freshenTurns hC) (fun h1 hq => ?_))
  obtain ⟨⟨pf, cf, hP⟩, hF1⟩ := hq
  have hH : SO h1 pf true cf := hP.1
  obtain ⟨⟨rc, db, o, p, rk, ln, off, hTu, hfin⟩, hLs⟩ := hP.2.2.2.1 rfl
  have hl := hP.2.1.1.lc
  have c6 : h1[6]? = some (ob 1 [.ref 7, .ref 15, .ref 18, .ref 22, .ref 33, .ref 35, .ref 37]) := hP.2.1.2.2.2.1.1
  have c7 : h1[7]? = _ := hTu.g 0 rfl
  refine ax_aload_n d_S_order_4 rfl ?_
  refine ax_get d_S_order_5 fg_S_24 (by first | assumption | exact hH.g 0 rfl) (by rfl) ?_
  refine ax_get d_S_order_8 fg_S_77 (by first | assumption | exact hH.g 0 rfl) (by rfl) ?_
  refine ax_iload_n d_S_order_11 rfl ?_
  refine ax_cV1 d_S_order_12 v_Tu_turnAt lk_S_81 (by first | assumption | exact hH.g 0 rfl) (by decide) (Nat.le_of_ble_eq_true rfl) (cm_i (c_Tu_turnAt hTu (by omega) hi) (fun z h2 hq => ?_))
  obtain ⟨rfl, rfl⟩ := hq
  refine ax_iret d_S_order_15 rfl ?_
  refine ⟨_, rfl, ?_, ⟨_, _, _, hP⟩, hF1⟩
  unfold aOrd
  split
  · exact hfin.ord (by omega)
  · rfl
set_option maxRecDepth 100000 in
theorem c_S_last {h0 : ax_H} {xs T out : List Int} {fp : Int} (hC : ClI h0 xs T out fp) {i : Int} (hi : -2147483648 ≤ i ∧ i < 2147483648) : ax_Ci m_S_last 4 [.ref 1, .int (iv i)] h0 (fun z h1 => z = rAt (lastT xs) i ∧ ClI h1 xs T out fp ∧ Fr CLS h0 h1) := by
  have hC0 := hC
  obtain ⟨pf0, tf0, cf0, hH, -⟩ := hC0
  refine ax_enter [some (.ref 1), some (.int (iv i))] rfl (Nat.le_of_ble_eq_true rfl) (by decide) ?_
  refine ax_aload_n d_S_last_0 rfl ?_
  refine ax_cV0 d_S_last_1 v_S_freshenTurns lk_S_74 (by first | assumption | exact hH.g 0 rfl) (by decide) (Nat.le_of_ble_eq_true rfl) (cm_v (c_S_freshenTurns hC) (fun h1 hq => ?_))
  obtain ⟨⟨pf, cf, hP⟩, hF1⟩ := hq
  have hH : SO h1 pf true cf := hP.1
  obtain ⟨⟨rc, db, o, p, rk, ln, off, hTu, hfin⟩, hLs⟩ := hP.2.2.2.1 rfl
  have c6 : h1[6]? = some (ob 1 [.ref 7, .ref 15, .ref 18, .ref 22, .ref 33, .ref 35, .ref 37]) := hP.2.1.2.2.2.1.1
  have c7 : h1[7]? = _ := hTu.g 0 rfl
  have hsz := hLs.sz
  refine ax_aload_n d_S_last_4 rfl ?_
  refine ax_get d_S_last_5 fg_S_24 (by first | assumption | exact hH.g 0 rfl) (by rfl) ?_
  refine ax_get d_S_last_8 fg_S_77 (by first | assumption | exact hH.g 0 rfl) (by rfl) ?_
  refine ax_get d_S_last_11 fg_S_86 (by first | assumption | exact hH.g 0 rfl) (by rfl) ?_
  refine ax_iload_n d_S_last_14 rfl ?_
  refine ax_cV1 d_S_last_15 v_Rw_at lk_S_67 (by first | assumption | exact hH.g 0 rfl) (by decide) (Nat.le_of_ble_eq_true rfl) (cm_i (c_Rw_at hLs hi) (fun z h2 hq => ?_))
  obtain ⟨rfl, rfl⟩ := hq
  refine ax_iret d_S_last_18 rfl ?_
  exact ⟨_, rfl, rfl, ⟨_, _, _, hP⟩, hF1⟩
set_option maxRecDepth 100000 in
theorem c_S_origin {h0 : ax_H} {xs T out : List Int} {fp : Int} (hC : ClI h0 xs T out fp) : ax_Ci m_S_origin 4 [.ref 1] h0 (fun z h1 => z = aPl xs 0 ∧ ClI h1 xs T out fp ∧ Fr CLS h0 h1) := by
  have hC0 := hC
  obtain ⟨pf0, tf0, cf0, hH, -⟩ := hC0
  refine ax_enter [some (.ref 1)] rfl (Nat.le_of_ble_eq_true rfl) (by decide) ?_
  refine ax_aload_n d_S_origin_0 rfl ?_
  refine ax_cV0 d_S_origin_1 v_S_freshenTurns lk_S_74 (by first | assumption | exact hH.g 0 rfl) (by decide) (Nat.le_of_ble_eq_true rfl) (cm_v (c_S_freshenTurns hC) (fun h1 hq => ?_))
  obtain ⟨⟨pf, cf, hP⟩, hF1⟩ := hq
  have hH : SO h1 pf true cf := hP.1
  obtain ⟨⟨rc, db, o, p, rk, ln, off, hTu, hfin⟩, hLs⟩ := hP.2.2.2.1 rfl
  have hl := hP.2.1.1.lc
  have c6 : h1[6]? = some (ob 1 [.ref 7, .ref 15, .ref 18, .ref 22, .ref 33, .ref 35, .ref 37]) := hP.2.1.2.2.2.1.1
  have c7 : h1[7]? = _ := hTu.g 0 rfl
  refine ax_aload_n d_S_origin_4 rfl ?_
  refine ax_get d_S_origin_5 fg_S_24 (by first | assumption | exact hH.g 0 rfl) (by rfl) ?_
  refine ax_get d_S_origin_8 fg_S_77 (by first | assumption | exact hH.g 0 rfl) (by rfl) ?_
  refine az_iconst d_S_origin_11 ?_
  refine ax_cV1 d_S_origin_12 v_Tu_placeOf lk_S_89 (by first | assumption | exact hH.g 0 rfl) (by decide) (Nat.le_of_ble_eq_true rfl) (cm_i (c_Tu_placeOf hTu (by omega) (k := 0) (by omega)) (fun z h2 hq => ?_))
  obtain ⟨rfl, rfl⟩ := hq
  refine ax_iret d_S_origin_15 rfl ?_
  refine ⟨_, rfl, ?_, ⟨_, _, _, hP⟩, hF1⟩
  unfold aPl
  split
  · exact hfin.1 _ (by omega)
  · rfl
def isARnd (xs : List Int) (z : Int) : Prop := if xs.length = 0 then z = -2 else ∃ r : Nat, z = r ∧ isRnd xs r
set_option maxRecDepth 100000 in
theorem c_S_rounds {h0 : ax_H} {xs T out : List Int} {fp : Int} (hC : ClI h0 xs T out fp) : ax_Ci m_S_rounds 4 [.ref 1] h0 (fun z h1 => isARnd xs z ∧ ClI h1 xs T out fp ∧ Fr CLS h0 h1) := by
  have hC0 := hC
  obtain ⟨pf0, tf0, cf0, hH, hQ0, -⟩ := hC0
  have hl := hQ0.1.lc
  have hsz := hQ0.1.sz
  unfold isARnd
  refine ax_enter [some (.ref 1)] rfl (Nat.le_of_ble_eq_true rfl) (by decide) ?_
  refine ax_aload_n d_S_rounds_0 rfl ?_
  refine ax_get d_S_rounds_1 fg_S_14 (by first | assumption | exact hH.g 0 rfl) (by rfl) ?_
  refine ax_get d_S_rounds_4 fg_S_60 (by first | assumption | exact hH.g 0 rfl) (by rfl) ?_
  refine az_if_ne 13 d_S_rounds_7 (by decide) (by first | exact bz_in _ | omega) (fun hz => ?_) (fun hz => ?_)
  · refine ax_aload_n d_S_rounds_13 rfl ?_
    refine ax_cV0 d_S_rounds_14 v_S_freshenTurns lk_S_74 (by first | assumption | exact hH.g 0 rfl) (by decide) (Nat.le_of_ble_eq_true rfl) (cm_v (c_S_freshenTurns hC) (fun h1 hq => ?_))
    obtain ⟨⟨pf, cf, hP⟩, hF1⟩ := hq
    have hH : SO h1 pf true cf := hP.1
    obtain ⟨⟨rc, db, o, p, rk, ln, off, hTu, hfin⟩, hLs⟩ := hP.2.2.2.1 rfl
    have c6 : h1[6]? = some (ob 1 [.ref 7, .ref 15, .ref 18, .ref 22, .ref 33, .ref 35, .ref 37]) := hP.2.1.2.2.2.1.1
    have c7 : h1[7]? = _ := hTu.g 0 rfl
    refine ax_aload_n d_S_rounds_17 rfl ?_
    refine ax_get d_S_rounds_18 fg_S_24 (by first | assumption | exact hH.g 0 rfl) (by rfl) ?_
    refine ax_get d_S_rounds_21 fg_S_77 (by first | assumption | exact hH.g 0 rfl) (by rfl) ?_
    refine ax_get d_S_rounds_24 fg_S_92 (by first | assumption | exact hH.g 0 rfl) (by rfl) ?_
    refine ax_iret d_S_rounds_27 rfl ?_
    refine ⟨_, rfl, ?_, ⟨_, _, _, hP⟩, hF1⟩
    rw [if_neg (by omega)]
    exact hfin.2.2
  · refine az_bipush _ d_S_rounds_10 (by decide) ?_
    refine ax_iret d_S_rounds_12 rfl ?_
    refine ⟨_, rfl, ?_, hC, Fr.rf⟩
    rw [if_pos (by omega)]
def aStart (xs : List Int) (m i : Int) : Int := if m < 1 ∨ 64 < m ∨ i < 0 ∨ m ≤ i then -1 else if xs.length = 0 then -2 else plT xs (i.toNat * xs.length / m.toNat)
set_option maxRecDepth 100000 in
theorem c_S_start {h0 : ax_H} {xs T out : List Int} {fp : Int} (hC : ClI h0 xs T out fp) {m i : Int} (hm : -2147483648 ≤ m ∧ m < 2147483648) (hi : -2147483648 ≤ i ∧ i < 2147483648) : ax_Ci m_S_start 4 [.ref 1, .int (iv m), .int (iv i)] h0 (fun z h1 => z = aStart xs m i ∧ ClI h1 xs T out fp ∧ Fr CLS h0 h1) := by
  have hC0 := hC
  obtain ⟨pf0, tf0, cf0, hH, -⟩ := hC0
  have bad : (m < 1 ∨ 64 < m ∨ i < 0 ∨ m ≤ i) → ax_W m_S_start 4 20 [some (.ref 1), some (.int (iv m)), some (.int (iv i))] [] h0 (fun r0 h1 => ∃ z : Int, r0 = some (.int (iv z)) ∧ z = aStart xs m i ∧ ClI h1 xs T out fp ∧ Fr CLS h0 h1) := by
    intro hbad
    refine az_iconst d_S_start_20 ?_
    refine ax_iret d_S_start_21 rfl ?_
    exact ⟨_, rfl, by rw [aStart, if_pos hbad], hC, Fr.rf⟩
  refine ax_enter [some (.ref 1), some (.int (iv m)), some (.int (iv i))] rfl (Nat.le_of_ble_eq_true rfl) (by decide) ?_
  refine ax_iload_n d_S_start_0 rfl ?_
  refine az_iconst d_S_start_1 ?_
  refine az_icmp_lt 20 d_S_start_2 (by decide) (by omega) (by omega) (fun hc => ?_) (fun hc => ?_)
  · exact bad (by omega)
  · refine ax_iload_n d_S_start_5 rfl ?_
    refine az_bipush _ d_S_start_6 (by decide) ?_
    refine az_icmp_gt 20 d_S_start_8 (by decide) (by omega) (by omega) (fun hc => ?_) (fun hc => ?_)
    · exact bad (by omega)
    · refine ax_iload_n d_S_start_11 rfl ?_
      refine az_if_lt 20 d_S_start_12 (by decide) (by first | exact bz_in _ | omega) (fun hc => ?_) (fun hc => ?_)
      · exact bad (by omega)
      · refine ax_iload_n d_S_start_15 rfl ?_
        refine ax_iload_n d_S_start_16 rfl ?_
        refine az_icmp_lt 22 d_S_start_17 (by decide) (by omega) (by omega) (fun hc => ?_) (fun hc => ?_)
        · refine ax_aload_n d_S_start_22 rfl ?_
          refine ax_cV0 d_S_start_23 v_S_freshenTurns lk_S_74 (by first | assumption | exact hH.g 0 rfl) (by decide) (Nat.le_of_ble_eq_true rfl) (cm_v (c_S_freshenTurns hC) (fun h1 hq => ?_))
          obtain ⟨⟨pf, cf, hP⟩, hF1⟩ := hq
          have hH : SO h1 pf true cf := hP.1
          obtain ⟨⟨rc, db, o, p, rk, ln, off, hTu, hfin⟩, hLs⟩ := hP.2.2.2.1 rfl
          have hl := hP.2.1.1.lc
          have hsz := hP.2.1.1.sz
          have c6 : h1[6]? = some (ob 1 [.ref 7, .ref 15, .ref 18, .ref 22, .ref 33, .ref 35, .ref 37]) := hP.2.1.2.2.2.1.1
          have c7 : h1[7]? = _ := hTu.g 0 rfl
          obtain ⟨i0, rfl⟩ := Int.eq_ofNat_of_zero_le (show 0 ≤ i by omega)
          obtain ⟨m0, rfl⟩ := Int.eq_ofNat_of_zero_le (show 0 ≤ m by omega)
          have hb : i0 * xs.length ≤ 64 * 600 := Nat.mul_le_mul (by omega) hl
          have e1 : (i0 : Int) * (xs.length : Int) = ((i0 * xs.length : Nat) : Int) := by rw [Int.natCast_mul]
          refine ax_aload_n d_S_start_26 rfl ?_
          refine ax_get d_S_start_27 fg_S_24 (by first | assumption | exact hH.g 0 rfl) (by rfl) ?_
          refine ax_get d_S_start_30 fg_S_77 (by first | assumption | exact hH.g 0 rfl) (by rfl) ?_
          refine ax_iload_n d_S_start_33 rfl ?_
          refine ax_aload_n d_S_start_34 rfl ?_
          refine ax_get d_S_start_35 fg_S_14 (by first | assumption | exact hH.g 0 rfl) (by rfl) ?_
          refine ax_get d_S_start_38 fg_S_60 (by first | assumption | exact hH.g 0 rfl) (by rfl) ?_
          refine az_imul d_S_start_41 ?_
          rw [e1]
          refine ax_iload_n d_S_start_42 rfl ?_
          refine az_idiv d_S_start_43 (by omega) (by omega) ?_
          obtain ⟨q, hqe⟩ : ∃ q : Nat, q = i0 * xs.length / m0 := ⟨_, rfl⟩
          have e2 : ((i0 * xs.length : Nat) : Int) / (m0 : Int) = (q : Int) := by rw [hqe, Int.natCast_ediv]
          rw [e2]
          have hd : q ≤ i0 * xs.length := by rw [hqe]; exact Nat.div_le_self _ _
          have es : aStart xs (m0 : Int) (i0 : Int) = if xs.length = 0 then -2 else (plT xs q : Int) := by
            unfold aStart
            rw [if_neg (by omega), hqe]
            rfl
          rw [es]
          refine ax_cV1 d_S_start_44 v_Tu_placeOf lk_S_89 (by first | assumption | exact hH.g 0 rfl) (by decide) (Nat.le_of_ble_eq_true rfl) (cm_i (c_Tu_placeOf hTu (by omega) (k := (q : Int)) (by omega)) (fun z h2 hq => ?_))
          obtain ⟨rfl, rfl⟩ := hq
          refine ax_iret d_S_start_47 rfl ?_
          refine ⟨_, rfl, ?_, ⟨_, _, _, hP⟩, hF1⟩
          by_cases h00 : xs.length = 0
          · rw [if_pos h00, if_neg (by omega)]
          · have hlt : q < xs.length := by
              rw [hqe, Nat.div_lt_iff_lt_mul (by omega), Nat.mul_comm]
              exact Nat.mul_lt_mul_of_pos_left (by omega) (by omega)
            rw [if_neg h00, if_pos (by omega)]
            exact hfin.1 _ hlt
        · exact bad (by omega)
/-- whether a turn begins so -/
def begB (xs : List Int) (t : Nat) (x : Int64) (n : Nat) : Bool := decide (n ≤ xs.length) && (List.range n).all (fun j => decide (gx xs ((t + j) % xs.length) = byN x (n - 1 - j)))
theorem begB_t {xs : List Int} {t : Nat} {x : Int64} {n : Nat} (h1 : n ≤ xs.length) (h2 : ∀ j : Nat, j < n → gx xs ((t + j) % xs.length) = byN x (n - 1 - j)) : begB xs t x n = true := by
  unfold begB
  rw [decide_eq_true h1, Bool.true_and, List.all_eq_true]
  intro j hj
  exact decide_eq_true (h2 j (List.mem_range.mp hj))
theorem begB_f {xs : List Int} {t : Nat} {x : Int64} {n j : Nat} (hj : j < n) (h2 : gx xs ((t + j) % xs.length) ≠ byN x (n - 1 - j)) : begB xs t x n = false := by
  cases h : begB xs t x n with
  | false => rfl
  | true =>
    unfold begB at h
    have h3 := List.all_eq_true.mp (Bool.and_eq_true_iff.mp h).2 j (List.mem_range.mpr hj)
    exact absurd (of_decide_eq_true h3) h2
theorem begB_s {xs : List Int} {t : Nat} {x : Int64} {n : Nat} (h : xs.length < n) : begB xs t x n = false := by
  unfold begB
  rw [decide_eq_false (by omega), Bool.false_and]
set_option maxRecDepth 100000 in
set_option maxHeartbeats 4000000 in
theorem c_S_turnBegins {h0 : ax_H} {xs : List Int} {pf tf cf : Bool} (hH : SO h0 pf tf cf) (k1 : Rw h0 2 3 600 xs) (k2 : Bs xs) {t n : Nat} (ht : t < xs.length) (x : Int64) (hn : n ≤ 8) : ax_Cz m_S_turnBegins 1 [.ref 1, .int (iv t), .long x, .int (iv n)] h0 (fun b h1 => h1 = h0 ∧ b = begB xs t x n) := by
  have hsz := k1.sz
  have hl := k1.lc
  refine ax_enter [some (.ref 1), some (.int (iv t)), some (.long x), none, some (.int (iv n)), none, none] rfl (Nat.le_of_ble_eq_true rfl) (by decide) ?_
  refine ax_iload d_S_turnBegins_0 rfl ?_
  refine ax_aload_n d_S_turnBegins_2 rfl ?_
  refine ax_get d_S_turnBegins_3 fg_S_14 (by first | assumption | exact hH.g 0 rfl) (by rfl) ?_
  refine ax_get d_S_turnBegins_6 fg_S_60 (by first | assumption | exact hH.g 0 rfl) (by rfl) ?_
  refine az_icmp_le 14 d_S_turnBegins_9 (by decide) (by omega) (by omega) (fun hc => ?_) (fun hc => ?_)
  · refine az_iconst d_S_turnBegins_14 ?_
    refine ax_istore d_S_turnBegins_15 (by decide) rfl ?_
    have key : ∀ (f j : Nat), j + f = n → (∀ i : Nat, i < j → gx xs ((t + i) % xs.length) = byN x (n - 1 - i)) → ∀ v6 : Option Value,
        ax_W m_S_turnBegins 1 17 [some (.ref 1), some (.int (iv t)), some (.long x), none, some (.int (iv n)), some (.int (iv j)), v6] [] h0 (fun r0 h1 => ∃ b : Bool, r0 = some (.int (iv (bz b))) ∧ h1 = h0 ∧ b = begB xs t x n) := by
      intro f
      induction f with
      | zero =>
        intro j he hj v6
        refine ax_iload d_S_turnBegins_17 rfl ?_
        refine ax_iload d_S_turnBegins_19 rfl ?_
        refine az_icmp_ge 90 d_S_turnBegins_21 (by decide) (by omega) (by omega) (fun hc => ?_) (fun hc => ?_)
        · refine az_iconst d_S_turnBegins_90 ?_
          refine ax_zret d_S_turnBegins_91 rfl (by decide) ?_
          exact ⟨true, rfl, rfl, (begB_t (by omega) (fun i hi => hj i (by omega))).symm⟩
        · exfalso
          omega
      | succ f ih =>
        intro j he hj v6
        have hm : (t + j) % xs.length = if t + j < xs.length then t + j else t + j - xs.length := by
          split
          · exact Nat.mod_eq_of_lt (by omega)
          · rw [Nat.mod_eq_sub_mod (by omega), Nat.mod_eq_of_lt (by omega)]
        have hml : (t + j) % xs.length < xs.length := Nat.mod_lt _ (by omega)
        have rest : ∀ pl : Int, pl = (((t + j) % xs.length : Nat) : Int) → ax_W m_S_turnBegins 1 57 [some (.ref 1), some (.int (iv t)), some (.long x), none, some (.int (iv n)), some (.int (iv j)), v6] [.int (iv pl)] h0 (fun r0 h1 => ∃ b : Bool, r0 = some (.int (iv (bz b))) ∧ h1 = h0 ∧ b = begB xs t x n) := by
          intro pl hpl
          subst hpl
          have e1 : rAt xs (((t + j) % xs.length : Nat) : Int) = gx xs ((t + j) % xs.length) := by rw [rAt, if_pos (by omega)]; rfl
          have hg := gx_Bs k2 ((t + j) % xs.length)
          have hby := byN_in x (n - 1 - j)
          refine ax_istore d_S_turnBegins_57 (by decide) rfl ?_
          refine ax_aload_n d_S_turnBegins_59 rfl ?_
          refine ax_get d_S_turnBegins_60 fg_S_14 (by first | assumption | exact hH.g 0 rfl) (by rfl) ?_
          refine ax_iload d_S_turnBegins_63 rfl ?_
          refine ax_cV1 d_S_turnBegins_65 v_Rw_at lk_S_67 (by first | assumption | exact hH.g 0 rfl) (by decide) (Nat.le_of_ble_eq_true rfl) (cm_i (c_Rw_at k1 (i := (((t + j) % xs.length : Nat) : Int)) (by omega)) (fun z h3 hq => ?_))
          obtain ⟨rfl, rfl⟩ := hq
          rw [e1]
          refine ax_lload_n d_S_turnBegins_68 rfl ?_
          refine ax_iload d_S_turnBegins_69 rfl ?_
          refine az_iconst d_S_turnBegins_71 ?_
          refine az_isub d_S_turnBegins_72 ?_
          refine ax_iload d_S_turnBegins_73 rfl ?_
          refine az_isub d_S_turnBegins_75 ?_
          have e2 : (n : Int) - 1 - (j : Int) = ((n - 1 - j : Nat) : Int) := by omega
          rw [e2]
          refine ax_cS2 d_S_turnBegins_76 s_S_byteOf lk_S_207 (by decide) (Nat.le_of_ble_eq_true rfl) (cm_i (c_S_byteOf (x := x) (k := n - 1 - j) (by omega)) (fun z h4 hq => ?_))
          obtain ⟨rfl, rfl⟩ := hq
          refine az_icmp_eq 84 d_S_turnBegins_79 (by decide) (by omega) (by omega) (fun hne => ?_) (fun hne => ?_)
          · refine az_iinc d_S_turnBegins_84 rfl (by decide) rfl ?_
            refine ax_goto 17 d_S_turnBegins_87 (by decide) ?_
            refine ih (j + 1) (by omega) (fun i hi => ?_) _
            by_cases e : i = j
            · subst e; exact hne
            · exact hj i (by omega)
          · refine az_iconst d_S_turnBegins_82 ?_
            refine ax_zret d_S_turnBegins_83 rfl (by decide) ?_
            exact ⟨false, rfl, rfl, (begB_f (show j < n by omega) hne).symm⟩
        refine ax_iload d_S_turnBegins_17 rfl ?_
        refine ax_iload d_S_turnBegins_19 rfl ?_
        refine az_icmp_ge 90 d_S_turnBegins_21 (by decide) (by omega) (by omega) (fun hc => ?_) (fun hc => ?_)
        · exfalso
          omega
        · refine ax_iload_n d_S_turnBegins_24 rfl ?_
          refine ax_iload d_S_turnBegins_25 rfl ?_
          refine az_iadd d_S_turnBegins_27 ?_
          refine ax_aload_n d_S_turnBegins_28 rfl ?_
          refine ax_get d_S_turnBegins_29 fg_S_14 (by first | assumption | exact hH.g 0 rfl) (by rfl) ?_
          refine ax_get d_S_turnBegins_32 fg_S_60 (by first | assumption | exact hH.g 0 rfl) (by rfl) ?_
          refine az_icmp_ge 45 d_S_turnBegins_35 (by decide) (by omega) (by omega) (fun hc => ?_) (fun hc => ?_)
          · refine ax_iload_n d_S_turnBegins_45 rfl ?_
            refine ax_iload d_S_turnBegins_46 rfl ?_
            refine az_iadd d_S_turnBegins_48 ?_
            refine ax_aload_n d_S_turnBegins_49 rfl ?_
            refine ax_get d_S_turnBegins_50 fg_S_14 (by first | assumption | exact hH.g 0 rfl) (by rfl) ?_
            refine ax_get d_S_turnBegins_53 fg_S_60 (by first | assumption | exact hH.g 0 rfl) (by rfl) ?_
            refine az_isub d_S_turnBegins_56 ?_
            refine rest _ ?_
            rw [hm, if_neg (by omega)]
            omega
          · refine ax_iload_n d_S_turnBegins_38 rfl ?_
            refine ax_iload d_S_turnBegins_39 rfl ?_
            refine az_iadd d_S_turnBegins_41 ?_
            refine ax_goto 57 d_S_turnBegins_42 (by decide) ?_
            refine rest _ ?_
            rw [hm, if_pos (by omega)]
            omega
    exact key n 0 (by omega) (fun i hi => by omega) none
  · refine az_iconst d_S_turnBegins_12 ?_
    refine ax_zret d_S_turnBegins_13 rfl (by decide) ?_
    exact ⟨false, rfl, rfl, (begB_s (by omega)).symm⟩
/-- the first place that begins so, and how many do, of the first k places -/
def stS (xs : List Int) (x : Int64) (n : Nat) : Nat → Int × Nat
  | 0 => (-2, 0)
  | k + 1 => if begB xs (ordT xs k) x n = true then ((if (stS xs x n k).2 = 0 then (k : Int) else (stS xs x n k).1), (stS xs x n k).2 + 1) else stS xs x n k
theorem stS_in (xs : List Int) (x : Int64) (n : Nat) : ∀ k : Nat, -2 ≤ (stS xs x n k).1 ∧ (stS xs x n k).1 ≤ k ∧ (stS xs x n k).2 ≤ k ∧ ((stS xs x n k).2 = 0 → (stS xs x n k).1 = -2)
  | 0 => ⟨by show (-2 : Int) ≤ -2; omega, by show (-2 : Int) ≤ 0; omega, by show 0 ≤ 0; omega, fun _ => rfl⟩
  | k + 1 => by
    have ih := stS_in xs x n k
    rw [stS]
    split
    · refine ⟨?_, ?_, by show _ + 1 ≤ _; omega, fun q => by exact absurd q (by show ¬ _ + 1 = 0; omega)⟩
      · show -2 ≤ (if (stS xs x n k).2 = 0 then (k : Int) else (stS xs x n k).1)
        split <;> omega
      · show (if (stS xs x n k).2 = 0 then (k : Int) else (stS xs x n k).1) ≤ _
        split <;> omega
    · exact ⟨ih.1, by omega, by omega, ih.2.2.2⟩
def aSteps (xs : List Int) (x : Int64) (n w : Int) : Int := if n < 1 ∨ 8 < n ∨ w < 0 ∨ 2 < w then -1 else if w = 2 then (stS xs x n.toNat xs.length).2 else if w = 0 ∨ (stS xs x n.toNat xs.length).2 = 0 then (stS xs x n.toNat xs.length).1 else (stS xs x n.toNat xs.length).1 + (stS xs x n.toNat xs.length).2
set_option maxRecDepth 100000 in
set_option maxHeartbeats 4000000 in
theorem c_S_steps {h0 : ax_H} {xs T out : List Int} {fp : Int} (hC : ClI h0 xs T out fp) (x : Int64) {n w : Int} (hn : -2147483648 ≤ n ∧ n < 2147483648) (hw : -2147483648 ≤ w ∧ w < 2147483648) : ax_Ci m_S_steps 4 [.ref 1, .long x, .int (iv n), .int (iv w)] h0 (fun z h1 => z = aSteps xs x n w ∧ ClI h1 xs T out fp ∧ Fr CLS h0 h1) := by
  have hC0 := hC
  obtain ⟨pf0, tf0, cf0, hH, -⟩ := hC0
  have bad : (n < 1 ∨ 8 < n ∨ w < 0 ∨ 2 < w) → ax_W m_S_steps 4 22 [some (.ref 1), some (.long x), none, some (.int (iv n)), some (.int (iv w)), none, none, none] [] h0 (fun r0 h1 => ∃ z : Int, r0 = some (.int (iv z)) ∧ z = aSteps xs x n w ∧ ClI h1 xs T out fp ∧ Fr CLS h0 h1) := by
    intro hbad
    refine az_iconst d_S_steps_22 ?_
    refine ax_iret d_S_steps_23 rfl ?_
    exact ⟨_, rfl, by rw [aSteps, if_pos hbad], hC, Fr.rf⟩
  refine ax_enter [some (.ref 1), some (.long x), none, some (.int (iv n)), some (.int (iv w)), none, none, none] rfl (Nat.le_of_ble_eq_true rfl) (by decide) ?_
  refine ax_iload_n d_S_steps_0 rfl ?_
  refine az_iconst d_S_steps_1 ?_
  refine az_icmp_lt 22 d_S_steps_2 (by decide) (by omega) (by omega) (fun hc => ?_) (fun hc => ?_)
  · exact bad (by omega)
  · refine ax_iload_n d_S_steps_5 rfl ?_
    refine az_bipush _ d_S_steps_6 (by decide) ?_
    refine az_icmp_gt 22 d_S_steps_8 (by decide) (by omega) (by omega) (fun hc => ?_) (fun hc => ?_)
    · exact bad (by omega)
    · refine ax_iload d_S_steps_11 rfl ?_
      refine az_if_lt 22 d_S_steps_13 (by decide) (by first | exact bz_in _ | omega) (fun hc => ?_) (fun hc => ?_)
      · exact bad (by omega)
      · refine ax_iload d_S_steps_16 rfl ?_
        refine az_iconst d_S_steps_18 ?_
        refine az_icmp_le 24 d_S_steps_19 (by decide) (by omega) (by omega) (fun hc => ?_) (fun hc => ?_)
        · refine ax_aload_n d_S_steps_24 rfl ?_
          refine ax_cV0 d_S_steps_25 v_S_freshenTurns lk_S_74 (by first | assumption | exact hH.g 0 rfl) (by decide) (Nat.le_of_ble_eq_true rfl) (cm_v (c_S_freshenTurns hC) (fun h1 hq => ?_))
          obtain ⟨⟨pf, cf, hP⟩, hF1⟩ := hq
          have hH : SO h1 pf true cf := hP.1
          obtain ⟨⟨rc, db, o, p, rk, ln, off, hTu, hfin⟩, hLs⟩ := hP.2.2.2.1 rfl
          have k1 := hP.2.1.1
          have k2 := hP.2.1.2.1
          have hl := k1.lc
          have hsz := k1.sz
          have c6 : h1[6]? = some (ob 1 [.ref 7, .ref 15, .ref 18, .ref 22, .ref 33, .ref 35, .ref 37]) := hP.2.1.2.2.2.1.1
          have c7 : h1[7]? = _ := hTu.g 0 rfl
          obtain ⟨n0, rfl⟩ := Int.eq_ofNat_of_zero_le (show 0 ≤ n by omega)
          have hin := stS_in xs x n0
          have ea : aSteps xs x (n0 : Int) w = if w = 2 then ((stS xs x n0 xs.length).2 : Int) else if w = 0 ∨ (stS xs x n0 xs.length).2 = 0 then (stS xs x n0 xs.length).1 else (stS xs x n0 xs.length).1 + (stS xs x n0 xs.length).2 := by
            unfold aSteps
            rw [if_neg (by omega), show ((n0 : Nat) : Int).toNat = n0 by omega]
          rw [ea]
          refine az_bipush _ d_S_steps_28 (by decide) ?_
          refine ax_istore d_S_steps_30 (by decide) rfl ?_
          refine az_iconst d_S_steps_32 ?_
          refine ax_istore d_S_steps_33 (by decide) rfl ?_
          refine az_iconst d_S_steps_35 ?_
          refine ax_istore d_S_steps_36 (by decide) rfl ?_
          have key : ∀ (g k : Nat), k + g = xs.length →
              ax_W m_S_steps 4 38 [some (.ref 1), some (.long x), none, some (.int (iv n0)), some (.int (iv w)), some (.int (iv (stS xs x n0 k).1)), some (.int (iv (stS xs x n0 k).2)), some (.int (iv k))] [] h1 (fun r0 h2 => ∃ z : Int, r0 = some (.int (iv z)) ∧ z = (if w = 2 then ((stS xs x n0 xs.length).2 : Int) else if w = 0 ∨ (stS xs x n0 xs.length).2 = 0 then (stS xs x n0 xs.length).1 else (stS xs x n0 xs.length).1 + (stS xs x n0 xs.length).2) ∧ ClI h2 xs T out fp ∧ Fr CLS h0 h2) := by
            intro g
            induction g with
            | zero =>
              intro k he
              have hk : k = xs.length := by omega
              subst hk
              have hi := hin xs.length
              refine ax_iload d_S_steps_38 rfl ?_
              refine ax_aload_n d_S_steps_40 rfl ?_
              refine ax_get d_S_steps_41 fg_S_14 (by first | assumption | exact hH.g 0 rfl) (by rfl) ?_
              refine ax_get d_S_steps_44 fg_S_60 (by first | assumption | exact hH.g 0 rfl) (by rfl) ?_
              refine az_icmp_ge 94 d_S_steps_47 (by decide) (by omega) (by omega) (fun hc => ?_) (fun hc => ?_)
              · refine ax_iload d_S_steps_94 rfl ?_
                refine az_iconst d_S_steps_96 ?_
                refine az_icmp_ne 103 d_S_steps_97 (by decide) (by omega) (by omega) (fun hw2 => ?_) (fun hw2 => ?_)
                · rw [if_neg (by omega)]
                  refine ax_iload d_S_steps_103 rfl ?_
                  refine az_if_eq 113 d_S_steps_105 (by decide) (by first | exact bz_in _ | omega) (fun hw0 => ?_) (fun hw0 => ?_)
                  · refine ax_iload d_S_steps_113 rfl ?_
                    refine ax_goto 123 d_S_steps_115 (by decide) ?_
                    refine ax_iret d_S_steps_123 rfl ?_
                    exact ⟨_, rfl, by rw [if_pos (Or.inl hw0)], ⟨_, _, _, hP⟩, hF1⟩
                  · refine ax_iload d_S_steps_108 rfl ?_
                    refine az_if_ne 118 d_S_steps_110 (by decide) (by first | exact bz_in _ | omega) (fun hm0 => ?_) (fun hm0 => ?_)
                    · refine ax_iload d_S_steps_118 rfl ?_
                      refine ax_iload d_S_steps_120 rfl ?_
                      refine az_iadd d_S_steps_122 ?_
                      refine ax_iret d_S_steps_123 rfl ?_
                      exact ⟨_, rfl, by rw [if_neg (by omega)], ⟨_, _, _, hP⟩, hF1⟩
                    · refine ax_iload d_S_steps_113 rfl ?_
                      refine ax_goto 123 d_S_steps_115 (by decide) ?_
                      refine ax_iret d_S_steps_123 rfl ?_
                      exact ⟨_, rfl, by rw [if_pos (Or.inr (by omega))], ⟨_, _, _, hP⟩, hF1⟩
                · rw [if_pos (by omega)]
                  refine ax_iload d_S_steps_100 rfl ?_
                  refine ax_iret d_S_steps_102 rfl ?_
                  exact ⟨_, rfl, rfl, ⟨_, _, _, hP⟩, hF1⟩
              · exfalso
                omega
            | succ g ih =>
              intro k he
              have hi := hin k
              have ho := ordT_ok (show k < xs.length by omega)
              have ih1 := ih (k + 1) (by omega)
              refine ax_iload d_S_steps_38 rfl ?_
              refine ax_aload_n d_S_steps_40 rfl ?_
              refine ax_get d_S_steps_41 fg_S_14 (by first | assumption | exact hH.g 0 rfl) (by rfl) ?_
              refine ax_get d_S_steps_44 fg_S_60 (by first | assumption | exact hH.g 0 rfl) (by rfl) ?_
              refine az_icmp_ge 94 d_S_steps_47 (by decide) (by omega) (by omega) (fun hc => ?_) (fun hc => ?_)
              · exfalso
                omega
              · refine ax_aload_n d_S_steps_50 rfl ?_
                refine ax_aload_n d_S_steps_51 rfl ?_
                refine ax_get d_S_steps_52 fg_S_24 (by first | assumption | exact hH.g 0 rfl) (by rfl) ?_
                refine ax_get d_S_steps_55 fg_S_77 (by first | assumption | exact hH.g 0 rfl) (by rfl) ?_
                refine ax_iload d_S_steps_58 rfl ?_
                refine ax_cV1 d_S_steps_60 v_Tu_turnAt lk_S_81 (by first | assumption | exact hH.g 0 rfl) (by decide) (Nat.le_of_ble_eq_true rfl) (cm_i (c_Tu_turnAt hTu (by omega) (k := k) (by omega)) (fun z h3 hq => ?_))
                obtain ⟨rfl, rfl⟩ := hq
                rw [if_pos (by omega), show ((k : Nat) : Int).toNat = k by omega, hfin.ord (show k < xs.length by omega)]
                refine ax_lload_n d_S_steps_63 rfl ?_
                refine ax_iload_n d_S_steps_64 rfl ?_
                refine ax_cV3 d_S_steps_65 v_S_turnBegins lk_S_95 (by first | assumption | exact hH.g 0 rfl) (by decide) (Nat.le_of_ble_eq_true rfl) (cm_z (c_S_turnBegins hH k1 k2 ho.1 x (n := n0) (by omega)) (fun b h4 hq => ?_))
                obtain ⟨rfl, hb⟩ := hq
                rw [stS] at ih1
                have ek : (k : Int) + 1 = ((k + 1 : Nat) : Int) := by omega
                refine az_if_eq 88 d_S_steps_68 (by decide) (bz_in _) (fun hcb => ?_) (fun hcb => ?_)
                · have hb0 := bz_f hcb
                  rw [← hb, hb0] at ih1
                  refine az_iinc d_S_steps_88 rfl (by decide) rfl ?_
                  refine ax_goto 38 d_S_steps_91 (by decide) ?_
                  exact ih1
                · have hb0 := bz_t hcb
                  rw [← hb, if_pos hb0] at ih1
                  refine ax_iload d_S_steps_71 rfl ?_
                  refine az_if_ne 81 d_S_steps_73 (by decide) (by first | exact bz_in _ | omega) (fun hz => ?_) (fun hz => ?_)
                  · rw [if_neg (by omega)] at ih1
                    refine ax_iload d_S_steps_81 rfl ?_
                    refine ax_istore d_S_steps_83 (by decide) rfl ?_
                    refine az_iinc d_S_steps_85 rfl (by decide) rfl ?_
                    refine az_iinc d_S_steps_88 rfl (by decide) rfl ?_
                    refine ax_goto 38 d_S_steps_91 (by decide) ?_
                    exact ih1
                  · rw [if_pos (by omega)] at ih1
                    refine ax_iload d_S_steps_76 rfl ?_
                    refine ax_goto 83 d_S_steps_78 (by decide) ?_
                    refine ax_istore d_S_steps_83 (by decide) rfl ?_
                    refine az_iinc d_S_steps_85 rfl (by decide) rfl ?_
                    refine az_iinc d_S_steps_88 rfl (by decide) rfl ?_
                    refine ax_goto 38 d_S_steps_91 (by decide) ?_
                    exact ih1
          exact key xs.length 0 (by omega)
        · exact bad (by omega)
