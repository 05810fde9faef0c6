/-! Codes: lengths and codes of symbols -/
theorem sl32 : ∀ k : Nat, k < 32 → ((nI k &&& 31).toBitVec.smod 32).toNat = k := by decide
theorem zshl_pow {v k : Nat} (hk : k < 32) (h : v * 2 ^ k < 2147483648) : zshl (v : Int) (k : Int) = ((v * 2 ^ k : Nat) : Int) := by
  unfold zshl
  rw [iv_nat, iv_nat, pk_shlN (nI k &&& 31) k (sl32 k hk) (by omega), toInt_nI h]
def CdL (n : Nat) (wt lg vl bl pl : Nat → Int) : List (Nat × ax_C) := [(22, ob 3 [.ref 23, .ref 28, .ref 29, .ref 30, .ref 31, .ref 32, .int (iv n)]), (28, ia 258 wt), (29, ia 258 lg), (30, ia 258 vl), (31, ia 258 bl), (32, ia 13 pl)]
abbrev CS : List Nat := [22, 28, 29, 30, 31, 32]
set_option maxRecDepth 100000 in
theorem c_Cd_has {h0 : ax_H} {n : Nat} {wt lg vl bl pl : Nat → Int} (hH : Hs h0 (CdL n wt lg vl bl pl)) (hn : n ≤ 258) {i : Int} (hi : -2147483648 ≤ i ∧ i < 2147483648) : ax_Cz m_Cd_has 0 [.ref 22, .int (iv i)] h0 (fun b h1 => h1 = h0 ∧ b = decide (0 ≤ i ∧ i < (n : Int))) := by
  refine ax_enter [some (.ref 22), some (.int (iv i))] rfl (Nat.le_of_ble_eq_true rfl) (by decide) ?_
  refine ax_iload_n d_Cd_has_0 rfl ?_
  refine az_if_lt 16 d_Cd_has_1 (by decide) (by first | exact bz_in _ | omega) (fun hc => ?_) (fun hc => ?_)
  · refine az_iconst d_Cd_has_16 ?_
    refine ax_zret d_Cd_has_17 rfl (by decide) ?_
    refine ⟨false, rfl, rfl, ?_⟩
    simp; omega
  · refine ax_iload_n d_Cd_has_4 rfl ?_
    refine ax_aload_n d_Cd_has_5 rfl ?_
    refine ax_get d_Cd_has_6 fg_Cd_34 (by first | assumption | exact hH.g 0 rfl | exact hH.g 1 rfl | exact hH.g 2 rfl | exact hH.g 3 rfl | exact hH.g 4 rfl | exact hH.g 5 rfl) (by rfl) ?_
    refine az_icmp_ge 16 d_Cd_has_9 (by decide) (by omega) (by omega) (fun hc => ?_) (fun hc => ?_)
    · refine az_iconst d_Cd_has_16 ?_
      refine ax_zret d_Cd_has_17 rfl (by decide) ?_
      refine ⟨false, rfl, rfl, ?_⟩
      simp; omega
    · refine az_iconst d_Cd_has_12 ?_
      refine ax_goto 17 d_Cd_has_13 (by decide) ?_
      refine ax_zret d_Cd_has_17 rfl (by decide) ?_
      refine ⟨true, rfl, rfl, ?_⟩
      simp; omega
set_option maxRecDepth 100000 in
theorem c_Cd_lengthOf {h0 : ax_H} {n : Nat} {wt lg vl bl pl : Nat → Int} (hH : Hs h0 (CdL n wt lg vl bl pl)) (hn : n ≤ 258) {i : Int} (hi : -2147483648 ≤ i ∧ i < 2147483648) : ax_Ci m_Cd_lengthOf 1 [.ref 22, .int (iv i)] h0 (fun z h1 => h1 = h0 ∧ z = if 0 ≤ i ∧ i < (n : Int) then lg i.toNat else 0) := by
  refine ax_enter [some (.ref 22), some (.int (iv i))] rfl (Nat.le_of_ble_eq_true rfl) (by decide) ?_
  refine ax_aload_n d_Cd_lengthOf_0 rfl ?_
  refine ax_iload_n d_Cd_lengthOf_1 rfl ?_
  refine ax_cV1 d_Cd_lengthOf_2 v_Cd_has lk_Cd_38 (by first | assumption | exact hH.g 0 rfl | exact hH.g 1 rfl | exact hH.g 2 rfl | exact hH.g 3 rfl | exact hH.g 4 rfl | exact hH.g 5 rfl) (by decide) (Nat.le_of_ble_eq_true rfl) (cm_z (c_Cd_has hH hn (i := i) hi) (fun b h1 hp => ?_))
  obtain ⟨rfl, rfl⟩ := hp
  refine az_if_eq 17 d_Cd_lengthOf_5 (by decide) (bz_in _) (fun hc => ?_) (fun hc => ?_)
  · have := of_decide_eq_false (bz_f hc)
    refine az_iconst d_Cd_lengthOf_17 ?_
    refine ax_iret d_Cd_lengthOf_18 rfl ?_
    exact ⟨_, rfl, rfl, by rw [if_neg this]⟩
  · have := of_decide_eq_true (bz_t hc)
    refine ax_aload_n d_Cd_lengthOf_8 rfl ?_
    refine ax_get d_Cd_lengthOf_9 fg_Cd_22 (by first | assumption | exact hH.g 0 rfl | exact hH.g 1 rfl | exact hH.g 2 rfl | exact hH.g 3 rfl | exact hH.g 4 rfl | exact hH.g 5 rfl) (by rfl) ?_
    refine ax_iload_n d_Cd_lengthOf_12 rfl ?_
    refine az_iald d_Cd_lengthOf_13 (by first | assumption | exact hH.g 0 rfl | exact hH.g 1 rfl | exact hH.g 2 rfl | exact hH.g 3 rfl | exact hH.g 4 rfl | exact hH.g 5 rfl) (by omega) (by omega) (by omega) ?_
    refine ax_goto 18 d_Cd_lengthOf_14 (by decide) ?_
    refine ax_iret d_Cd_lengthOf_18 rfl ?_
    exact ⟨_, rfl, rfl, by rw [if_pos this]⟩
set_option maxRecDepth 100000 in
theorem c_Cd_valueOf {h0 : ax_H} {n : Nat} {wt lg vl bl pl : Nat → Int} (hH : Hs h0 (CdL n wt lg vl bl pl)) (hn : n ≤ 258) {i : Int} (hi : -2147483648 ≤ i ∧ i < 2147483648) : ax_Ci m_Cd_valueOf 1 [.ref 22, .int (iv i)] h0 (fun z h1 => h1 = h0 ∧ z = if 0 ≤ i ∧ i < (n : Int) then vl i.toNat else 0) := by
  refine ax_enter [some (.ref 22), some (.int (iv i))] rfl (Nat.le_of_ble_eq_true rfl) (by decide) ?_
  refine ax_aload_n d_Cd_valueOf_0 rfl ?_
  refine ax_iload_n d_Cd_valueOf_1 rfl ?_
  refine ax_cV1 d_Cd_valueOf_2 v_Cd_has lk_Cd_38 (by first | assumption | exact hH.g 0 rfl | exact hH.g 1 rfl | exact hH.g 2 rfl | exact hH.g 3 rfl | exact hH.g 4 rfl | exact hH.g 5 rfl) (by decide) (Nat.le_of_ble_eq_true rfl) (cm_z (c_Cd_has hH hn (i := i) hi) (fun b h1 hp => ?_))
  obtain ⟨rfl, rfl⟩ := hp
  refine az_if_eq 17 d_Cd_valueOf_5 (by decide) (bz_in _) (fun hc => ?_) (fun hc => ?_)
  · have := of_decide_eq_false (bz_f hc)
    refine az_iconst d_Cd_valueOf_17 ?_
    refine ax_iret d_Cd_valueOf_18 rfl ?_
    exact ⟨_, rfl, rfl, by rw [if_neg this]⟩
  · have := of_decide_eq_true (bz_t hc)
    refine ax_aload_n d_Cd_valueOf_8 rfl ?_
    refine ax_get d_Cd_valueOf_9 fg_Cd_25 (by first | assumption | exact hH.g 0 rfl | exact hH.g 1 rfl | exact hH.g 2 rfl | exact hH.g 3 rfl | exact hH.g 4 rfl | exact hH.g 5 rfl) (by rfl) ?_
    refine ax_iload_n d_Cd_valueOf_12 rfl ?_
    refine az_iald d_Cd_valueOf_13 (by first | assumption | exact hH.g 0 rfl | exact hH.g 1 rfl | exact hH.g 2 rfl | exact hH.g 3 rfl | exact hH.g 4 rfl | exact hH.g 5 rfl) (by omega) (by omega) (by omega) ?_
    refine ax_goto 18 d_Cd_valueOf_14 (by decide) ?_
    refine ax_iret d_Cd_valueOf_18 rfl ?_
    exact ⟨_, rfl, rfl, by rw [if_pos this]⟩
set_option maxRecDepth 100000 in
theorem c_Cd_symbolAt {h0 : ax_H} {n : Nat} {wt lg vl bl pl : Nat → Int} (hH : Hs h0 (CdL n wt lg vl bl pl)) (hn : n ≤ 258) {i : Int} (hi : -2147483648 ≤ i ∧ i < 2147483648) : ax_Ci m_Cd_symbolAt 1 [.ref 22, .int (iv i)] h0 (fun z h1 => h1 = h0 ∧ z = if 0 ≤ i ∧ i < (n : Int) then bl i.toNat else -2) := by
  refine ax_enter [some (.ref 22), some (.int (iv i))] rfl (Nat.le_of_ble_eq_true rfl) (by decide) ?_
  refine ax_aload_n d_Cd_symbolAt_0 rfl ?_
  refine ax_iload_n d_Cd_symbolAt_1 rfl ?_
  refine ax_cV1 d_Cd_symbolAt_2 v_Cd_has lk_Cd_38 (by first | assumption | exact hH.g 0 rfl | exact hH.g 1 rfl | exact hH.g 2 rfl | exact hH.g 3 rfl | exact hH.g 4 rfl | exact hH.g 5 rfl) (by decide) (Nat.le_of_ble_eq_true rfl) (cm_z (c_Cd_has hH hn (i := i) hi) (fun b h1 hp => ?_))
  obtain ⟨rfl, rfl⟩ := hp
  refine az_if_eq 17 d_Cd_symbolAt_5 (by decide) (bz_in _) (fun hc => ?_) (fun hc => ?_)
  · have := of_decide_eq_false (bz_f hc)
    refine az_bipush _ d_Cd_symbolAt_17 (by decide) ?_
    refine ax_iret d_Cd_symbolAt_19 rfl ?_
    exact ⟨_, rfl, rfl, by rw [if_neg this]⟩
  · have := of_decide_eq_true (bz_t hc)
    refine ax_aload_n d_Cd_symbolAt_8 rfl ?_
    refine ax_get d_Cd_symbolAt_9 fg_Cd_28 (by first | assumption | exact hH.g 0 rfl | exact hH.g 1 rfl | exact hH.g 2 rfl | exact hH.g 3 rfl | exact hH.g 4 rfl | exact hH.g 5 rfl) (by rfl) ?_
    refine ax_iload_n d_Cd_symbolAt_12 rfl ?_
    refine az_iald d_Cd_symbolAt_13 (by first | assumption | exact hH.g 0 rfl | exact hH.g 1 rfl | exact hH.g 2 rfl | exact hH.g 3 rfl | exact hH.g 4 rfl | exact hH.g 5 rfl) (by omega) (by omega) (by omega) ?_
    refine ax_goto 19 d_Cd_symbolAt_14 (by decide) ?_
    refine ax_iret d_Cd_symbolAt_19 rfl ?_
    exact ⟨_, rfl, rfl, by rw [if_pos this]⟩
set_option maxRecDepth 100000 in
theorem c_Cd_setLength {h0 : ax_H} {n : Nat} {wt lg vl bl pl : Nat → Int} (hH : Hs h0 (CdL n wt lg vl bl pl)) (hn : n ≤ 258) {s : Nat} (hs : s < n) (l : Int) : ax_Cv m_Cd_setLength 1 [.ref 22, .int (iv s), .int (iv l)] h0 (fun h1 => Hs h1 (CdL n wt (up lg s l) vl bl pl) ∧ Fr CS h0 h1) := by
  have hF : Fr CS h0 h0 := Fr.rf
  refine ax_enter [some (.ref 22), some (.int (iv s)), some (.int (iv l))] rfl (Nat.le_of_ble_eq_true rfl) (by decide) ?_
  refine ax_aload_n d_Cd_setLength_0 rfl ?_
  refine ax_iload_n d_Cd_setLength_1 rfl ?_
  refine ax_cV1 d_Cd_setLength_2 v_Cd_has lk_Cd_38 (by first | assumption | exact hH.g 0 rfl | exact hH.g 1 rfl | exact hH.g 2 rfl | exact hH.g 3 rfl | exact hH.g 4 rfl | exact hH.g 5 rfl) (by decide) (Nat.le_of_ble_eq_true rfl) (cm_z (c_Cd_has hH hn (i := s) (by omega)) (fun b h1 hp => ?_))
  obtain ⟨rfl, rfl⟩ := hp
  refine az_if_eq 15 d_Cd_setLength_5 (by decide) (bz_in _) (fun hc => ?_) (fun hc => ?_)
  · have := of_decide_eq_false (bz_f hc)
    exfalso
    omega
  · refine ax_aload_n d_Cd_setLength_8 rfl ?_
    refine ax_get d_Cd_setLength_9 fg_Cd_22 (by first | assumption | exact hH.g 0 rfl | exact hH.g 1 rfl | exact hH.g 2 rfl | exact hH.g 3 rfl | exact hH.g 4 rfl | exact hH.g 5 rfl) (by rfl) ?_
    refine ax_iload_n d_Cd_setLength_12 rfl ?_
    refine ax_iload_n d_Cd_setLength_13 rfl ?_
    first | refine ah_iast d_Cd_setLength_14 hH hF 0 rfl rfl (by omega) (by omega) (by omega) (by omega) (fun h hH hF => ?_) | refine ah_iast d_Cd_setLength_14 hH hF 1 rfl rfl (by omega) (by omega) (by omega) (by omega) (fun h hH hF => ?_) | refine ah_iast d_Cd_setLength_14 hH hF 2 rfl rfl (by omega) (by omega) (by omega) (by omega) (fun h hH hF => ?_) | refine ah_iast d_Cd_setLength_14 hH hF 3 rfl rfl (by omega) (by omega) (by omega) (by omega) (fun h hH hF => ?_) | refine ah_iast d_Cd_setLength_14 hH hF 4 rfl rfl (by omega) (by omega) (by omega) (by omega) (fun h hH hF => ?_) | refine ah_iast d_Cd_setLength_14 hH hF 5 rfl rfl (by omega) (by omega) (by omega) (by omega) (fun h hH hF => ?_)
    refine ax_vret d_Cd_setLength_15 rfl ?_
    exact ⟨rfl, hH, hF⟩
set_option maxRecDepth 100000 in
theorem c_Cd_beginLengths {h0 : ax_H} {n0 n : Nat} {wt lg vl bl pl : Nat → Int} (hH : Hs h0 (CdL n0 wt lg vl bl pl)) (hn : n ≤ 258) : ax_Cv m_Cd_beginLengths 1 [.ref 22, .int (iv n)] h0 (fun h1 => (∃ lg', Hs h1 (CdL n wt lg' vl bl pl)) ∧ Fr CS h0 h1) := by
  have hF : Fr CS h0 h0 := Fr.rf
  refine ax_enter [some (.ref 22), some (.int (iv n))] rfl (Nat.le_of_ble_eq_true rfl) (by decide) ?_
  refine ax_aload_n d_Cd_beginLengths_0 rfl ?_
  refine ax_iload_n d_Cd_beginLengths_1 rfl ?_
  refine az_iconst d_Cd_beginLengths_2 ?_
  refine az_mmax d_Cd_beginLengths_3 lk_Cd_75 (by decide) (Nat.le_of_ble_eq_true rfl) (by omega) (by omega) ?_
  refine az_sipush _ d_Cd_beginLengths_6 (by decide) ?_
  refine az_mmin d_Cd_beginLengths_9 lk_Cd_47 (by decide) (Nat.le_of_ble_eq_true rfl) (by omega) (by omega) ?_
  first | refine ah_put d_Cd_beginLengths_12 fp_Cd_34 hH hF 0 rfl rfl rfl (by first | rfl | decide) (Nat.le_of_ble_eq_true rfl) (fun h hH hF => ?_) | refine ah_put d_Cd_beginLengths_12 fp_Cd_34 hH hF 1 rfl rfl rfl (by first | rfl | decide) (Nat.le_of_ble_eq_true rfl) (fun h hH hF => ?_) | refine ah_put d_Cd_beginLengths_12 fp_Cd_34 hH hF 2 rfl rfl rfl (by first | rfl | decide) (Nat.le_of_ble_eq_true rfl) (fun h hH hF => ?_) | refine ah_put d_Cd_beginLengths_12 fp_Cd_34 hH hF 3 rfl rfl rfl (by first | rfl | decide) (Nat.le_of_ble_eq_true rfl) (fun h hH hF => ?_) | refine ah_put d_Cd_beginLengths_12 fp_Cd_34 hH hF 4 rfl rfl rfl (by first | rfl | decide) (Nat.le_of_ble_eq_true rfl) (fun h hH hF => ?_) | refine ah_put d_Cd_beginLengths_12 fp_Cd_34 hH hF 5 rfl rfl rfl (by first | rfl | decide) (Nat.le_of_ble_eq_true rfl) (fun h hH hF => ?_)
  have e : min (max (n : Int) 0) 258 = n := by omega
  rw [e] at hH
  have hH : Hs h (CdL n wt lg vl bl pl) := hH
  refine ax_aload_n d_Cd_beginLengths_15 rfl ?_
  refine ax_get d_Cd_beginLengths_16 fg_Cd_22 (by first | assumption | exact hH.g 0 rfl | exact hH.g 1 rfl | exact hH.g 2 rfl | exact hH.g 3 rfl | exact hH.g 4 rfl | exact hH.g 5 rfl) (by rfl) ?_
  refine az_bipush _ d_Cd_beginLengths_19 (by decide) ?_
  refine ax_cS2 d_Cd_beginLengths_21 s_Ar_fill lk_Cd_64 (by decide) (Nat.le_of_ble_eq_true rfl) (cm_v (c_Ar_fill (hH.g 2 rfl) (by decide) (by decide) 12) (fun h2 hp => ?_))
  obtain ⟨g2, ha2, hg2, hF2⟩ := hp
  refine ax_vret d_Cd_beginLengths_24 rfl ?_
  refine ⟨rfl, ⟨g2, ?_⟩, hF.tr (hF2.wide rfl)⟩
  exact Hs.c (by rw [hF2.2.2 22 rfl]; exact hH.g 0 rfl) rfl (Hs.c (by rw [hF2.2.2 28 rfl]; exact hH.g 1 rfl) rfl (Hs.c ha2 rfl (Hs.c (by rw [hF2.2.2 30 rfl]; exact hH.g 3 rfl) rfl (Hs.c (by rw [hF2.2.2 31 rfl]; exact hH.g 4 rfl) rfl (Hs.c (by rw [hF2.2.2 32 rfl]; exact hH.g 5 rfl) rfl Hs.n)))))
/-! what arrange makes -/
def nlc (lg : Nat → Int) (n : Nat) (l : Int) : Nat := cnt (fun q => decide (lg q = l)) n
def vb (lg : Nat → Int) (n : Nat) : Nat → Nat
  | 0 => 0
  | l + 1 => 2 * (vb lg n l + nlc lg n l)
theorem vb_le (lg : Nat → Int) (n : Nat) (hn : n ≤ 258) : ∀ l : Nat, vb lg n l + 516 ≤ 516 * 2 ^ l
  | 0 => by simp [vb]
  | l + 1 => by
    have h1 := vb_le lg n hn l
    have h2 : nlc lg n l ≤ n := cnt_le _ _
    rw [vb, Nat.pow_succ]
    omega
def codeV (lg : Nat → Int) (n s : Nat) : Nat := vb lg n (lg s).toNat + nlc lg s (lg s)
def okLg (lg : Nat → Int) (n : Nat) : Prop := ∀ k : Nat, k < n → 1 ≤ lg k ∧ lg k ≤ 12
theorem ltC_step (lg : Nat → Int) (n : Nat) (l : Nat) : ltC n lg ((l + 1 : Nat) : Int) = ltC n lg l + nlc lg n l := by
  rw [show ((l + 1 : Nat) : Int) = (l : Int) + 1 by omega, ltC_succ]
  rfl
theorem nlc_succ (lg : Nat → Int) (k : Nat) (c : Int) : nlc lg (k + 1) c = nlc lg k c + (if lg k = c then 1 else 0) := ce_succ lg k c
set_option maxRecDepth 100000 in
set_option maxHeartbeats 4000000 in
theorem c_Cd_arrange {h0 : ax_H} {n : Nat} {wt lg vl bl pl : Nat → Int} (hH : Hs h0 (CdL n wt lg vl bl pl)) (hn : n ≤ 258) (hlg : okLg lg n) : ax_Cv m_Cd_arrange 0 [.ref 22] h0 (fun h1 => (∃ vl' bl' pl', Hs h1 (CdL n wt lg vl' bl' pl') ∧ (∀ s : Nat, s < n → vl' s = codeV lg n s) ∧ (∀ s : Nat, s < n → bl' (plc (kl lg) n s) = s) ∧ ∀ l : Nat, 1 ≤ l → l ≤ 12 → pl' l = nlc lg n l) ∧ Fr CS h0 h1) := by
  refine ax_enter [some (.ref 22), none, none, none, none, none] rfl (Nat.le_of_ble_eq_true rfl) (by decide) ?_
  refine az_iconst d_Cd_arrange_0 ?_
  refine ax_istore_n d_Cd_arrange_1 (by decide) rfl ?_
  refine az_iconst d_Cd_arrange_2 ?_
  refine ax_istore_n d_Cd_arrange_3 (by decide) rfl ?_
  refine az_iconst d_Cd_arrange_4 ?_
  refine ax_istore_n d_Cd_arrange_5 (by decide) rfl ?_
  have p12 : ∀ l : Nat, l ≤ 12 → vb lg n l ≤ 516 * 4096 := by
    intro l hl
    have h1 := vb_le lg n hn l
    have h2 : 2 ^ l ≤ 2 ^ 12 := Nat.pow_le_pow_right (by decide) hl
    have h3 : (2 : Nat) ^ 12 = 4096 := by decide
    have h4 : 516 * 2 ^ l ≤ 516 * 4096 := by omega
    omega
  have outer : ∀ (f l : Nat) (h : ax_H) (vl bl pl : Nat → Int) (v : Nat), l + f = 13 → 1 ≤ l → Hs h (CdL n wt lg vl bl pl) → Fr CS h0 h → vb lg n l = 2 * v → (∀ s : Nat, s < n → lg s < l → vl s = codeV lg n s) → (∀ s : Nat, s < n → lg s < l → bl (plc (kl lg) n s) = s) → (∀ k : Nat, 1 ≤ k → k < l → pl k = nlc lg n k) → ∀ v4 v5 : Option Value,
      ax_W m_Cd_arrange 0 6 [some (.ref 22), some (.int (iv (ltC n lg l))), some (.int (iv v)), some (.int (iv l)), v4, v5] [] h (fun r h1 => r = none ∧ (∃ vl' bl' pl', Hs h1 (CdL n wt lg vl' bl' pl') ∧ (∀ s : Nat, s < n → vl' s = codeV lg n s) ∧ (∀ s : Nat, s < n → bl' (plc (kl lg) n s) = s) ∧ ∀ l : Nat, 1 ≤ l → l ≤ 12 → pl' l = nlc lg n l) ∧ Fr CS h0 h1) := by
    intro f
    induction f with
    | zero =>
      intro l h vl bl pl v he hl hH hF hv hvl hbl hpl v4 v5
      refine ax_iload_n d_Cd_arrange_6 rfl ?_
      refine az_bipush _ d_Cd_arrange_7 (by decide) ?_
      refine az_icmp_gt 86 d_Cd_arrange_9 (by decide) (by omega) (by omega) (fun hc => ?_) (fun hc => ?_)
      · refine ax_vret d_Cd_arrange_86 rfl ?_
        exact ⟨rfl, ⟨vl, bl, pl, hH, fun s hs => hvl s hs (by have := hlg s hs; omega), fun s hs => hbl s hs (by have := hlg s hs; omega), fun k h1 h2 => hpl k h1 (by omega)⟩, hF⟩
      · exfalso
        omega
    | succ f ih =>
      intro l h vl bl pl v he hl hH hF hv hvl hbl hpl v4 v5
      have hvb := p12 l (by omega)
      refine ax_iload_n d_Cd_arrange_6 rfl ?_
      refine az_bipush _ d_Cd_arrange_7 (by decide) ?_
      refine az_icmp_gt 86 d_Cd_arrange_9 (by decide) (by omega) (by omega) (fun hc => ?_) (fun hc => ?_)
      · exfalso
        omega
      · refine ax_iload_n d_Cd_arrange_12 rfl ?_
        refine ax_istore d_Cd_arrange_13 (by decide) rfl ?_
        refine ax_iload_n d_Cd_arrange_15 rfl ?_
        refine az_iconst d_Cd_arrange_16 ?_
        refine az_ishl d_Cd_arrange_17 ?_
        have es : zshl (v : Int) 1 = ((vb lg n l : Nat) : Int) := by
          rw [show (1 : Int) = ((1 : Nat) : Int) from rfl, zshl_pow (by decide) (by omega), hv]
          omega
        rw [es]
        refine ax_istore_n d_Cd_arrange_18 (by decide) rfl ?_
        refine az_iconst d_Cd_arrange_19 ?_
        refine ax_istore d_Cd_arrange_20 (by decide) rfl ?_
        have inner : ∀ (g k : Nat) (h : ax_H) (vl bl : Nat → Int), k + g = n → Hs h (CdL n wt lg vl bl pl) → Fr CS h0 h → (∀ s : Nat, s < n → (lg s < l ∨ (lg s = l ∧ s < k)) → vl s = codeV lg n s) → (∀ s : Nat, s < n → (lg s < l ∨ (lg s = l ∧ s < k)) → bl (plc (kl lg) n s) = s) →
            ax_W m_Cd_arrange 0 22 [some (.ref 22), some (.int (iv ((ltC n lg l + nlc lg k l : Nat) : Int))), some (.int (iv ((vb lg n l + nlc lg k l : Nat) : Int))), some (.int (iv l)), some (.int (iv (ltC n lg l))), some (.int (iv k))] [] h (fun r h1 => r = none ∧ (∃ vl' bl' pl', Hs h1 (CdL n wt lg vl' bl' pl') ∧ (∀ s : Nat, s < n → vl' s = codeV lg n s) ∧ (∀ s : Nat, s < n → bl' (plc (kl lg) n s) = s) ∧ ∀ l : Nat, 1 ≤ l → l ≤ 12 → pl' l = nlc lg n l) ∧ Fr CS h0 h1) := by
          intro g
          induction g with
          | zero =>
            intro k h vl bl he2 hH hF hvl hbl
            have hk : k = n := by omega
            subst hk
            refine ax_iload d_Cd_arrange_22 rfl ?_
            refine ax_aload_n d_Cd_arrange_24 rfl ?_
            refine ax_get d_Cd_arrange_25 fg_Cd_34 (by first | assumption | exact hH.g 0 rfl | exact hH.g 1 rfl | exact hH.g 2 rfl | exact hH.g 3 rfl | exact hH.g 4 rfl | exact hH.g 5 rfl) (by rfl) ?_
            refine az_icmp_ge 70 d_Cd_arrange_28 (by decide) (by omega) (by omega) (fun hc => ?_) (fun hc => ?_)
            · refine ax_aload_n d_Cd_arrange_70 rfl ?_
              refine ax_get d_Cd_arrange_71 fg_Cd_31 (by first | assumption | exact hH.g 0 rfl | exact hH.g 1 rfl | exact hH.g 2 rfl | exact hH.g 3 rfl | exact hH.g 4 rfl | exact hH.g 5 rfl) (by rfl) ?_
              refine ax_iload_n d_Cd_arrange_74 rfl ?_
              refine ax_iload_n d_Cd_arrange_75 rfl ?_
              refine ax_iload d_Cd_arrange_76 rfl ?_
              refine az_isub d_Cd_arrange_78 ?_
              first | refine ah_iast d_Cd_arrange_79 hH hF 0 rfl rfl (by omega) (by omega) (by omega) (by omega) (fun h hH hF => ?_) | refine ah_iast d_Cd_arrange_79 hH hF 1 rfl rfl (by omega) (by omega) (by omega) (by omega) (fun h hH hF => ?_) | refine ah_iast d_Cd_arrange_79 hH hF 2 rfl rfl (by omega) (by omega) (by omega) (by omega) (fun h hH hF => ?_) | refine ah_iast d_Cd_arrange_79 hH hF 3 rfl rfl (by omega) (by omega) (by omega) (by omega) (fun h hH hF => ?_) | refine ah_iast d_Cd_arrange_79 hH hF 4 rfl rfl (by omega) (by omega) (by omega) (by omega) (fun h hH hF => ?_) | refine ah_iast d_Cd_arrange_79 hH hF 5 rfl rfl (by omega) (by omega) (by omega) (by omega) (fun h hH hF => ?_)
              refine az_iinc d_Cd_arrange_80 rfl (by decide) rfl ?_
              refine ax_goto 6 d_Cd_arrange_83 (by decide) ?_
              have e1 : ((ltC k lg l + nlc lg k l : Nat) : Int) - (ltC k lg l : Int) = (nlc lg k l : Int) := by omega
              rw [e1, Int.toNat_natCast] at hH
              rw [← ltC_step]
              refine ih (l + 1) h vl bl _ (vb lg k l + nlc lg k l) (by omega) (by omega) hH hF rfl (fun s hs hl2 => hvl s hs (by omega)) (fun s hs hl2 => hbl s hs (by omega)) (fun q h1 h2 => ?_) _ _
              by_cases e : q = l
              · rw [e, up_at]
              · rw [up_ne e]; exact hpl q h1 (by omega)
            · exfalso
              omega
          | succ g ih2 =>
            intro k h vl bl he2 hH hF hvl hbl
            have hlk := hlg k (by omega)
            have hs := nlc_succ lg k l
            have hpe := plc_kl (x := lg) (n := n) (k := k) (by omega)
            have hpl9 := plc_lt_n (kl_ok lg n) (show k < n by omega)
            have hcle : nlc lg k l ≤ k := cnt_le _ _
            have hltn : ltC n lg l ≤ n := cnt_le _ _
            refine ax_iload d_Cd_arrange_22 rfl ?_
            refine ax_aload_n d_Cd_arrange_24 rfl ?_
            refine ax_get d_Cd_arrange_25 fg_Cd_34 (by first | assumption | exact hH.g 0 rfl | exact hH.g 1 rfl | exact hH.g 2 rfl | exact hH.g 3 rfl | exact hH.g 4 rfl | exact hH.g 5 rfl) (by rfl) ?_
            refine az_icmp_ge 70 d_Cd_arrange_28 (by decide) (by omega) (by omega) (fun hc => ?_) (fun hc => ?_)
            · exfalso
              omega
            · refine ax_aload_n d_Cd_arrange_31 rfl ?_
              refine ax_get d_Cd_arrange_32 fg_Cd_22 (by first | assumption | exact hH.g 0 rfl | exact hH.g 1 rfl | exact hH.g 2 rfl | exact hH.g 3 rfl | exact hH.g 4 rfl | exact hH.g 5 rfl) (by rfl) ?_
              refine ax_iload d_Cd_arrange_35 rfl ?_
              refine az_iald d_Cd_arrange_37 (by first | assumption | exact hH.g 0 rfl | exact hH.g 1 rfl | exact hH.g 2 rfl | exact hH.g 3 rfl | exact hH.g 4 rfl | exact hH.g 5 rfl) (by omega) (by omega) (by omega) ?_
              rw [Int.toNat_natCast]
              refine ax_iload_n d_Cd_arrange_38 rfl ?_
              refine az_icmp_ne 64 d_Cd_arrange_39 (by decide) (by omega) (by omega) (fun hq => ?_) (fun hq => ?_)
              · refine az_iinc d_Cd_arrange_64 rfl (by decide) rfl ?_
                refine ax_goto 22 d_Cd_arrange_67 (by decide) ?_
                rw [if_neg hq, Nat.add_zero] at hs
                have := ih2 (k + 1) h vl bl (by omega) hH hF (fun s h1 h2 => hvl s h1 (by
                  rcases h2 with h2 | ⟨h2, h3⟩
                  · exact Or.inl h2
                  · refine Or.inr ⟨h2, ?_⟩
                    have : s ≠ k := fun w => hq (by rw [← w]; exact h2)
                    omega)) (fun s h1 h2 => hbl s h1 (by
                  rcases h2 with h2 | ⟨h2, h3⟩
                  · exact Or.inl h2
                  · refine Or.inr ⟨h2, ?_⟩
                    have : s ≠ k := fun w => hq (by rw [← w]; exact h2)
                    omega))
                rw [hs] at this
                exact this
              · rw [if_pos hq] at hs
                have hpk : plc (kl lg) n k = ltC n lg l + nlc lg k l := by
                  rw [hpe, hq]
                  rfl
                refine ax_aload_n d_Cd_arrange_42 rfl ?_
                refine ax_get d_Cd_arrange_43 fg_Cd_28 (by first | assumption | exact hH.g 0 rfl | exact hH.g 1 rfl | exact hH.g 2 rfl | exact hH.g 3 rfl | exact hH.g 4 rfl | exact hH.g 5 rfl) (by rfl) ?_
                refine ax_iload_n d_Cd_arrange_46 rfl ?_
                refine ax_iload d_Cd_arrange_47 rfl ?_
                first | refine ah_iast d_Cd_arrange_49 hH hF 0 rfl rfl (by omega) (by omega) (by omega) (by omega) (fun h hH hF => ?_) | refine ah_iast d_Cd_arrange_49 hH hF 1 rfl rfl (by omega) (by omega) (by omega) (by omega) (fun h hH hF => ?_) | refine ah_iast d_Cd_arrange_49 hH hF 2 rfl rfl (by omega) (by omega) (by omega) (by omega) (fun h hH hF => ?_) | refine ah_iast d_Cd_arrange_49 hH hF 3 rfl rfl (by omega) (by omega) (by omega) (by omega) (fun h hH hF => ?_) | refine ah_iast d_Cd_arrange_49 hH hF 4 rfl rfl (by omega) (by omega) (by omega) (by omega) (fun h hH hF => ?_) | refine ah_iast d_Cd_arrange_49 hH hF 5 rfl rfl (by omega) (by omega) (by omega) (by omega) (fun h hH hF => ?_)
                refine ax_aload_n d_Cd_arrange_50 rfl ?_
                refine ax_get d_Cd_arrange_51 fg_Cd_25 (by first | assumption | exact hH.g 0 rfl | exact hH.g 1 rfl | exact hH.g 2 rfl | exact hH.g 3 rfl | exact hH.g 4 rfl | exact hH.g 5 rfl) (by rfl) ?_
                refine ax_iload d_Cd_arrange_54 rfl ?_
                refine ax_iload_n d_Cd_arrange_56 rfl ?_
                first | refine ah_iast d_Cd_arrange_57 hH hF 0 rfl rfl (by omega) (by omega) (by omega) (by omega) (fun h hH hF => ?_) | refine ah_iast d_Cd_arrange_57 hH hF 1 rfl rfl (by omega) (by omega) (by omega) (by omega) (fun h hH hF => ?_) | refine ah_iast d_Cd_arrange_57 hH hF 2 rfl rfl (by omega) (by omega) (by omega) (by omega) (fun h hH hF => ?_) | refine ah_iast d_Cd_arrange_57 hH hF 3 rfl rfl (by omega) (by omega) (by omega) (by omega) (fun h hH hF => ?_) | refine ah_iast d_Cd_arrange_57 hH hF 4 rfl rfl (by omega) (by omega) (by omega) (by omega) (fun h hH hF => ?_) | refine ah_iast d_Cd_arrange_57 hH hF 5 rfl rfl (by omega) (by omega) (by omega) (by omega) (fun h hH hF => ?_)
                refine az_iinc d_Cd_arrange_58 rfl (by decide) rfl ?_
                refine az_iinc d_Cd_arrange_61 rfl (by decide) rfl ?_
                refine az_iinc d_Cd_arrange_64 rfl (by decide) rfl ?_
                refine ax_goto 22 d_Cd_arrange_67 (by decide) ?_
                rw [Int.toNat_natCast, ← hpk, Int.toNat_natCast] at hH
                have := ih2 (k + 1) h (up vl k ((vb lg n l + nlc lg k l : Nat) : Int)) (up bl (plc (kl lg) n k) k) (by omega) hH hF (fun s h1 h2 => ?_) (fun s h1 h2 => ?_)
                · rw [hs, ← Nat.add_assoc, ← Nat.add_assoc] at this
                  exact this
                · by_cases e : s = k
                  · rw [e, up_at, codeV, hq, Int.toNat_natCast]
                  · rw [up_ne e]
                    exact hvl s h1 (by omega)
                · by_cases e : s = k
                  · rw [e, up_at]
                  · rw [up_ne (fun w => e (plc_inj (kl_ok lg n) h1 (by omega) w))]
                    exact hbl s h1 (by omega)
        have := inner n 0 h vl bl (by omega) hH hF (fun s h1 h2 => hvl s h1 (by omega)) (fun s h1 h2 => hbl s h1 (by omega))
        exact this
  have h9 : ltC n lg ((1 : Nat) : Int) = 0 := cnt_false (fun q hq => decide_eq_false (by have := hlg q hq; omega))
  have h10 : nlc lg n ((0 : Nat) : Int) = 0 := cnt_false (fun q hq => decide_eq_false (by have := hlg q hq; omega))
  have := outer 12 1 h0 vl bl pl 0 (by omega) (by omega) hH Fr.rf (by rw [vb, vb, h10]) (fun s hs h1 => by have := hlg s hs; omega) (fun s hs h1 => by have := hlg s hs; omega) (fun k h1 h2 => by omega) none none
  rw [h9] at this
  exact this
/-- Kraft's sum, by symbols -/
def kraft (lg : Nat → Int) (n : Nat) : Int := fsum (fun s => ((2 ^ (12 - (lg s).toNat) : Nat) : Int)) n
theorem fsum_sel (lg : Nat → Int) (c v : Int) : ∀ n : Nat, fsum (fun s => if lg s = c then v else 0) n = nlc lg n c * v
  | 0 => by simp [fsum, nlc, cnt]
  | n + 1 => by
    rw [fsum, fsum_sel lg c v n, nlc_succ]
    by_cases e : lg n = c
    · rw [if_pos e, if_pos e]
      rw [show ((nlc lg n c + 1 : Nat) : Int) = (nlc lg n c : Int) + 1 by omega, Int.add_mul, Int.one_mul]
    · rw [if_neg e, if_neg e]
      simp
theorem fsum_add (f g : Nat → Int) : ∀ n : Nat, fsum (fun s => f s + g s) n = fsum f n + fsum g n
  | 0 => rfl
  | n + 1 => by
    rw [fsum, fsum, fsum, fsum_add f g n]
    omega
theorem kraft_le {lg : Nat → Int} {n : Nat} (L : Nat) : fsum (fun s => if 1 ≤ lg s ∧ lg s ≤ ((L + 1 : Nat) : Int) then ((2 ^ (12 - (lg s).toNat) : Nat) : Int) else 0) n = fsum (fun s => if 1 ≤ lg s ∧ lg s ≤ (L : Int) then ((2 ^ (12 - (lg s).toNat) : Nat) : Int) else 0) n + nlc lg n ((L + 1 : Nat) : Int) * ((2 ^ (12 - (L + 1)) : Nat) : Int) := by
  rw [← fsum_sel, ← fsum_add]
  apply fsum_cg
  intro s _
  by_cases e : lg s = ((L + 1 : Nat) : Int)
  · rw [if_pos e, if_pos (by omega), if_neg (by omega), e, Int.toNat_natCast]
    omega
  · rw [if_neg e]
    by_cases h : 1 ≤ lg s ∧ lg s ≤ (L : Int)
    · rw [if_pos h, if_pos (by omega)]
      omega
    · rw [if_neg h, if_neg (by omega)]
      rfl
set_option maxRecDepth 100000 in
set_option maxHeartbeats 4000000 in
theorem c_Cd_areWhole {h0 : ax_H} {n : Nat} {wt lg vl bl pl : Nat → Int} (hH : Hs h0 (CdL n wt lg vl bl pl)) (hn : n ≤ 258) (hlg : okLg lg n) (hpl : ∀ l : Nat, 1 ≤ l → l ≤ 12 → pl l = nlc lg n l) : ax_Cz m_Cd_areWhole 0 [.ref 22] h0 (fun b h1 => h1 = h0 ∧ b = decide (kraft lg n = 4096)) := by
  refine ax_enter [some (.ref 22), none, none] rfl (Nat.le_of_ble_eq_true rfl) (by decide) ?_
  refine az_iconst d_Cd_areWhole_0 ?_
  refine ax_istore_n d_Cd_areWhole_1 (by decide) rfl ?_
  refine az_iconst d_Cd_areWhole_2 ?_
  refine ax_istore_n d_Cd_areWhole_3 (by decide) rfl ?_
  have hk : kraft lg n = fsum (fun s => if 1 ≤ lg s ∧ lg s ≤ ((12 : Nat) : Int) then ((2 ^ (12 - (lg s).toNat) : Nat) : Int) else 0) n := by
    apply fsum_cg
    intro s hs
    have := hlg s hs
    rw [if_pos (by omega)]
  have hlow : fsum (fun s => if 1 ≤ lg s ∧ lg s ≤ ((0 : Nat) : Int) then ((2 ^ (12 - (lg s).toNat) : Nat) : Int) else 0) n = 0 := by
    have : fsum (fun s => if 1 ≤ lg s ∧ lg s ≤ ((0 : Nat) : Int) then ((2 ^ (12 - (lg s).toNat) : Nat) : Int) else 0) n = fsum (fun _ => (0 : Int)) n := fsum_cg (fun s _ => by rw [if_neg (by omega)])
    rw [this]
    have z : ∀ m : Nat, fsum (fun _ => (0 : Int)) m = 0 := by
      intro m
      induction m with
      | zero => rfl
      | succ m ih => rw [fsum, ih]; rfl
    exact z n
  have loop : ∀ (f l : Nat) (sm : Int), l + f = 12 → sm = fsum (fun s => if 1 ≤ lg s ∧ lg s ≤ (l : Int) then ((2 ^ (12 - (lg s).toNat) : Nat) : Int) else 0) n → (0 ≤ sm ∧ sm ≤ 1000000 * l) →
      ax_W m_Cd_areWhole 0 4 [some (.ref 22), some (.int (iv sm)), some (.int (iv ((l : Int) + 1)))] [] h0 (fun r h1 => ∃ b : Bool, r = some (.int (iv (bz b))) ∧ h1 = h0 ∧ b = decide (kraft lg n = 4096)) := by
    intro f
    induction f with
    | zero =>
      intro l sm he hs hb
      have hl : l = 12 := by omega
      subst hl
      rw [← hk] at hs
      refine ax_iload_n d_Cd_areWhole_4 rfl ?_
      refine az_bipush _ d_Cd_areWhole_5 (by decide) ?_
      refine az_icmp_gt 30 d_Cd_areWhole_7 (by decide) (by omega) (by omega) (fun hc => ?_) (fun hc => ?_)
      · refine ax_iload_n d_Cd_areWhole_30 rfl ?_
        refine az_sipush _ d_Cd_areWhole_31 (by decide) ?_
        refine az_icmp_ne 41 d_Cd_areWhole_34 (by decide) (by omega) (by omega) (fun hq => ?_) (fun hq => ?_)
        · refine az_iconst d_Cd_areWhole_41 ?_
          refine ax_zret d_Cd_areWhole_42 rfl (by decide) ?_
          refine ⟨false, rfl, rfl, ?_⟩
          symm
          exact decide_eq_false (fun w => hq (by rw [hs]; exact w))
        · refine az_iconst d_Cd_areWhole_37 ?_
          refine ax_goto 42 d_Cd_areWhole_38 (by decide) ?_
          refine ax_zret d_Cd_areWhole_42 rfl (by decide) ?_
          refine ⟨true, rfl, rfl, ?_⟩
          symm
          exact decide_eq_true (by rw [← hs]; exact hq)
      · exfalso
        omega
    | succ f ih =>
      intro l sm he hs hb
      have hc9 : nlc lg n ((l + 1 : Nat) : Int) ≤ n := cnt_le _ _
      have hp9 : 2 ^ (12 - (l + 1)) ≤ 2 ^ 11 := Nat.pow_le_pow_right (by decide) (by omega)
      have hp8 : (2 : Nat) ^ 11 = 2048 := by decide
      have hm9 : nlc lg n ((l + 1 : Nat) : Int) * 2 ^ (12 - (l + 1)) ≤ 258 * 2048 := Nat.mul_le_mul (by omega) (by omega)
      refine ax_iload_n d_Cd_areWhole_4 rfl ?_
      refine az_bipush _ d_Cd_areWhole_5 (by decide) ?_
      refine az_icmp_gt 30 d_Cd_areWhole_7 (by decide) (by omega) (by omega) (fun hc => ?_) (fun hc => ?_)
      · exfalso
        omega
      · refine ax_iload_n d_Cd_areWhole_10 rfl ?_
        refine ax_aload_n d_Cd_areWhole_11 rfl ?_
        refine ax_get d_Cd_areWhole_12 fg_Cd_31 (by first | assumption | exact hH.g 0 rfl | exact hH.g 1 rfl | exact hH.g 2 rfl | exact hH.g 3 rfl | exact hH.g 4 rfl | exact hH.g 5 rfl) (by rfl) ?_
        refine ax_iload_n d_Cd_areWhole_15 rfl ?_
        refine az_iald d_Cd_areWhole_16 (by first | assumption | exact hH.g 0 rfl | exact hH.g 1 rfl | exact hH.g 2 rfl | exact hH.g 3 rfl | exact hH.g 4 rfl | exact hH.g 5 rfl) (by omega) (by omega) (by omega) ?_
        have e1 : ((l : Int) + 1).toNat = l + 1 := by omega
        rw [e1, hpl (l + 1) (by omega) (by omega)]
        refine az_bipush _ d_Cd_areWhole_17 (by decide) ?_
        refine ax_iload_n d_Cd_areWhole_19 rfl ?_
        refine az_isub d_Cd_areWhole_20 ?_
        refine az_ishl d_Cd_areWhole_21 ?_
        have e2 : (12 : Int) - ((l : Int) + 1) = ((12 - (l + 1) : Nat) : Int) := by omega
        rw [e2, zshl_pow (by omega) (by omega)]
        refine az_iadd d_Cd_areWhole_22 ?_
        refine ax_istore_n d_Cd_areWhole_23 (by decide) rfl ?_
        refine az_iinc d_Cd_areWhole_24 rfl (by decide) rfl ?_
        refine ax_goto 4 d_Cd_areWhole_27 (by decide) ?_
        have e3 : ((l : Int) + 1 + 1) = ((l + 1 : Nat) : Int) + 1 := by omega
        rw [e3]
        refine ih (l + 1) _ (by omega) ?_ (by omega)
        rw [kraft_le, ← hs]
        rw [Int.natCast_mul]
  exact loop 12 0 0 (by omega) hlow.symm (by omega)
