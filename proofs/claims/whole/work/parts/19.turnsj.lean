/-! Turns: the methods -/
def TuL (n rc db : Int) (o p rk ln off : Nat → Int) : List (Nat × ax_C) := [(7, ob 10 [.ref 8, .ref 10, .ref 11, .ref 12, .ref 13, .ref 14, .int (iv n), .int (iv rc), .int (iv db)]), (10, ia 900 o), (11, ia 900 p), (12, ia 900 rk), (13, ia 900 ln), (14, ia 901 off)]
abbrev TS : List Nat := [7, 10, 11, 12, 13, 14]
def arz (n : Int) (a : Int) : Int := if a < 0 then a + n else if a < n then a else a - n
set_option maxRecDepth 100000 in
theorem c_Tu_around {h0 : ax_H} {n : Nat} {rc db : Int} {o p rk ln off : Nat → Int} (hH : Hs h0 (TuL n rc db o p rk ln off)) (hn : n ≤ 900) {a : Int} (ha : -900 ≤ a ∧ a ≤ 2000) : ax_Ci m_Tu_around 0 [.ref 7, .int (iv a)] h0 (fun z h1 => h1 = h0 ∧ z = arz n a) := by
  refine ax_enter [some (.ref 7), some (.int (iv a))] rfl (Nat.le_of_ble_eq_true rfl) (by decide) ?_
  refine ax_iload_n d_Tu_around_0 rfl ?_
  refine az_if_ge 11 d_Tu_around_1 (by decide) (by first | exact bz_in _ | omega) (fun hc => ?_) (fun hc => ?_)
  · refine ax_iload_n d_Tu_around_11 rfl ?_
    refine ax_aload_n d_Tu_around_12 rfl ?_
    refine ax_get d_Tu_around_13 fg_Tu_36 (by first | assumption | exact hH.g 0 rfl | exact hH.g 1 rfl | exact hH.g 2 rfl | exact hH.g 3 rfl | exact hH.g 4 rfl | exact hH.g 5 rfl) (by rfl) ?_
    refine az_icmp_ge 23 d_Tu_around_16 (by decide) (by omega) (by omega) (fun hc => ?_) (fun hc => ?_)
    · refine ax_iload_n d_Tu_around_23 rfl ?_
      refine ax_aload_n d_Tu_around_24 rfl ?_
      refine ax_get d_Tu_around_25 fg_Tu_36 (by first | assumption | exact hH.g 0 rfl | exact hH.g 1 rfl | exact hH.g 2 rfl | exact hH.g 3 rfl | exact hH.g 4 rfl | exact hH.g 5 rfl) (by rfl) ?_
      refine az_isub d_Tu_around_28 ?_
      refine ax_iret d_Tu_around_29 rfl ?_
      exact ⟨_, rfl, rfl, by rw [arz, if_neg (by omega), if_neg (by omega)]⟩
    · refine ax_iload_n d_Tu_around_19 rfl ?_
      refine ax_goto 29 d_Tu_around_20 (by decide) ?_
      refine ax_iret d_Tu_around_29 rfl ?_
      exact ⟨_, rfl, rfl, by rw [arz, if_neg (by omega), if_pos (by omega)]⟩
  · refine ax_iload_n d_Tu_around_4 rfl ?_
    refine ax_aload_n d_Tu_around_5 rfl ?_
    refine ax_get d_Tu_around_6 fg_Tu_36 (by first | assumption | exact hH.g 0 rfl | exact hH.g 1 rfl | exact hH.g 2 rfl | exact hH.g 3 rfl | exact hH.g 4 rfl | exact hH.g 5 rfl) (by rfl) ?_
    refine az_iadd d_Tu_around_9 ?_
    refine ax_iret d_Tu_around_10 rfl ?_
    exact ⟨_, rfl, rfl, by rw [arz, if_pos (by omega)]⟩
set_option maxRecDepth 100000 in
theorem c_Tu_turnAt {h0 : ax_H} {n : Nat} {rc db : Int} {o p rk ln off : Nat → Int} (hH : Hs h0 (TuL n rc db o p rk ln off)) (hn : n ≤ 900) {k : Int} (hk : -2147483648 ≤ k ∧ k < 2147483648) : ax_Ci m_Tu_turnAt 0 [.ref 7, .int (iv k)] h0 (fun z h1 => h1 = h0 ∧ z = if 0 ≤ k ∧ k < n then o k.toNat else -2) := by
  refine ax_enter [some (.ref 7), some (.int (iv k))] rfl (Nat.le_of_ble_eq_true rfl) (by decide) ?_
  refine ax_iload_n d_Tu_turnAt_0 rfl ?_
  refine az_if_lt 21 d_Tu_turnAt_1 (by decide) (by first | exact bz_in _ | omega) (fun hc => ?_) (fun hc => ?_)
  · refine az_bipush _ d_Tu_turnAt_21 (by decide) ?_
    refine ax_iret d_Tu_turnAt_23 rfl ?_
    exact ⟨_, rfl, rfl, by rw [if_neg (by omega)]⟩
  · refine ax_iload_n d_Tu_turnAt_4 rfl ?_
    refine ax_aload_n d_Tu_turnAt_5 rfl ?_
    refine ax_get d_Tu_turnAt_6 fg_Tu_36 (by first | assumption | exact hH.g 0 rfl | exact hH.g 1 rfl | exact hH.g 2 rfl | exact hH.g 3 rfl | exact hH.g 4 rfl | exact hH.g 5 rfl) (by rfl) ?_
    refine az_icmp_ge 21 d_Tu_turnAt_9 (by decide) (by omega) (by omega) (fun hc => ?_) (fun hc => ?_)
    · refine az_bipush _ d_Tu_turnAt_21 (by decide) ?_
      refine ax_iret d_Tu_turnAt_23 rfl ?_
      exact ⟨_, rfl, rfl, by rw [if_neg (by omega)]⟩
    · refine ax_aload_n d_Tu_turnAt_12 rfl ?_
      refine ax_get d_Tu_turnAt_13 fg_Tu_20 (by first | assumption | exact hH.g 0 rfl | exact hH.g 1 rfl | exact hH.g 2 rfl | exact hH.g 3 rfl | exact hH.g 4 rfl | exact hH.g 5 rfl) (by rfl) ?_
      refine ax_iload_n d_Tu_turnAt_16 rfl ?_
      refine az_iald d_Tu_turnAt_17 (by first | assumption | exact hH.g 0 rfl | exact hH.g 1 rfl | exact hH.g 2 rfl | exact hH.g 3 rfl | exact hH.g 4 rfl | exact hH.g 5 rfl) (by omega) (by omega) (by omega) ?_
      refine ax_goto 23 d_Tu_turnAt_18 (by decide) ?_
      refine ax_iret d_Tu_turnAt_23 rfl ?_
      exact ⟨_, rfl, rfl, by rw [if_pos (by omega)]⟩
set_option maxRecDepth 100000 in
theorem c_Tu_placeOf {h0 : ax_H} {n : Nat} {rc db : Int} {o p rk ln off : Nat → Int} (hH : Hs h0 (TuL n rc db o p rk ln off)) (hn : n ≤ 900) {k : Int} (hk : -2147483648 ≤ k ∧ k < 2147483648) : ax_Ci m_Tu_placeOf 0 [.ref 7, .int (iv k)] h0 (fun z h1 => h1 = h0 ∧ z = if 0 ≤ k ∧ k < n then p k.toNat else -2) := by
  refine ax_enter [some (.ref 7), some (.int (iv k))] rfl (Nat.le_of_ble_eq_true rfl) (by decide) ?_
  refine ax_iload_n d_Tu_placeOf_0 rfl ?_
  refine az_if_lt 21 d_Tu_placeOf_1 (by decide) (by first | exact bz_in _ | omega) (fun hc => ?_) (fun hc => ?_)
  · refine az_bipush _ d_Tu_placeOf_21 (by decide) ?_
    refine ax_iret d_Tu_placeOf_23 rfl ?_
    exact ⟨_, rfl, rfl, by rw [if_neg (by omega)]⟩
  · refine ax_iload_n d_Tu_placeOf_4 rfl ?_
    refine ax_aload_n d_Tu_placeOf_5 rfl ?_
    refine ax_get d_Tu_placeOf_6 fg_Tu_36 (by first | assumption | exact hH.g 0 rfl | exact hH.g 1 rfl | exact hH.g 2 rfl | exact hH.g 3 rfl | exact hH.g 4 rfl | exact hH.g 5 rfl) (by rfl) ?_
    refine az_icmp_ge 21 d_Tu_placeOf_9 (by decide) (by omega) (by omega) (fun hc => ?_) (fun hc => ?_)
    · refine az_bipush _ d_Tu_placeOf_21 (by decide) ?_
      refine ax_iret d_Tu_placeOf_23 rfl ?_
      exact ⟨_, rfl, rfl, by rw [if_neg (by omega)]⟩
    · refine ax_aload_n d_Tu_placeOf_12 rfl ?_
      refine ax_get d_Tu_placeOf_13 fg_Tu_24 (by first | assumption | exact hH.g 0 rfl | exact hH.g 1 rfl | exact hH.g 2 rfl | exact hH.g 3 rfl | exact hH.g 4 rfl | exact hH.g 5 rfl) (by rfl) ?_
      refine ax_iload_n d_Tu_placeOf_16 rfl ?_
      refine az_iald d_Tu_placeOf_17 (by first | assumption | exact hH.g 0 rfl | exact hH.g 1 rfl | exact hH.g 2 rfl | exact hH.g 3 rfl | exact hH.g 4 rfl | exact hH.g 5 rfl) (by omega) (by omega) (by omega) ?_
      refine ax_goto 23 d_Tu_placeOf_18 (by decide) ?_
      refine ax_iret d_Tu_placeOf_23 rfl ?_
      exact ⟨_, rfl, rfl, by rw [if_pos (by omega)]⟩
set_option maxRecDepth 100000 in
theorem c_Tu_lineUp {h0 : ax_H} {n : Nat} {rc db : Int} {o p rk ln off : Nat → Int} (hH : Hs h0 (TuL n rc db o p rk ln off)) (hn : n ≤ 900) : ax_Cv m_Tu_lineUp 0 [.ref 7] h0 (fun h1 => (∃ ln', Hs h1 (TuL n rc db o p rk ln' off) ∧ ∀ k : Nat, k < n → ln' k = k) ∧ Fr TS h0 h1) := by
  refine ax_enter [some (.ref 7), none] rfl (Nat.le_of_ble_eq_true rfl) (by decide) ?_
  refine az_iconst d_Tu_lineUp_0 ?_
  refine ax_istore_n d_Tu_lineUp_1 (by decide) rfl ?_
  have key : ∀ (f i : Nat) (h : ax_H) (ln : Nat → Int), i + f = n → Hs h (TuL n rc db o p rk ln off) → Fr TS h0 h → (∀ k : Nat, k < i → ln k = k) →
      ax_W m_Tu_lineUp 0 2 [some (.ref 7), some (.int (iv i))] [] h (fun r h1 => r = none ∧ (∃ ln', Hs h1 (TuL n rc db o p rk ln' off) ∧ ∀ k : Nat, k < n → ln' k = k) ∧ Fr TS h0 h1) := by
    intro f
    induction f with
    | zero =>
      intro i h ln he hH hF hj
      refine ax_iload_n d_Tu_lineUp_2 rfl ?_
      refine ax_aload_n d_Tu_lineUp_3 rfl ?_
      refine ax_get d_Tu_lineUp_4 fg_Tu_36 (by first | assumption | exact hH.g 0 rfl | exact hH.g 1 rfl | exact hH.g 2 rfl | exact hH.g 3 rfl | exact hH.g 4 rfl | exact hH.g 5 rfl) (by rfl) ?_
      refine az_icmp_ge 23 d_Tu_lineUp_7 (by decide) (by omega) (by omega) (fun hc => ?_) (fun hc => ?_)
      · refine ax_vret d_Tu_lineUp_23 rfl ?_
        exact ⟨rfl, ⟨ln, hH, fun k hk => hj k (by omega)⟩, hF⟩
      · exfalso
        omega
    | succ f ih =>
      intro i h ln he hH hF hj
      refine ax_iload_n d_Tu_lineUp_2 rfl ?_
      refine ax_aload_n d_Tu_lineUp_3 rfl ?_
      refine ax_get d_Tu_lineUp_4 fg_Tu_36 (by first | assumption | exact hH.g 0 rfl | exact hH.g 1 rfl | exact hH.g 2 rfl | exact hH.g 3 rfl | exact hH.g 4 rfl | exact hH.g 5 rfl) (by rfl) ?_
      refine az_icmp_ge 23 d_Tu_lineUp_7 (by decide) (by omega) (by omega) (fun hc => ?_) (fun hc => ?_)
      · exfalso
        omega
      · refine ax_aload_n d_Tu_lineUp_10 rfl ?_
        refine ax_get d_Tu_lineUp_11 fg_Tu_30 (by first | assumption | exact hH.g 0 rfl | exact hH.g 1 rfl | exact hH.g 2 rfl | exact hH.g 3 rfl | exact hH.g 4 rfl | exact hH.g 5 rfl) (by rfl) ?_
        refine ax_iload_n d_Tu_lineUp_14 rfl ?_
        refine ax_iload_n d_Tu_lineUp_15 rfl ?_
        first | refine ah_iast d_Tu_lineUp_16 hH hF 0 rfl rfl (by omega) (by omega) (by omega) (by omega) (fun h hH hF => ?_) | refine ah_iast d_Tu_lineUp_16 hH hF 1 rfl rfl (by omega) (by omega) (by omega) (by omega) (fun h hH hF => ?_) | refine ah_iast d_Tu_lineUp_16 hH hF 2 rfl rfl (by omega) (by omega) (by omega) (by omega) (fun h hH hF => ?_) | refine ah_iast d_Tu_lineUp_16 hH hF 3 rfl rfl (by omega) (by omega) (by omega) (by omega) (fun h hH hF => ?_) | refine ah_iast d_Tu_lineUp_16 hH hF 4 rfl rfl (by omega) (by omega) (by omega) (by omega) (fun h hH hF => ?_) | refine ah_iast d_Tu_lineUp_16 hH hF 5 rfl rfl (by omega) (by omega) (by omega) (by omega) (fun h hH hF => ?_)
        refine az_iinc d_Tu_lineUp_17 rfl (by decide) rfl ?_
        refine ax_goto 2 d_Tu_lineUp_20 (by decide) ?_
        refine ih (i + 1) h (up ln i i) (by omega) hH hF (fun k hk => ?_)
        by_cases e : k = i
        · rw [e, up_at]
        · rw [up_ne e]; exact hj k (by omega)
  exact key n 0 h0 ln (by omega) hH Fr.rf (fun k hk => by omega)
set_option maxRecDepth 100000 in
theorem c_Tu_shift {h0 : ax_H} {n L : Nat} {rc db : Int} {o p rk ln off : Nat → Int} (hH : Hs h0 (TuL n rc db o p rk ln off)) (hn : n ≤ 900) (hL : L ≤ 900) (ho : ∀ k : Nat, k < n → 0 ≤ o k ∧ o k < n) : ax_Cv m_Tu_shift 1 [.ref 7, .int (iv L)] h0 (fun h1 => (∃ ln', Hs h1 (TuL n rc db o p rk ln' off) ∧ ∀ k : Nat, k < n → ln' k = arz n (o k - L)) ∧ Fr TS h0 h1) := by
  refine ax_enter [some (.ref 7), some (.int (iv L)), none] rfl (Nat.le_of_ble_eq_true rfl) (by decide) ?_
  refine az_iconst d_Tu_shift_0 ?_
  refine ax_istore_n d_Tu_shift_1 (by decide) rfl ?_
  have key : ∀ (f i : Nat) (h : ax_H) (ln : Nat → Int), i + f = n → Hs h (TuL n rc db o p rk ln off) → Fr TS h0 h → (∀ k : Nat, k < i → ln k = arz n (o k - L)) →
      ax_W m_Tu_shift 1 2 [some (.ref 7), some (.int (iv L)), some (.int (iv i))] [] h (fun r h1 => r = none ∧ (∃ ln', Hs h1 (TuL n rc db o p rk ln' off) ∧ ∀ k : Nat, k < n → ln' k = arz n (o k - L)) ∧ Fr TS h0 h1) := by
    intro f
    induction f with
    | zero =>
      intro i h ln he hH hF hj
      refine ax_iload_n d_Tu_shift_2 rfl ?_
      refine ax_aload_n d_Tu_shift_3 rfl ?_
      refine ax_get d_Tu_shift_4 fg_Tu_36 (by first | assumption | exact hH.g 0 rfl | exact hH.g 1 rfl | exact hH.g 2 rfl | exact hH.g 3 rfl | exact hH.g 4 rfl | exact hH.g 5 rfl) (by rfl) ?_
      refine az_icmp_ge 34 d_Tu_shift_7 (by decide) (by omega) (by omega) (fun hc => ?_) (fun hc => ?_)
      · refine ax_vret d_Tu_shift_34 rfl ?_
        exact ⟨rfl, ⟨ln, hH, fun k hk => hj k (by omega)⟩, hF⟩
      · exfalso
        omega
    | succ f ih =>
      intro i h ln he hH hF hj
      have hoi := ho i (by omega)
      refine ax_iload_n d_Tu_shift_2 rfl ?_
      refine ax_aload_n d_Tu_shift_3 rfl ?_
      refine ax_get d_Tu_shift_4 fg_Tu_36 (by first | assumption | exact hH.g 0 rfl | exact hH.g 1 rfl | exact hH.g 2 rfl | exact hH.g 3 rfl | exact hH.g 4 rfl | exact hH.g 5 rfl) (by rfl) ?_
      refine az_icmp_ge 34 d_Tu_shift_7 (by decide) (by omega) (by omega) (fun hc => ?_) (fun hc => ?_)
      · exfalso
        omega
      · refine ax_aload_n d_Tu_shift_10 rfl ?_
        refine ax_get d_Tu_shift_11 fg_Tu_30 (by first | assumption | exact hH.g 0 rfl | exact hH.g 1 rfl | exact hH.g 2 rfl | exact hH.g 3 rfl | exact hH.g 4 rfl | exact hH.g 5 rfl) (by rfl) ?_
        refine ax_iload_n d_Tu_shift_14 rfl ?_
        refine ax_aload_n d_Tu_shift_15 rfl ?_
        refine ax_aload_n d_Tu_shift_16 rfl ?_
        refine ax_get d_Tu_shift_17 fg_Tu_20 (by first | assumption | exact hH.g 0 rfl | exact hH.g 1 rfl | exact hH.g 2 rfl | exact hH.g 3 rfl | exact hH.g 4 rfl | exact hH.g 5 rfl) (by rfl) ?_
        refine ax_iload_n d_Tu_shift_20 rfl ?_
        refine az_iald d_Tu_shift_21 (by first | assumption | exact hH.g 0 rfl | exact hH.g 1 rfl | exact hH.g 2 rfl | exact hH.g 3 rfl | exact hH.g 4 rfl | exact hH.g 5 rfl) (by omega) (by omega) (by omega) ?_
        rw [Int.toNat_natCast]
        refine ax_iload_n d_Tu_shift_22 rfl ?_
        refine az_isub d_Tu_shift_23 ?_
        refine ax_cV1 d_Tu_shift_24 v_Tu_around lk_Tu_73 (by first | assumption | exact hH.g 0 rfl | exact hH.g 1 rfl | exact hH.g 2 rfl | exact hH.g 3 rfl | exact hH.g 4 rfl | exact hH.g 5 rfl) (by decide) (Nat.le_of_ble_eq_true rfl) (cm_i (c_Tu_around hH hn (a := o i - L) (by omega)) (fun z h3 hp => ?_))
        obtain ⟨rfl, rfl⟩ := hp
        first | refine ah_iast d_Tu_shift_27 hH hF 0 rfl rfl (by omega) (by omega) (by omega) (by omega) (fun h hH hF => ?_) | refine ah_iast d_Tu_shift_27 hH hF 1 rfl rfl (by omega) (by omega) (by omega) (by omega) (fun h hH hF => ?_) | refine ah_iast d_Tu_shift_27 hH hF 2 rfl rfl (by omega) (by omega) (by omega) (by omega) (fun h hH hF => ?_) | refine ah_iast d_Tu_shift_27 hH hF 3 rfl rfl (by omega) (by omega) (by omega) (by omega) (fun h hH hF => ?_) | refine ah_iast d_Tu_shift_27 hH hF 4 rfl rfl (by omega) (by omega) (by omega) (by omega) (fun h hH hF => ?_) | refine ah_iast d_Tu_shift_27 hH hF 5 rfl rfl (by omega) (by omega) (by omega) (by omega) (fun h hH hF => ?_)
        refine az_iinc d_Tu_shift_28 rfl (by decide) rfl ?_
        refine ax_goto 2 d_Tu_shift_31 (by decide) ?_
        refine ih (i + 1) h (up ln i (arz n (o i - L))) (by omega) hH hF (fun k hk => ?_)
        by_cases e : k = i
        · rw [e, up_at]
        · rw [up_ne e]; exact hj k (by omega)
  exact key n 0 h0 ln (by omega) hH Fr.rf (fun k hk => by omega)
theorem ltC_succ (n : Nat) (rk : Nat → Int) (c : Int) : ltC n rk (c + 1) = ltC n rk c + cnt (fun q => decide (rk q = c)) n := cl_succ rk n c
set_option maxRecDepth 100000 in
set_option maxHeartbeats 4000000 in
theorem c_Tu_sortByRank {h0 : ax_H} {n rc : Nat} {db : Int} {o p rk ln off : Nat → Int} {lp : Nat → Nat} (hH : Hs h0 (TuL n rc db o p rk ln off)) (hn : n ≤ 900) (hrc : rc ≤ 900) (hrk : ∀ q : Nat, q < n → 0 ≤ rk q ∧ rk q < rc)
    (hlp : ∀ q : Nat, q < n → lp q < n ∧ ln (lp q) = q) (hln : ∀ k : Nat, k < n → ∃ t : Nat, t < n ∧ ln k = t ∧ lp t = k) : ax_Cv m_Tu_sortByRank 0 [.ref 7] h0 (fun h1 => (∃ o' off', Hs h1 (TuL n rc db o' p rk ln off') ∧ ∀ q : Nat, q < n → o' (plc (lt2 rk lp) n q) = q) ∧ Fr TS h0 h1) := by
  have hinj : injN n lp := by
    intro a b ha hb e
    have h1 := (hlp a ha).2
    have h2 := (hlp b hb).2
    rw [e] at h1
    omega
  refine ax_enter [some (.ref 7), none, none] rfl (Nat.le_of_ble_eq_true rfl) (by decide) ?_
  refine az_iconst d_Tu_sortByRank_0 ?_
  refine ax_istore_n d_Tu_sortByRank_1 (by decide) rfl ?_
  have loopD : ∀ (f k : Nat) (h : ax_H) (o off : Nat → Int), k + f = n → Hs h (TuL n rc db o p rk ln off) → Fr TS h0 h → (∀ c : Nat, c < rc → off c = (ltC n rk c + eqB n rk lp k c : Nat)) → (∀ q : Nat, q < n → lp q < k → o (plc (lt2 rk lp) n q) = q) → ∀ v2 : Option Value,
      ax_W m_Tu_sortByRank 0 91 [some (.ref 7), some (.int (iv k)), v2] [] h (fun r h1 => r = none ∧ (∃ o' off', Hs h1 (TuL n rc db o' p rk ln off') ∧ ∀ q : Nat, q < n → o' (plc (lt2 rk lp) n q) = q) ∧ Fr TS h0 h1) := by
    intro f
    induction f with
    | zero =>
      intro k h o off he hH hF ho hx v2
      refine ax_iload_n d_Tu_sortByRank_91 rfl ?_
      refine ax_aload_n d_Tu_sortByRank_92 rfl ?_
      refine ax_get d_Tu_sortByRank_93 fg_Tu_36 (by first | assumption | exact hH.g 0 rfl | exact hH.g 1 rfl | exact hH.g 2 rfl | exact hH.g 3 rfl | exact hH.g 4 rfl | exact hH.g 5 rfl) (by rfl) ?_
      refine az_icmp_ge 144 d_Tu_sortByRank_96 (by decide) (by omega) (by omega) (fun hc => ?_) (fun hc => ?_)
      · refine ax_vret d_Tu_sortByRank_144 rfl ?_
        exact ⟨rfl, ⟨o, off, hH, fun q hq => hx q hq (by have := (hlp q hq).1; omega)⟩, hF⟩
      · exfalso
        omega
    | succ f ih =>
      intro k h o off he hH hF ho hx v2
      obtain ⟨t, ht, hlk, hlt⟩ := hln k (by omega)
      have hr := hrk t ht
      obtain ⟨c, hcc⟩ := Int.eq_ofNat_of_zero_le hr.1
      have hpl := plc_lt_n (lt2_ok (rk := rk) hinj) ht
      have hpe := plc_lt2 (n := n) (rk := rk) (lp := lp) (p := t)
      have hoc : off c = (plc (lt2 rk lp) n t : Nat) := by rw [ho c (by omega), hpe, hlt, hcc]
      refine ax_iload_n d_Tu_sortByRank_91 rfl ?_
      refine ax_aload_n d_Tu_sortByRank_92 rfl ?_
      refine ax_get d_Tu_sortByRank_93 fg_Tu_36 (by first | assumption | exact hH.g 0 rfl | exact hH.g 1 rfl | exact hH.g 2 rfl | exact hH.g 3 rfl | exact hH.g 4 rfl | exact hH.g 5 rfl) (by rfl) ?_
      refine az_icmp_ge 144 d_Tu_sortByRank_96 (by decide) (by omega) (by omega) (fun hc => ?_) (fun hc => ?_)
      · exfalso
        omega
      · refine ax_aload_n d_Tu_sortByRank_99 rfl ?_
        refine ax_get d_Tu_sortByRank_100 fg_Tu_27 (by first | assumption | exact hH.g 0 rfl | exact hH.g 1 rfl | exact hH.g 2 rfl | exact hH.g 3 rfl | exact hH.g 4 rfl | exact hH.g 5 rfl) (by rfl) ?_
        refine ax_aload_n d_Tu_sortByRank_103 rfl ?_
        refine ax_get d_Tu_sortByRank_104 fg_Tu_30 (by first | assumption | exact hH.g 0 rfl | exact hH.g 1 rfl | exact hH.g 2 rfl | exact hH.g 3 rfl | exact hH.g 4 rfl | exact hH.g 5 rfl) (by rfl) ?_
        refine ax_iload_n d_Tu_sortByRank_107 rfl ?_
        refine az_iald d_Tu_sortByRank_108 (by first | assumption | exact hH.g 0 rfl | exact hH.g 1 rfl | exact hH.g 2 rfl | exact hH.g 3 rfl | exact hH.g 4 rfl | exact hH.g 5 rfl) (by omega) (by omega) (by omega) ?_
        rw [Int.toNat_natCast, hlk]
        refine az_iald d_Tu_sortByRank_109 (by first | assumption | exact hH.g 0 rfl | exact hH.g 1 rfl | exact hH.g 2 rfl | exact hH.g 3 rfl | exact hH.g 4 rfl | exact hH.g 5 rfl) (by omega) (by omega) (by omega) ?_
        rw [Int.toNat_natCast, hcc]
        refine ax_istore_n d_Tu_sortByRank_110 (by decide) rfl ?_
        refine ax_aload_n d_Tu_sortByRank_111 rfl ?_
        refine ax_get d_Tu_sortByRank_112 fg_Tu_20 (by first | assumption | exact hH.g 0 rfl | exact hH.g 1 rfl | exact hH.g 2 rfl | exact hH.g 3 rfl | exact hH.g 4 rfl | exact hH.g 5 rfl) (by rfl) ?_
        refine ax_aload_n d_Tu_sortByRank_115 rfl ?_
        refine ax_get d_Tu_sortByRank_116 fg_Tu_33 (by first | assumption | exact hH.g 0 rfl | exact hH.g 1 rfl | exact hH.g 2 rfl | exact hH.g 3 rfl | exact hH.g 4 rfl | exact hH.g 5 rfl) (by rfl) ?_
        refine ax_iload_n d_Tu_sortByRank_119 rfl ?_
        refine az_iald d_Tu_sortByRank_120 (by first | assumption | exact hH.g 0 rfl | exact hH.g 1 rfl | exact hH.g 2 rfl | exact hH.g 3 rfl | exact hH.g 4 rfl | exact hH.g 5 rfl) (by omega) (by omega) (by omega) ?_
        rw [Int.toNat_natCast, hoc]
        refine ax_aload_n d_Tu_sortByRank_121 rfl ?_
        refine ax_get d_Tu_sortByRank_122 fg_Tu_30 (by first | assumption | exact hH.g 0 rfl | exact hH.g 1 rfl | exact hH.g 2 rfl | exact hH.g 3 rfl | exact hH.g 4 rfl | exact hH.g 5 rfl) (by rfl) ?_
        refine ax_iload_n d_Tu_sortByRank_125 rfl ?_
        refine az_iald d_Tu_sortByRank_126 (by first | assumption | exact hH.g 0 rfl | exact hH.g 1 rfl | exact hH.g 2 rfl | exact hH.g 3 rfl | exact hH.g 4 rfl | exact hH.g 5 rfl) (by omega) (by omega) (by omega) ?_
        rw [Int.toNat_natCast, hlk]
        first | refine ah_iast d_Tu_sortByRank_127 hH hF 0 rfl rfl (by omega) (by omega) (by omega) (by omega) (fun h hH hF => ?_) | refine ah_iast d_Tu_sortByRank_127 hH hF 1 rfl rfl (by omega) (by omega) (by omega) (by omega) (fun h hH hF => ?_) | refine ah_iast d_Tu_sortByRank_127 hH hF 2 rfl rfl (by omega) (by omega) (by omega) (by omega) (fun h hH hF => ?_) | refine ah_iast d_Tu_sortByRank_127 hH hF 3 rfl rfl (by omega) (by omega) (by omega) (by omega) (fun h hH hF => ?_) | refine ah_iast d_Tu_sortByRank_127 hH hF 4 rfl rfl (by omega) (by omega) (by omega) (by omega) (fun h hH hF => ?_) | refine ah_iast d_Tu_sortByRank_127 hH hF 5 rfl rfl (by omega) (by omega) (by omega) (by omega) (fun h hH hF => ?_)
        refine ax_aload_n d_Tu_sortByRank_128 rfl ?_
        refine ax_get d_Tu_sortByRank_129 fg_Tu_33 (by first | assumption | exact hH.g 0 rfl | exact hH.g 1 rfl | exact hH.g 2 rfl | exact hH.g 3 rfl | exact hH.g 4 rfl | exact hH.g 5 rfl) (by rfl) ?_
        refine ax_iload_n d_Tu_sortByRank_132 rfl ?_
        refine ax_dup2 d_Tu_sortByRank_133 rfl rfl ?_
        refine az_iald d_Tu_sortByRank_134 (by first | assumption | exact hH.g 0 rfl | exact hH.g 1 rfl | exact hH.g 2 rfl | exact hH.g 3 rfl | exact hH.g 4 rfl | exact hH.g 5 rfl) (by omega) (by omega) (by omega) ?_
        refine az_iconst d_Tu_sortByRank_135 ?_
        refine az_iadd d_Tu_sortByRank_136 ?_
        first | refine ah_iast d_Tu_sortByRank_137 hH hF 0 rfl rfl (by omega) (by omega) (by omega) (by omega) (fun h hH hF => ?_) | refine ah_iast d_Tu_sortByRank_137 hH hF 1 rfl rfl (by omega) (by omega) (by omega) (by omega) (fun h hH hF => ?_) | refine ah_iast d_Tu_sortByRank_137 hH hF 2 rfl rfl (by omega) (by omega) (by omega) (by omega) (fun h hH hF => ?_) | refine ah_iast d_Tu_sortByRank_137 hH hF 3 rfl rfl (by omega) (by omega) (by omega) (by omega) (fun h hH hF => ?_) | refine ah_iast d_Tu_sortByRank_137 hH hF 4 rfl rfl (by omega) (by omega) (by omega) (by omega) (fun h hH hF => ?_) | refine ah_iast d_Tu_sortByRank_137 hH hF 5 rfl rfl (by omega) (by omega) (by omega) (by omega) (fun h hH hF => ?_)
        refine az_iinc d_Tu_sortByRank_138 rfl (by decide) rfl ?_
        refine ax_goto 91 d_Tu_sortByRank_141 (by decide) ?_
        refine ih (k + 1) h (up o (plc (lt2 rk lp) n t) t) (up off c (off c + 1)) (by omega) hH hF (fun c2 hc2 => ?_) (fun q hq hlq => ?_) _
        · rw [eqB_succ hinj ht hlt]
          by_cases e : c2 = c
          · rw [e, up_at, ho c (by omega), if_pos hcc]
            omega
          · rw [up_ne e, ho c2 hc2, if_neg (by omega)]
            rfl
        · by_cases e : q = t
          · rw [e, up_at]
          · rw [up_ne (fun w => e (plc_inj (lt2_ok hinj) hq ht w))]
            refine hx q hq ?_
            have : lp q ≠ k := fun w => e (hinj q t hq ht (by omega))
            omega
  have loopC : ∀ (f r : Nat) (h : ax_H) (off : Nat → Int), r + f = rc → Hs h (TuL n rc db o p rk ln off) → Fr TS h0 h → (∀ j : Nat, j ≤ rc → off j = if j ≤ r then (ltC n rk j : Int) else (cnt (fun q => decide (rk q = ((j - 1 : Nat) : Int))) n : Int)) →
      ax_W m_Tu_sortByRank 0 58 [some (.ref 7), some (.int (iv r)), none] [] h (fun r h1 => r = none ∧ (∃ o' off', Hs h1 (TuL n rc db o' p rk ln off') ∧ ∀ q : Nat, q < n → o' (plc (lt2 rk lp) n q) = q) ∧ Fr TS h0 h1) := by
    intro f
    induction f with
    | zero =>
      intro r h off he hH hF ho
      refine ax_iload_n d_Tu_sortByRank_58 rfl ?_
      refine ax_aload_n d_Tu_sortByRank_59 rfl ?_
      refine ax_get d_Tu_sortByRank_60 fg_Tu_51 (by first | assumption | exact hH.g 0 rfl | exact hH.g 1 rfl | exact hH.g 2 rfl | exact hH.g 3 rfl | exact hH.g 4 rfl | exact hH.g 5 rfl) (by rfl) ?_
      refine az_icmp_ge 89 d_Tu_sortByRank_63 (by decide) (by omega) (by omega) (fun hc => ?_) (fun hc => ?_)
      · refine az_iconst d_Tu_sortByRank_89 ?_
        refine ax_istore_n d_Tu_sortByRank_90 (by decide) rfl ?_
        refine loopD n 0 h o off (by omega) hH hF (fun c hc => ?_) (fun q _ hq => by omega) none
        rw [ho c (by omega), if_pos (by omega), eqB_0]
        rfl
      · exfalso
        omega
    | succ f ih =>
      intro r h off he hH hF ho
      refine ax_iload_n d_Tu_sortByRank_58 rfl ?_
      refine ax_aload_n d_Tu_sortByRank_59 rfl ?_
      refine ax_get d_Tu_sortByRank_60 fg_Tu_51 (by first | assumption | exact hH.g 0 rfl | exact hH.g 1 rfl | exact hH.g 2 rfl | exact hH.g 3 rfl | exact hH.g 4 rfl | exact hH.g 5 rfl) (by rfl) ?_
      refine az_icmp_ge 89 d_Tu_sortByRank_63 (by decide) (by omega) (by omega) (fun hc => ?_) (fun hc => ?_)
      · exfalso
        omega
      · refine ax_aload_n d_Tu_sortByRank_66 rfl ?_
        refine ax_get d_Tu_sortByRank_67 fg_Tu_33 (by first | assumption | exact hH.g 0 rfl | exact hH.g 1 rfl | exact hH.g 2 rfl | exact hH.g 3 rfl | exact hH.g 4 rfl | exact hH.g 5 rfl) (by rfl) ?_
        refine ax_iload_n d_Tu_sortByRank_70 rfl ?_
        refine az_iconst d_Tu_sortByRank_71 ?_
        refine az_iadd d_Tu_sortByRank_72 ?_
        refine ax_dup2 d_Tu_sortByRank_73 rfl rfl ?_
        refine az_iald d_Tu_sortByRank_74 (by first | assumption | exact hH.g 0 rfl | exact hH.g 1 rfl | exact hH.g 2 rfl | exact hH.g 3 rfl | exact hH.g 4 rfl | exact hH.g 5 rfl) (by omega) (by omega) (by omega) ?_
        refine ax_aload_n d_Tu_sortByRank_75 rfl ?_
        refine ax_get d_Tu_sortByRank_76 fg_Tu_33 (by first | assumption | exact hH.g 0 rfl | exact hH.g 1 rfl | exact hH.g 2 rfl | exact hH.g 3 rfl | exact hH.g 4 rfl | exact hH.g 5 rfl) (by rfl) ?_
        refine ax_iload_n d_Tu_sortByRank_79 rfl ?_
        refine az_iald d_Tu_sortByRank_80 (by first | assumption | exact hH.g 0 rfl | exact hH.g 1 rfl | exact hH.g 2 rfl | exact hH.g 3 rfl | exact hH.g 4 rfl | exact hH.g 5 rfl) (by omega) (by omega) (by omega) ?_
        refine az_iadd d_Tu_sortByRank_81 ?_
        first | refine ah_iast d_Tu_sortByRank_82 hH hF 0 rfl rfl (by omega) (by omega) (by omega) (by omega) (fun h hH hF => ?_) | refine ah_iast d_Tu_sortByRank_82 hH hF 1 rfl rfl (by omega) (by omega) (by omega) (by omega) (fun h hH hF => ?_) | refine ah_iast d_Tu_sortByRank_82 hH hF 2 rfl rfl (by omega) (by omega) (by omega) (by omega) (fun h hH hF => ?_) | refine ah_iast d_Tu_sortByRank_82 hH hF 3 rfl rfl (by omega) (by omega) (by omega) (by omega) (fun h hH hF => ?_) | refine ah_iast d_Tu_sortByRank_82 hH hF 4 rfl rfl (by omega) (by omega) (by omega) (by omega) (fun h hH hF => ?_) | refine ah_iast d_Tu_sortByRank_82 hH hF 5 rfl rfl (by omega) (by omega) (by omega) (by omega) (fun h hH hF => ?_)
        refine az_iinc d_Tu_sortByRank_83 rfl (by decide) rfl ?_
        refine ax_goto 58 d_Tu_sortByRank_86 (by decide) ?_
        have e1 : ((r : Int) + 1).toNat = r + 1 := by omega
        rw [e1, Int.toNat_natCast] at hH
        refine ih (r + 1) h (up off (r + 1) (off (r + 1) + off r)) (by omega) hH hF (fun j hj => ?_)
        by_cases e : j = r + 1
        · rw [e, up_at, if_pos (by omega), ho (r + 1) (by omega), ho r (by omega), if_neg (by omega), if_pos (by omega)]
          rw [show ((r + 1 : Nat) : Int) = (r : Int) + 1 by omega, ltC_succ, Nat.add_sub_cancel]
          omega
        · rw [up_ne e, ho j hj]
          by_cases e2 : j ≤ r
          · rw [if_pos e2, if_pos (by omega)]
          · rw [if_neg e2, if_neg (by omega)]
  have loopB : ∀ (f k : Nat) (h : ax_H) (off : Nat → Int), k + f = n → Hs h (TuL n rc db o p rk ln off) → Fr TS h0 h → (∀ j : Nat, j ≤ rc → off j = if j = 0 then 0 else (cnt (fun q => decide (rk q = ((j - 1 : Nat) : Int))) k : Int)) →
      ax_W m_Tu_sortByRank 0 25 [some (.ref 7), some (.int (iv k)), none] [] h (fun r h1 => r = none ∧ (∃ o' off', Hs h1 (TuL n rc db o' p rk ln off') ∧ ∀ q : Nat, q < n → o' (plc (lt2 rk lp) n q) = q) ∧ Fr TS h0 h1) := by
    intro f
    induction f with
    | zero =>
      intro k h off he hH hF ho
      have hk : k = n := by omega
      subst hk
      refine ax_iload_n d_Tu_sortByRank_25 rfl ?_
      refine ax_aload_n d_Tu_sortByRank_26 rfl ?_
      refine ax_get d_Tu_sortByRank_27 fg_Tu_36 (by first | assumption | exact hH.g 0 rfl | exact hH.g 1 rfl | exact hH.g 2 rfl | exact hH.g 3 rfl | exact hH.g 4 rfl | exact hH.g 5 rfl) (by rfl) ?_
      refine az_icmp_ge 56 d_Tu_sortByRank_30 (by decide) (by omega) (by omega) (fun hc => ?_) (fun hc => ?_)
      · refine az_iconst d_Tu_sortByRank_56 ?_
        refine ax_istore_n d_Tu_sortByRank_57 (by decide) rfl ?_
        refine loopC rc 0 h off (by omega) hH hF (fun j hj => ?_)
        rw [ho j hj]
        by_cases e : j = 0
        · subst e
          rw [if_pos rfl, if_pos (by omega)]
          have : ltC k rk ((0 : Nat) : Int) = 0 := cnt_false (fun q hq => decide_eq_false (by have := (hrk q hq).1; omega))
          rw [this]
          rfl
        · rw [if_neg e, if_neg (by omega)]
      · exfalso
        omega
    | succ f ih =>
      intro k h off he hH hF ho
      have hr := hrk k (by omega)
      obtain ⟨c, hcc⟩ := Int.eq_ofNat_of_zero_le hr.1
      refine ax_iload_n d_Tu_sortByRank_25 rfl ?_
      refine ax_aload_n d_Tu_sortByRank_26 rfl ?_
      refine ax_get d_Tu_sortByRank_27 fg_Tu_36 (by first | assumption | exact hH.g 0 rfl | exact hH.g 1 rfl | exact hH.g 2 rfl | exact hH.g 3 rfl | exact hH.g 4 rfl | exact hH.g 5 rfl) (by rfl) ?_
      refine az_icmp_ge 56 d_Tu_sortByRank_30 (by decide) (by omega) (by omega) (fun hc => ?_) (fun hc => ?_)
      · exfalso
        omega
      · refine ax_aload_n d_Tu_sortByRank_33 rfl ?_
        refine ax_get d_Tu_sortByRank_34 fg_Tu_33 (by first | assumption | exact hH.g 0 rfl | exact hH.g 1 rfl | exact hH.g 2 rfl | exact hH.g 3 rfl | exact hH.g 4 rfl | exact hH.g 5 rfl) (by rfl) ?_
        refine ax_aload_n d_Tu_sortByRank_37 rfl ?_
        refine ax_get d_Tu_sortByRank_38 fg_Tu_27 (by first | assumption | exact hH.g 0 rfl | exact hH.g 1 rfl | exact hH.g 2 rfl | exact hH.g 3 rfl | exact hH.g 4 rfl | exact hH.g 5 rfl) (by rfl) ?_
        refine ax_iload_n d_Tu_sortByRank_41 rfl ?_
        refine az_iald d_Tu_sortByRank_42 (by first | assumption | exact hH.g 0 rfl | exact hH.g 1 rfl | exact hH.g 2 rfl | exact hH.g 3 rfl | exact hH.g 4 rfl | exact hH.g 5 rfl) (by omega) (by omega) (by omega) ?_
        rw [Int.toNat_natCast, hcc]
        refine az_iconst d_Tu_sortByRank_43 ?_
        refine az_iadd d_Tu_sortByRank_44 ?_
        refine ax_dup2 d_Tu_sortByRank_45 rfl rfl ?_
        refine az_iald d_Tu_sortByRank_46 (by first | assumption | exact hH.g 0 rfl | exact hH.g 1 rfl | exact hH.g 2 rfl | exact hH.g 3 rfl | exact hH.g 4 rfl | exact hH.g 5 rfl) (by omega) (by omega) (by omega) ?_
        refine az_iconst d_Tu_sortByRank_47 ?_
        refine az_iadd d_Tu_sortByRank_48 ?_
        first | refine ah_iast d_Tu_sortByRank_49 hH hF 0 rfl rfl (by omega) (by omega) (by omega) (by omega) (fun h hH hF => ?_) | refine ah_iast d_Tu_sortByRank_49 hH hF 1 rfl rfl (by omega) (by omega) (by omega) (by omega) (fun h hH hF => ?_) | refine ah_iast d_Tu_sortByRank_49 hH hF 2 rfl rfl (by omega) (by omega) (by omega) (by omega) (fun h hH hF => ?_) | refine ah_iast d_Tu_sortByRank_49 hH hF 3 rfl rfl (by omega) (by omega) (by omega) (by omega) (fun h hH hF => ?_) | refine ah_iast d_Tu_sortByRank_49 hH hF 4 rfl rfl (by omega) (by omega) (by omega) (by omega) (fun h hH hF => ?_) | refine ah_iast d_Tu_sortByRank_49 hH hF 5 rfl rfl (by omega) (by omega) (by omega) (by omega) (fun h hH hF => ?_)
        refine az_iinc d_Tu_sortByRank_50 rfl (by decide) rfl ?_
        refine ax_goto 25 d_Tu_sortByRank_53 (by decide) ?_
        have e1 : ((c : Int) + 1).toNat = c + 1 := by omega
        rw [e1] at hH
        refine ih (k + 1) h (up off (c + 1) (off (c + 1) + 1)) (by omega) hH hF (fun j hj => ?_)
        have hs := ce_succ rk k ((j - 1 : Nat) : Int)
        rw [hs]
        by_cases e : j = c + 1
        · rw [e, up_at, ho (c + 1) (by omega), if_neg (by omega), if_neg (by omega), if_pos (by omega)]
          omega
        · rw [up_ne e, ho j hj]
          by_cases e2 : j = 0
          · rw [if_pos e2, if_pos e2]
          · rw [if_neg e2, if_neg e2, if_neg (by omega)]
            rfl
  have loopA : ∀ (f r : Nat) (h : ax_H) (off : Nat → Int), r + f = rc + 1 → Hs h (TuL n rc db o p rk ln off) → Fr TS h0 h → (∀ j : Nat, j < r → off j = 0) →
      ax_W m_Tu_sortByRank 0 2 [some (.ref 7), some (.int (iv r)), none] [] h (fun r h1 => r = none ∧ (∃ o' off', Hs h1 (TuL n rc db o' p rk ln off') ∧ ∀ q : Nat, q < n → o' (plc (lt2 rk lp) n q) = q) ∧ Fr TS h0 h1) := by
    intro f
    induction f with
    | zero =>
      intro r h off he hH hF ho
      refine ax_iload_n d_Tu_sortByRank_2 rfl ?_
      refine ax_aload_n d_Tu_sortByRank_3 rfl ?_
      refine ax_get d_Tu_sortByRank_4 fg_Tu_51 (by first | assumption | exact hH.g 0 rfl | exact hH.g 1 rfl | exact hH.g 2 rfl | exact hH.g 3 rfl | exact hH.g 4 rfl | exact hH.g 5 rfl) (by rfl) ?_
      refine az_icmp_gt 23 d_Tu_sortByRank_7 (by decide) (by omega) (by omega) (fun hc => ?_) (fun hc => ?_)
      · refine az_iconst d_Tu_sortByRank_23 ?_
        refine ax_istore_n d_Tu_sortByRank_24 (by decide) rfl ?_
        refine loopB n 0 h off (by omega) hH hF (fun j hj => ?_)
        rw [ho j (by omega)]
        by_cases e : j = 0
        · rw [if_pos e]
        · rw [if_neg e]
          rfl
      · exfalso
        omega
    | succ f ih =>
      intro r h off he hH hF ho
      refine ax_iload_n d_Tu_sortByRank_2 rfl ?_
      refine ax_aload_n d_Tu_sortByRank_3 rfl ?_
      refine ax_get d_Tu_sortByRank_4 fg_Tu_51 (by first | assumption | exact hH.g 0 rfl | exact hH.g 1 rfl | exact hH.g 2 rfl | exact hH.g 3 rfl | exact hH.g 4 rfl | exact hH.g 5 rfl) (by rfl) ?_
      refine az_icmp_gt 23 d_Tu_sortByRank_7 (by decide) (by omega) (by omega) (fun hc => ?_) (fun hc => ?_)
      · exfalso
        omega
      · refine ax_aload_n d_Tu_sortByRank_10 rfl ?_
        refine ax_get d_Tu_sortByRank_11 fg_Tu_33 (by first | assumption | exact hH.g 0 rfl | exact hH.g 1 rfl | exact hH.g 2 rfl | exact hH.g 3 rfl | exact hH.g 4 rfl | exact hH.g 5 rfl) (by rfl) ?_
        refine ax_iload_n d_Tu_sortByRank_14 rfl ?_
        refine az_iconst d_Tu_sortByRank_15 ?_
        first | refine ah_iast d_Tu_sortByRank_16 hH hF 0 rfl rfl (by omega) (by omega) (by omega) (by omega) (fun h hH hF => ?_) | refine ah_iast d_Tu_sortByRank_16 hH hF 1 rfl rfl (by omega) (by omega) (by omega) (by omega) (fun h hH hF => ?_) | refine ah_iast d_Tu_sortByRank_16 hH hF 2 rfl rfl (by omega) (by omega) (by omega) (by omega) (fun h hH hF => ?_) | refine ah_iast d_Tu_sortByRank_16 hH hF 3 rfl rfl (by omega) (by omega) (by omega) (by omega) (fun h hH hF => ?_) | refine ah_iast d_Tu_sortByRank_16 hH hF 4 rfl rfl (by omega) (by omega) (by omega) (by omega) (fun h hH hF => ?_) | refine ah_iast d_Tu_sortByRank_16 hH hF 5 rfl rfl (by omega) (by omega) (by omega) (by omega) (fun h hH hF => ?_)
        refine az_iinc d_Tu_sortByRank_17 rfl (by decide) rfl ?_
        refine ax_goto 2 d_Tu_sortByRank_20 (by decide) ?_
        refine ih (r + 1) h (up off r 0) (by omega) hH hF (fun j hj => ?_)
        by_cases e : j = r
        · rw [e, up_at]
        · rw [up_ne e]; exact ho j (by omega)
  exact loopA (rc + 1) 0 h0 off (by omega) hH Fr.rf (fun j hj => by omega)
