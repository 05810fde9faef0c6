/-! the reference: what it holds between calls; feed, fill, clear, octet -/
def lb (g : Nat → Int) (l : List Int) : Prop := ∀ i : Nat, i < l.length → g i = sb (l.getD i 0)
def Laid (iz : Nat → Int) (ar : Nat → Nat → Int) (xs : List Int) : Prop := (∀ k : Nat, k < xs.length → ar 7 k = ordT xs k) ∧ (xs.length ≠ 0 → iz 8 = plT xs 0) ∧ (xs.length ≠ 0 → ∃ r : Nat, iz 9 = r ∧ isRnd xs r)
def MoQ (iz : Nat → Int) (ar : Nat → Nat → Int) (xs T out : List Int) (fp : Int) : Prop := iz 0 = xs.length ∧ xs.length ≤ 600 ∧ la (ar 1) xs ∧ Bs xs ∧ (iz 6 = 0 ∨ (iz 6 = 1 ∧ Laid iz ar xs)) ∧ iz 24 = out.length ∧ out.length ≤ 2000 ∧ lb (ar 22) out ∧ Bs out ∧ iz 26 = T.length ∧ T.length ≤ 3000 ∧ lb (ar 25) T ∧ Bs T ∧ iz 29 = fp
theorem MoQ.fr {iz iz1 : Nat → Int} {ar ar1 : Nat → Nat → Int} {xs T out : List Int} {fp : Int} {K K' : List Nat} (k : MoQ iz ar xs T out fp) (hi : KI K iz iz1) (ha : KA K' ar ar1) (h1 : ([0, 6, 8, 9, 24, 26, 29].all fun a => !K.contains a) = true) (h2 : ([1, 7, 22, 25].all fun a => !K'.contains a) = true) : MoQ iz1 ar1 xs T out fp := by
  have hm : ∀ a ∈ [0, 6, 8, 9, 24, 26, 29], iz1 a = iz a := fun a h => hi a (by have := List.all_eq_true.mp h1 a h; simpa using this)
  have hn : ∀ a ∈ [1, 7, 22, 25], ar1 a = ar a := fun a h => ha a (by have := List.all_eq_true.mp h2 a h; simpa using this)
  unfold MoQ Laid at k ⊢
  rw [hm 0 (by decide), hm 6 (by decide), hm 8 (by decide), hm 9 (by decide), hm 24 (by decide), hm 26 (by decide), hm 29 (by decide), hn 1 (by decide), hn 7 (by decide), hn 22 (by decide), hn 25 (by decide)]
  exact k
/-- the block has changed: nothing is laid -/
theorem MoQ.blk {iz iz1 : Nat → Int} {ar ar1 : Nat → Nat → Int} {xs ys T out : List Int} {fp : Int} {K K' : List Nat} (k : MoQ iz ar xs T out fp) (hi : KI K iz iz1) (ha : KA K' ar ar1) (h1 : ([24, 26, 29].all fun a => !K.contains a) = true) (h2 : ([22, 25].all fun a => !K'.contains a) = true) (e0 : iz1 0 = ys.length) (e1 : ys.length ≤ 600) (e2 : la (ar1 1) ys) (e3 : Bs ys) (e6 : iz1 6 = 0) : MoQ iz1 ar1 ys T out fp := by
  have hm : ∀ a ∈ [24, 26, 29], iz1 a = iz a := fun a h => hi a (by have := List.all_eq_true.mp h1 a h; simpa using this)
  have hn : ∀ a ∈ [22, 25], ar1 a = ar a := fun a h => ha a (by have := List.all_eq_true.mp h2 a h; simpa using this)
  obtain ⟨-, -, -, -, -, q⟩ := k
  rw [← hm 24 (by decide), ← hm 26 (by decide), ← hm 29 (by decide), ← hn 22 (by decide), ← hn 25 (by decide)] at q
  exact ⟨e0, e1, e2, e3, Or.inl e6, q⟩
def MoI (h : ax_H) (xs T out : List Int) (fp : Int) : Prop := ∃ iz ar, MoH h iz ar ∧ MoQ iz ar xs T out fp
theorem by_model (x : Int64) {k : Nat} (hk : k < 8) : (((x.toUInt64 >>> ((iv (8 * (k : Int))).toInt64.toUInt64 &&& Int64.toUInt64 63)).toInt64 &&& 255).toInt32).toInt = byN x k := by
  obtain ⟨n, hn, rfl⟩ := wb_of x
  have e : iv (8 * (k : Int)) = nI (8 * k) := by
    rw [← iv_nat]
    exact congrArg iv (by omega)
  rw [e, wb_shr hn (by omega), show (255 : Int64) = lN (2 ^ 8 - 1) from rfl, wb_mask (Nat.lt_of_le_of_lt (Nat.div_le_self _ _) hn) (by decide), lN_i, toInt_nI (by omega)]
  unfold byN
  rw [wb_tn hn]
set_option maxRecDepth 100000 in
set_option maxHeartbeats 4000000 in
theorem c_Mo_feed {h0 : ax_H} {xs T out : List Int} {fp : Int} (hM : MoI h0 xs T out fp) (x : Int64) {n : Int} (hn : -2147483648 ≤ n ∧ n < 2147483648) : ax_Ci m_Mo_feed 1 [.ref 47, .long x, .int (iv n)] h0 (fun z h1 => z = (aAdd 600 xs x n).1 ∧ MoI h1 (aAdd 600 xs x n).2 T out fp ∧ Fr MOS h0 h1) := by
  have hM0 := hM
  obtain ⟨iz, ar, hH, hQ⟩ := hM
  obtain ⟨q0, q1, q2, q3, -⟩ := id hQ
  have hF : Fr MOS h0 h0 := Fr.rf
  unfold aAdd
  refine ax_enter [some (.ref 47), some (.long x), none, some (.int (iv n)), none] rfl (Nat.le_of_ble_eq_true rfl) (by decide) ?_
  refine ax_iload_n d_Mo_feed_0 rfl ?_
  refine aj_i2l d_Mo_feed_1 (by omega) ?_
  refine aj_lconst 1 d_Mo_feed_2 rfl ?_
  refine aj_ldc2 8 d_Mo_feed_3 cn_Mo_70 ?_
  refine ax_cS3 d_Mo_feed_6 s_Mo_isIn lk_Mo_72 (by decide) (Nat.le_of_ble_eq_true rfl) (cm_z (c_Mo_isIn (v := n) (a := 1) (b := 8) (by omega) (by omega) (by omega)) (fun b h1 hq => ?_))
  obtain ⟨rfl, rfl⟩ := hq
  refine az_if_ne 14 d_Mo_feed_9 (by decide) (bz_in _) (fun hcb => ?_) (fun hcb => ?_)
  · have hin := of_decide_eq_true (bz_t hcb)
    rw [if_neg (by omega)]
    refine ax_aload_n d_Mo_feed_14 rfl ?_
    refine ax_get d_Mo_feed_15 fg_Mo_76 (by first | assumption | exact hH.g 0 rfl | exact hH.g 1 rfl | exact hH.g 2 rfl | exact hH.g 3 rfl | exact hH.g 4 rfl | exact hH.g 5 rfl | exact hH.g 6 rfl | exact hH.g 7 rfl | exact hH.g 8 rfl | exact hH.g 9 rfl | exact hH.g 10 rfl | exact hH.g 11 rfl | exact hH.g 12 rfl | exact hH.g 13 rfl | exact hH.g 14 rfl | exact hH.g 15 rfl | exact hH.g 16 rfl | exact hH.g 17 rfl | exact hH.g 18 rfl) (by rfl) ?_
    refine ax_iload_n d_Mo_feed_18 rfl ?_
    refine az_iadd d_Mo_feed_19 ?_
    refine az_sipush _ d_Mo_feed_20 (by decide) ?_
    refine az_icmp_le 29 d_Mo_feed_23 (by decide) (by omega) (by omega) (fun hfull => ?_) (fun hfull => ?_)
    · rw [if_neg (by omega)]
      refine az_iconst d_Mo_feed_29 ?_
      refine ax_istore d_Mo_feed_30 (by decide) rfl ?_
      have key : ∀ (f k : Nat) (iz1 : Nat → Int) (ar1 : Nat → Nat → Int) (h : ax_H), k + f = n.toNat → MoH h iz1 ar1 → Fr MOS h1 h → KI [0] iz iz1 → KA [1] ar ar1 → iz1 0 = xs.length + k → la (ar1 1) (xs ++ byL x k) →
          ax_W m_Mo_feed 1 32 [some (.ref 47), some (.long x), none, some (.int (iv n)), some (.int (iv k))] [] h (fun r0 h2 => ∃ z : Int, r0 = some (.int (iv z)) ∧ z = (xs.length : Int) + n ∧ MoI h2 (xs ++ byL x n.toNat) T out fp ∧ Fr MOS h1 h2) := by
        intro f
        induction f with
        | zero =>
          intro k iz1 ar1 h he hH hF hi ha e0 hl
          have hk : k = n.toNat := by omega
          subst hk
          refine ax_iload d_Mo_feed_32 rfl ?_
          refine ax_iload_n d_Mo_feed_34 rfl ?_
          refine az_icmp_ge 72 d_Mo_feed_35 (by decide) (by omega) (by omega) (fun hc => ?_) (fun hc => ?_)
          · refine ax_aload_n d_Mo_feed_72 rfl ?_
            refine az_iconst d_Mo_feed_73 ?_
            first | refine ah_put d_Mo_feed_74 fp_Mo_81 hH hF 0 rfl rfl rfl (by first | rfl | decide) (Nat.le_of_ble_eq_true rfl) (fun h hH hF => ?_) | refine ah_put d_Mo_feed_74 fp_Mo_81 hH hF 1 rfl rfl rfl (by first | rfl | decide) (Nat.le_of_ble_eq_true rfl) (fun h hH hF => ?_) | refine ah_put d_Mo_feed_74 fp_Mo_81 hH hF 2 rfl rfl rfl (by first | rfl | decide) (Nat.le_of_ble_eq_true rfl) (fun h hH hF => ?_) | refine ah_put d_Mo_feed_74 fp_Mo_81 hH hF 3 rfl rfl rfl (by first | rfl | decide) (Nat.le_of_ble_eq_true rfl) (fun h hH hF => ?_) | refine ah_put d_Mo_feed_74 fp_Mo_81 hH hF 4 rfl rfl rfl (by first | rfl | decide) (Nat.le_of_ble_eq_true rfl) (fun h hH hF => ?_) | refine ah_put d_Mo_feed_74 fp_Mo_81 hH hF 5 rfl rfl rfl (by first | rfl | decide) (Nat.le_of_ble_eq_true rfl) (fun h hH hF => ?_) | refine ah_put d_Mo_feed_74 fp_Mo_81 hH hF 6 rfl rfl rfl (by first | rfl | decide) (Nat.le_of_ble_eq_true rfl) (fun h hH hF => ?_) | refine ah_put d_Mo_feed_74 fp_Mo_81 hH hF 7 rfl rfl rfl (by first | rfl | decide) (Nat.le_of_ble_eq_true rfl) (fun h hH hF => ?_) | refine ah_put d_Mo_feed_74 fp_Mo_81 hH hF 8 rfl rfl rfl (by first | rfl | decide) (Nat.le_of_ble_eq_true rfl) (fun h hH hF => ?_) | refine ah_put d_Mo_feed_74 fp_Mo_81 hH hF 9 rfl rfl rfl (by first | rfl | decide) (Nat.le_of_ble_eq_true rfl) (fun h hH hF => ?_) | refine ah_put d_Mo_feed_74 fp_Mo_81 hH hF 10 rfl rfl rfl (by first | rfl | decide) (Nat.le_of_ble_eq_true rfl) (fun h hH hF => ?_) | refine ah_put d_Mo_feed_74 fp_Mo_81 hH hF 11 rfl rfl rfl (by first | rfl | decide) (Nat.le_of_ble_eq_true rfl) (fun h hH hF => ?_) | refine ah_put d_Mo_feed_74 fp_Mo_81 hH hF 12 rfl rfl rfl (by first | rfl | decide) (Nat.le_of_ble_eq_true rfl) (fun h hH hF => ?_) | refine ah_put d_Mo_feed_74 fp_Mo_81 hH hF 13 rfl rfl rfl (by first | rfl | decide) (Nat.le_of_ble_eq_true rfl) (fun h hH hF => ?_) | refine ah_put d_Mo_feed_74 fp_Mo_81 hH hF 14 rfl rfl rfl (by first | rfl | decide) (Nat.le_of_ble_eq_true rfl) (fun h hH hF => ?_) | refine ah_put d_Mo_feed_74 fp_Mo_81 hH hF 15 rfl rfl rfl (by first | rfl | decide) (Nat.le_of_ble_eq_true rfl) (fun h hH hF => ?_) | refine ah_put d_Mo_feed_74 fp_Mo_81 hH hF 16 rfl rfl rfl (by first | rfl | decide) (Nat.le_of_ble_eq_true rfl) (fun h hH hF => ?_) | refine ah_put d_Mo_feed_74 fp_Mo_81 hH hF 17 rfl rfl rfl (by first | rfl | decide) (Nat.le_of_ble_eq_true rfl) (fun h hH hF => ?_) | refine ah_put d_Mo_feed_74 fp_Mo_81 hH hF 18 rfl rfl rfl (by first | rfl | decide) (Nat.le_of_ble_eq_true rfl) (fun h hH hF => ?_)
            refine ax_aload_n d_Mo_feed_77 rfl ?_
            refine ax_get d_Mo_feed_78 fg_Mo_76 (by first | assumption | exact hH.g 0 rfl | exact hH.g 1 rfl | exact hH.g 2 rfl | exact hH.g 3 rfl | exact hH.g 4 rfl | exact hH.g 5 rfl | exact hH.g 6 rfl | exact hH.g 7 rfl | exact hH.g 8 rfl | exact hH.g 9 rfl | exact hH.g 10 rfl | exact hH.g 11 rfl | exact hH.g 12 rfl | exact hH.g 13 rfl | exact hH.g 14 rfl | exact hH.g 15 rfl | exact hH.g 16 rfl | exact hH.g 17 rfl | exact hH.g 18 rfl) (by rfl) ?_
            refine ax_iret d_Mo_feed_81 rfl ?_
            refine ⟨_, rfl, by omega, ⟨up iz1 6 0, ar1, hH, ?_⟩, hF⟩
            refine hQ.blk (K := [0, 6]) ((hi.wide rfl).up 6 0 rfl) ha rfl rfl ?_ ?_ hl (Bs_app q3 (Bs_byL _ _)) rfl
            · show iz1 0 = _
              rw [List.length_append, byL_len]
              omega
            · rw [List.length_append, byL_len]
              omega
          · exfalso
            omega
        | succ f ih =>
          intro k iz1 ar1 h he hH hF hi ha e0 hl
          refine ax_iload d_Mo_feed_32 rfl ?_
          refine ax_iload_n d_Mo_feed_34 rfl ?_
          refine az_icmp_ge 72 d_Mo_feed_35 (by decide) (by omega) (by omega) (fun hc => ?_) (fun hc => ?_)
          · exfalso
            omega
          · refine ax_aload_n d_Mo_feed_38 rfl ?_
            refine ax_get d_Mo_feed_39 fg_Mo_7 (by first | assumption | exact hH.g 0 rfl | exact hH.g 1 rfl | exact hH.g 2 rfl | exact hH.g 3 rfl | exact hH.g 4 rfl | exact hH.g 5 rfl | exact hH.g 6 rfl | exact hH.g 7 rfl | exact hH.g 8 rfl | exact hH.g 9 rfl | exact hH.g 10 rfl | exact hH.g 11 rfl | exact hH.g 12 rfl | exact hH.g 13 rfl | exact hH.g 14 rfl | exact hH.g 15 rfl | exact hH.g 16 rfl | exact hH.g 17 rfl | exact hH.g 18 rfl) (by rfl) ?_
            refine ax_aload_n d_Mo_feed_42 rfl ?_
            refine ax_dup d_Mo_feed_43 rfl ?_
            refine ax_get d_Mo_feed_44 fg_Mo_76 (by first | assumption | exact hH.g 0 rfl | exact hH.g 1 rfl | exact hH.g 2 rfl | exact hH.g 3 rfl | exact hH.g 4 rfl | exact hH.g 5 rfl | exact hH.g 6 rfl | exact hH.g 7 rfl | exact hH.g 8 rfl | exact hH.g 9 rfl | exact hH.g 10 rfl | exact hH.g 11 rfl | exact hH.g 12 rfl | exact hH.g 13 rfl | exact hH.g 14 rfl | exact hH.g 15 rfl | exact hH.g 16 rfl | exact hH.g 17 rfl | exact hH.g 18 rfl) (by rfl) ?_
            refine ax_dup_x1 d_Mo_feed_47 rfl rfl ?_
            refine az_iconst d_Mo_feed_48 ?_
            refine az_iadd d_Mo_feed_49 ?_
            first | refine ah_put d_Mo_feed_50 fp_Mo_76 hH hF 0 rfl rfl rfl (by first | rfl | decide) (Nat.le_of_ble_eq_true rfl) (fun h hH hF => ?_) | refine ah_put d_Mo_feed_50 fp_Mo_76 hH hF 1 rfl rfl rfl (by first | rfl | decide) (Nat.le_of_ble_eq_true rfl) (fun h hH hF => ?_) | refine ah_put d_Mo_feed_50 fp_Mo_76 hH hF 2 rfl rfl rfl (by first | rfl | decide) (Nat.le_of_ble_eq_true rfl) (fun h hH hF => ?_) | refine ah_put d_Mo_feed_50 fp_Mo_76 hH hF 3 rfl rfl rfl (by first | rfl | decide) (Nat.le_of_ble_eq_true rfl) (fun h hH hF => ?_) | refine ah_put d_Mo_feed_50 fp_Mo_76 hH hF 4 rfl rfl rfl (by first | rfl | decide) (Nat.le_of_ble_eq_true rfl) (fun h hH hF => ?_) | refine ah_put d_Mo_feed_50 fp_Mo_76 hH hF 5 rfl rfl rfl (by first | rfl | decide) (Nat.le_of_ble_eq_true rfl) (fun h hH hF => ?_) | refine ah_put d_Mo_feed_50 fp_Mo_76 hH hF 6 rfl rfl rfl (by first | rfl | decide) (Nat.le_of_ble_eq_true rfl) (fun h hH hF => ?_) | refine ah_put d_Mo_feed_50 fp_Mo_76 hH hF 7 rfl rfl rfl (by first | rfl | decide) (Nat.le_of_ble_eq_true rfl) (fun h hH hF => ?_) | refine ah_put d_Mo_feed_50 fp_Mo_76 hH hF 8 rfl rfl rfl (by first | rfl | decide) (Nat.le_of_ble_eq_true rfl) (fun h hH hF => ?_) | refine ah_put d_Mo_feed_50 fp_Mo_76 hH hF 9 rfl rfl rfl (by first | rfl | decide) (Nat.le_of_ble_eq_true rfl) (fun h hH hF => ?_) | refine ah_put d_Mo_feed_50 fp_Mo_76 hH hF 10 rfl rfl rfl (by first | rfl | decide) (Nat.le_of_ble_eq_true rfl) (fun h hH hF => ?_) | refine ah_put d_Mo_feed_50 fp_Mo_76 hH hF 11 rfl rfl rfl (by first | rfl | decide) (Nat.le_of_ble_eq_true rfl) (fun h hH hF => ?_) | refine ah_put d_Mo_feed_50 fp_Mo_76 hH hF 12 rfl rfl rfl (by first | rfl | decide) (Nat.le_of_ble_eq_true rfl) (fun h hH hF => ?_) | refine ah_put d_Mo_feed_50 fp_Mo_76 hH hF 13 rfl rfl rfl (by first | rfl | decide) (Nat.le_of_ble_eq_true rfl) (fun h hH hF => ?_) | refine ah_put d_Mo_feed_50 fp_Mo_76 hH hF 14 rfl rfl rfl (by first | rfl | decide) (Nat.le_of_ble_eq_true rfl) (fun h hH hF => ?_) | refine ah_put d_Mo_feed_50 fp_Mo_76 hH hF 15 rfl rfl rfl (by first | rfl | decide) (Nat.le_of_ble_eq_true rfl) (fun h hH hF => ?_) | refine ah_put d_Mo_feed_50 fp_Mo_76 hH hF 16 rfl rfl rfl (by first | rfl | decide) (Nat.le_of_ble_eq_true rfl) (fun h hH hF => ?_) | refine ah_put d_Mo_feed_50 fp_Mo_76 hH hF 17 rfl rfl rfl (by first | rfl | decide) (Nat.le_of_ble_eq_true rfl) (fun h hH hF => ?_) | refine ah_put d_Mo_feed_50 fp_Mo_76 hH hF 18 rfl rfl rfl (by first | rfl | decide) (Nat.le_of_ble_eq_true rfl) (fun h hH hF => ?_)
            refine ax_lload_n d_Mo_feed_53 rfl ?_
            refine az_bipush _ d_Mo_feed_54 (by decide) ?_
            refine ax_iload d_Mo_feed_56 rfl ?_
            refine az_imul d_Mo_feed_58 ?_
            refine ax_lushr d_Mo_feed_59 ?_
            refine ax_ldc2 d_Mo_feed_60 cn_Mo_79 ?_
            refine ax_land d_Mo_feed_63 ?_
            refine az_l2i d_Mo_feed_64 ?_
            rw [by_model x (show k < 8 by omega)]
            first | refine ah_iast d_Mo_feed_65 hH hF 0 rfl rfl (by omega) (by omega) (by omega) (by omega) (fun h hH hF => ?_) | refine ah_iast d_Mo_feed_65 hH hF 1 rfl rfl (by omega) (by omega) (by omega) (by omega) (fun h hH hF => ?_) | refine ah_iast d_Mo_feed_65 hH hF 2 rfl rfl (by omega) (by omega) (by omega) (by omega) (fun h hH hF => ?_) | refine ah_iast d_Mo_feed_65 hH hF 3 rfl rfl (by omega) (by omega) (by omega) (by omega) (fun h hH hF => ?_) | refine ah_iast d_Mo_feed_65 hH hF 4 rfl rfl (by omega) (by omega) (by omega) (by omega) (fun h hH hF => ?_) | refine ah_iast d_Mo_feed_65 hH hF 5 rfl rfl (by omega) (by omega) (by omega) (by omega) (fun h hH hF => ?_) | refine ah_iast d_Mo_feed_65 hH hF 6 rfl rfl (by omega) (by omega) (by omega) (by omega) (fun h hH hF => ?_) | refine ah_iast d_Mo_feed_65 hH hF 7 rfl rfl (by omega) (by omega) (by omega) (by omega) (fun h hH hF => ?_) | refine ah_iast d_Mo_feed_65 hH hF 8 rfl rfl (by omega) (by omega) (by omega) (by omega) (fun h hH hF => ?_) | refine ah_iast d_Mo_feed_65 hH hF 9 rfl rfl (by omega) (by omega) (by omega) (by omega) (fun h hH hF => ?_) | refine ah_iast d_Mo_feed_65 hH hF 10 rfl rfl (by omega) (by omega) (by omega) (by omega) (fun h hH hF => ?_) | refine ah_iast d_Mo_feed_65 hH hF 11 rfl rfl (by omega) (by omega) (by omega) (by omega) (fun h hH hF => ?_) | refine ah_iast d_Mo_feed_65 hH hF 12 rfl rfl (by omega) (by omega) (by omega) (by omega) (fun h hH hF => ?_) | refine ah_iast d_Mo_feed_65 hH hF 13 rfl rfl (by omega) (by omega) (by omega) (by omega) (fun h hH hF => ?_) | refine ah_iast d_Mo_feed_65 hH hF 14 rfl rfl (by omega) (by omega) (by omega) (by omega) (fun h hH hF => ?_) | refine ah_iast d_Mo_feed_65 hH hF 15 rfl rfl (by omega) (by omega) (by omega) (by omega) (fun h hH hF => ?_) | refine ah_iast d_Mo_feed_65 hH hF 16 rfl rfl (by omega) (by omega) (by omega) (by omega) (fun h hH hF => ?_) | refine ah_iast d_Mo_feed_65 hH hF 17 rfl rfl (by omega) (by omega) (by omega) (by omega) (fun h hH hF => ?_) | refine ah_iast d_Mo_feed_65 hH hF 18 rfl rfl (by omega) (by omega) (by omega) (by omega) (fun h hH hF => ?_)
            refine az_iinc d_Mo_feed_66 rfl (by decide) rfl ?_
            refine ax_goto 32 d_Mo_feed_69 (by decide) ?_
            refine ih (k + 1) (up iz1 0 (iz1 0 + 1)) (upA ar1 1 _) h (by omega) hH hF (hi.up 0 _ rfl) (ha.up 1 _ rfl) (by show iz1 0 + 1 = _; omega) ?_
            rw [byL_succ, ← List.append_assoc]
            exact la_take_succ hl (n := (iz1 0).toNat) (by rw [List.length_append, byL_len]; omega) _
      refine key n.toNat 0 iz ar h1 (by omega) hH hF KI.rf KA.rf (by omega) ?_
      have e : byL x 0 = [] := rfl
      rw [e, List.append_nil]
      exact q2
    · rw [if_pos (by omega)]
      refine az_bipush _ d_Mo_feed_26 (by decide) ?_
      refine ax_iret d_Mo_feed_28 rfl ?_
      exact ⟨_, rfl, rfl, hM0, Fr.rf⟩
  · have hin := of_decide_eq_false (bz_f hcb)
    rw [if_pos (by omega)]
    refine az_iconst d_Mo_feed_12 ?_
    refine ax_iret d_Mo_feed_13 rfl ?_
    exact ⟨_, rfl, rfl, hM0, Fr.rf⟩
set_option maxRecDepth 100000 in
set_option maxHeartbeats 4000000 in
theorem c_Mo_fill {h0 : ax_H} {xs T out : List Int} {fp : Int} (hM : MoI h0 xs T out fp) {n b : Int} (hn : -2147483648 ≤ n ∧ n < 2147483648) (hb : -2147483648 ≤ b ∧ b < 2147483648) : ax_Ci m_Mo_fill 1 [.ref 47, .int (iv n), .int (iv b)] h0 (fun z h1 => z = (aFill xs n b).1 ∧ MoI h1 (aFill xs n b).2 T out fp ∧ Fr MOS h0 h1) := by
  have hM0 := hM
  obtain ⟨iz, ar, hH, hQ⟩ := hM
  obtain ⟨q0, q1, q2, q3, -⟩ := id hQ
  have hF : Fr MOS h0 h0 := Fr.rf
  unfold aFill
  refine ax_enter [some (.ref 47), some (.int (iv n)), some (.int (iv b)), none] rfl (Nat.le_of_ble_eq_true rfl) (by decide) ?_
  refine ax_iload_n d_Mo_fill_0 rfl ?_
  refine aj_i2l d_Mo_fill_1 (by omega) ?_
  refine aj_lconst 1 d_Mo_fill_2 rfl ?_
  refine aj_ldc2 600 d_Mo_fill_3 cn_Mo_85 ?_
  refine ax_cS3 d_Mo_fill_6 s_Mo_isIn lk_Mo_72 (by decide) (Nat.le_of_ble_eq_true rfl) (cm_z (c_Mo_isIn (v := n) (a := 1) (b := 600) (by omega) (by omega) (by omega)) (fun bb h1 hq => ?_))
  obtain ⟨rfl, rfl⟩ := hq
  refine az_if_eq 24 d_Mo_fill_9 (by decide) (bz_in _) (fun hcb => ?_) (fun hcb => ?_)
  · have hin := of_decide_eq_false (bz_f hcb)
    rw [if_pos (by omega)]
    refine az_iconst d_Mo_fill_24 ?_
    refine ax_iret d_Mo_fill_25 rfl ?_
    exact ⟨_, rfl, rfl, hM0, Fr.rf⟩
  · have hin := of_decide_eq_true (bz_t hcb)
    refine ax_iload_n d_Mo_fill_12 rfl ?_
    refine aj_i2l d_Mo_fill_13 (by omega) ?_
    refine aj_lconst 0 d_Mo_fill_14 rfl ?_
    refine aj_ldc2 255 d_Mo_fill_15 cn_Mo_79 ?_
    refine ax_cS3 d_Mo_fill_18 s_Mo_isIn lk_Mo_72 (by decide) (Nat.le_of_ble_eq_true rfl) (cm_z (c_Mo_isIn (v := b) (a := 0) (b := 255) (by omega) (by omega) (by omega)) (fun bb h1 hq => ?_))
    obtain ⟨rfl, rfl⟩ := hq
    refine az_if_ne 26 d_Mo_fill_21 (by decide) (bz_in _) (fun hcb => ?_) (fun hcb => ?_)
    · have hby := of_decide_eq_true (bz_t hcb)
      rw [if_neg (by omega)]
      refine ax_aload_n d_Mo_fill_26 rfl ?_
      refine ax_get d_Mo_fill_27 fg_Mo_76 (by first | assumption | exact hH.g 0 rfl | exact hH.g 1 rfl | exact hH.g 2 rfl | exact hH.g 3 rfl | exact hH.g 4 rfl | exact hH.g 5 rfl | exact hH.g 6 rfl | exact hH.g 7 rfl | exact hH.g 8 rfl | exact hH.g 9 rfl | exact hH.g 10 rfl | exact hH.g 11 rfl | exact hH.g 12 rfl | exact hH.g 13 rfl | exact hH.g 14 rfl | exact hH.g 15 rfl | exact hH.g 16 rfl | exact hH.g 17 rfl | exact hH.g 18 rfl) (by rfl) ?_
      refine ax_iload_n d_Mo_fill_30 rfl ?_
      refine az_iadd d_Mo_fill_31 ?_
      refine az_sipush _ d_Mo_fill_32 (by decide) ?_
      refine az_icmp_le 41 d_Mo_fill_35 (by decide) (by omega) (by omega) (fun hfull => ?_) (fun hfull => ?_)
      · rw [if_neg (by omega)]
        refine az_iconst d_Mo_fill_41 ?_
        refine ax_istore_n d_Mo_fill_42 (by decide) rfl ?_
        have key : ∀ (f k : Nat) (iz1 : Nat → Int) (ar1 : Nat → Nat → Int) (h : ax_H), k + f = n.toNat → MoH h iz1 ar1 → Fr MOS h1 h → KI [0] iz iz1 → KA [1] ar ar1 → iz1 0 = xs.length + k → la (ar1 1) (xs ++ List.replicate k b) →
            ax_W m_Mo_fill 1 43 [some (.ref 47), some (.int (iv n)), some (.int (iv b)), some (.int (iv k))] [] h (fun r0 h2 => ∃ z : Int, r0 = some (.int (iv z)) ∧ z = (xs.length : Int) + n ∧ MoI h2 (xs ++ List.replicate n.toNat b) T out fp ∧ Fr MOS h1 h2) := by
          intro f
          induction f with
          | zero =>
            intro k iz1 ar1 h he hH hF hi ha e0 hl
            have hk : k = n.toNat := by omega
            subst hk
            refine ax_iload_n d_Mo_fill_43 rfl ?_
            refine ax_iload_n d_Mo_fill_44 rfl ?_
            refine az_icmp_ge 71 d_Mo_fill_45 (by decide) (by omega) (by omega) (fun hc => ?_) (fun hc => ?_)
            · refine ax_aload_n d_Mo_fill_71 rfl ?_
              refine az_iconst d_Mo_fill_72 ?_
              first | refine ah_put d_Mo_fill_73 fp_Mo_81 hH hF 0 rfl rfl rfl (by first | rfl | decide) (Nat.le_of_ble_eq_true rfl) (fun h hH hF => ?_) | refine ah_put d_Mo_fill_73 fp_Mo_81 hH hF 1 rfl rfl rfl (by first | rfl | decide) (Nat.le_of_ble_eq_true rfl) (fun h hH hF => ?_) | refine ah_put d_Mo_fill_73 fp_Mo_81 hH hF 2 rfl rfl rfl (by first | rfl | decide) (Nat.le_of_ble_eq_true rfl) (fun h hH hF => ?_) | refine ah_put d_Mo_fill_73 fp_Mo_81 hH hF 3 rfl rfl rfl (by first | rfl | decide) (Nat.le_of_ble_eq_true rfl) (fun h hH hF => ?_) | refine ah_put d_Mo_fill_73 fp_Mo_81 hH hF 4 rfl rfl rfl (by first | rfl | decide) (Nat.le_of_ble_eq_true rfl) (fun h hH hF => ?_) | refine ah_put d_Mo_fill_73 fp_Mo_81 hH hF 5 rfl rfl rfl (by first | rfl | decide) (Nat.le_of_ble_eq_true rfl) (fun h hH hF => ?_) | refine ah_put d_Mo_fill_73 fp_Mo_81 hH hF 6 rfl rfl rfl (by first | rfl | decide) (Nat.le_of_ble_eq_true rfl) (fun h hH hF => ?_) | refine ah_put d_Mo_fill_73 fp_Mo_81 hH hF 7 rfl rfl rfl (by first | rfl | decide) (Nat.le_of_ble_eq_true rfl) (fun h hH hF => ?_) | refine ah_put d_Mo_fill_73 fp_Mo_81 hH hF 8 rfl rfl rfl (by first | rfl | decide) (Nat.le_of_ble_eq_true rfl) (fun h hH hF => ?_) | refine ah_put d_Mo_fill_73 fp_Mo_81 hH hF 9 rfl rfl rfl (by first | rfl | decide) (Nat.le_of_ble_eq_true rfl) (fun h hH hF => ?_) | refine ah_put d_Mo_fill_73 fp_Mo_81 hH hF 10 rfl rfl rfl (by first | rfl | decide) (Nat.le_of_ble_eq_true rfl) (fun h hH hF => ?_) | refine ah_put d_Mo_fill_73 fp_Mo_81 hH hF 11 rfl rfl rfl (by first | rfl | decide) (Nat.le_of_ble_eq_true rfl) (fun h hH hF => ?_) | refine ah_put d_Mo_fill_73 fp_Mo_81 hH hF 12 rfl rfl rfl (by first | rfl | decide) (Nat.le_of_ble_eq_true rfl) (fun h hH hF => ?_) | refine ah_put d_Mo_fill_73 fp_Mo_81 hH hF 13 rfl rfl rfl (by first | rfl | decide) (Nat.le_of_ble_eq_true rfl) (fun h hH hF => ?_) | refine ah_put d_Mo_fill_73 fp_Mo_81 hH hF 14 rfl rfl rfl (by first | rfl | decide) (Nat.le_of_ble_eq_true rfl) (fun h hH hF => ?_) | refine ah_put d_Mo_fill_73 fp_Mo_81 hH hF 15 rfl rfl rfl (by first | rfl | decide) (Nat.le_of_ble_eq_true rfl) (fun h hH hF => ?_) | refine ah_put d_Mo_fill_73 fp_Mo_81 hH hF 16 rfl rfl rfl (by first | rfl | decide) (Nat.le_of_ble_eq_true rfl) (fun h hH hF => ?_) | refine ah_put d_Mo_fill_73 fp_Mo_81 hH hF 17 rfl rfl rfl (by first | rfl | decide) (Nat.le_of_ble_eq_true rfl) (fun h hH hF => ?_) | refine ah_put d_Mo_fill_73 fp_Mo_81 hH hF 18 rfl rfl rfl (by first | rfl | decide) (Nat.le_of_ble_eq_true rfl) (fun h hH hF => ?_)
              refine ax_aload_n d_Mo_fill_76 rfl ?_
              refine ax_get d_Mo_fill_77 fg_Mo_76 (by first | assumption | exact hH.g 0 rfl | exact hH.g 1 rfl | exact hH.g 2 rfl | exact hH.g 3 rfl | exact hH.g 4 rfl | exact hH.g 5 rfl | exact hH.g 6 rfl | exact hH.g 7 rfl | exact hH.g 8 rfl | exact hH.g 9 rfl | exact hH.g 10 rfl | exact hH.g 11 rfl | exact hH.g 12 rfl | exact hH.g 13 rfl | exact hH.g 14 rfl | exact hH.g 15 rfl | exact hH.g 16 rfl | exact hH.g 17 rfl | exact hH.g 18 rfl) (by rfl) ?_
              refine ax_iret d_Mo_fill_80 rfl ?_
              refine ⟨_, rfl, by omega, ⟨up iz1 6 0, ar1, hH, ?_⟩, hF⟩
              refine hQ.blk (K := [0, 6]) ((hi.wide rfl).up 6 0 rfl) ha rfl rfl ?_ ?_ hl (Bs_rep q3 (by omega) _) rfl
              · show iz1 0 = _
                rw [List.length_append, List.length_replicate]
                omega
              · rw [List.length_append, List.length_replicate]
                omega
            · exfalso
              omega
          | succ f ih =>
            intro k iz1 ar1 h he hH hF hi ha e0 hl
            refine ax_iload_n d_Mo_fill_43 rfl ?_
            refine ax_iload_n d_Mo_fill_44 rfl ?_
            refine az_icmp_ge 71 d_Mo_fill_45 (by decide) (by omega) (by omega) (fun hc => ?_) (fun hc => ?_)
            · exfalso
              omega
            · refine ax_aload_n d_Mo_fill_48 rfl ?_
              refine ax_get d_Mo_fill_49 fg_Mo_7 (by first | assumption | exact hH.g 0 rfl | exact hH.g 1 rfl | exact hH.g 2 rfl | exact hH.g 3 rfl | exact hH.g 4 rfl | exact hH.g 5 rfl | exact hH.g 6 rfl | exact hH.g 7 rfl | exact hH.g 8 rfl | exact hH.g 9 rfl | exact hH.g 10 rfl | exact hH.g 11 rfl | exact hH.g 12 rfl | exact hH.g 13 rfl | exact hH.g 14 rfl | exact hH.g 15 rfl | exact hH.g 16 rfl | exact hH.g 17 rfl | exact hH.g 18 rfl) (by rfl) ?_
              refine ax_aload_n d_Mo_fill_52 rfl ?_
              refine ax_dup d_Mo_fill_53 rfl ?_
              refine ax_get d_Mo_fill_54 fg_Mo_76 (by first | assumption | exact hH.g 0 rfl | exact hH.g 1 rfl | exact hH.g 2 rfl | exact hH.g 3 rfl | exact hH.g 4 rfl | exact hH.g 5 rfl | exact hH.g 6 rfl | exact hH.g 7 rfl | exact hH.g 8 rfl | exact hH.g 9 rfl | exact hH.g 10 rfl | exact hH.g 11 rfl | exact hH.g 12 rfl | exact hH.g 13 rfl | exact hH.g 14 rfl | exact hH.g 15 rfl | exact hH.g 16 rfl | exact hH.g 17 rfl | exact hH.g 18 rfl) (by rfl) ?_
              refine ax_dup_x1 d_Mo_fill_57 rfl rfl ?_
              refine az_iconst d_Mo_fill_58 ?_
              refine az_iadd d_Mo_fill_59 ?_
              first | refine ah_put d_Mo_fill_60 fp_Mo_76 hH hF 0 rfl rfl rfl (by first | rfl | decide) (Nat.le_of_ble_eq_true rfl) (fun h hH hF => ?_) | refine ah_put d_Mo_fill_60 fp_Mo_76 hH hF 1 rfl rfl rfl (by first | rfl | decide) (Nat.le_of_ble_eq_true rfl) (fun h hH hF => ?_) | refine ah_put d_Mo_fill_60 fp_Mo_76 hH hF 2 rfl rfl rfl (by first | rfl | decide) (Nat.le_of_ble_eq_true rfl) (fun h hH hF => ?_) | refine ah_put d_Mo_fill_60 fp_Mo_76 hH hF 3 rfl rfl rfl (by first | rfl | decide) (Nat.le_of_ble_eq_true rfl) (fun h hH hF => ?_) | refine ah_put d_Mo_fill_60 fp_Mo_76 hH hF 4 rfl rfl rfl (by first | rfl | decide) (Nat.le_of_ble_eq_true rfl) (fun h hH hF => ?_) | refine ah_put d_Mo_fill_60 fp_Mo_76 hH hF 5 rfl rfl rfl (by first | rfl | decide) (Nat.le_of_ble_eq_true rfl) (fun h hH hF => ?_) | refine ah_put d_Mo_fill_60 fp_Mo_76 hH hF 6 rfl rfl rfl (by first | rfl | decide) (Nat.le_of_ble_eq_true rfl) (fun h hH hF => ?_) | refine ah_put d_Mo_fill_60 fp_Mo_76 hH hF 7 rfl rfl rfl (by first | rfl | decide) (Nat.le_of_ble_eq_true rfl) (fun h hH hF => ?_) | refine ah_put d_Mo_fill_60 fp_Mo_76 hH hF 8 rfl rfl rfl (by first | rfl | decide) (Nat.le_of_ble_eq_true rfl) (fun h hH hF => ?_) | refine ah_put d_Mo_fill_60 fp_Mo_76 hH hF 9 rfl rfl rfl (by first | rfl | decide) (Nat.le_of_ble_eq_true rfl) (fun h hH hF => ?_) | refine ah_put d_Mo_fill_60 fp_Mo_76 hH hF 10 rfl rfl rfl (by first | rfl | decide) (Nat.le_of_ble_eq_true rfl) (fun h hH hF => ?_) | refine ah_put d_Mo_fill_60 fp_Mo_76 hH hF 11 rfl rfl rfl (by first | rfl | decide) (Nat.le_of_ble_eq_true rfl) (fun h hH hF => ?_) | refine ah_put d_Mo_fill_60 fp_Mo_76 hH hF 12 rfl rfl rfl (by first | rfl | decide) (Nat.le_of_ble_eq_true rfl) (fun h hH hF => ?_) | refine ah_put d_Mo_fill_60 fp_Mo_76 hH hF 13 rfl rfl rfl (by first | rfl | decide) (Nat.le_of_ble_eq_true rfl) (fun h hH hF => ?_) | refine ah_put d_Mo_fill_60 fp_Mo_76 hH hF 14 rfl rfl rfl (by first | rfl | decide) (Nat.le_of_ble_eq_true rfl) (fun h hH hF => ?_) | refine ah_put d_Mo_fill_60 fp_Mo_76 hH hF 15 rfl rfl rfl (by first | rfl | decide) (Nat.le_of_ble_eq_true rfl) (fun h hH hF => ?_) | refine ah_put d_Mo_fill_60 fp_Mo_76 hH hF 16 rfl rfl rfl (by first | rfl | decide) (Nat.le_of_ble_eq_true rfl) (fun h hH hF => ?_) | refine ah_put d_Mo_fill_60 fp_Mo_76 hH hF 17 rfl rfl rfl (by first | rfl | decide) (Nat.le_of_ble_eq_true rfl) (fun h hH hF => ?_) | refine ah_put d_Mo_fill_60 fp_Mo_76 hH hF 18 rfl rfl rfl (by first | rfl | decide) (Nat.le_of_ble_eq_true rfl) (fun h hH hF => ?_)
              refine ax_iload_n d_Mo_fill_63 rfl ?_
              first | refine ah_iast d_Mo_fill_64 hH hF 0 rfl rfl (by omega) (by omega) (by omega) (by omega) (fun h hH hF => ?_) | refine ah_iast d_Mo_fill_64 hH hF 1 rfl rfl (by omega) (by omega) (by omega) (by omega) (fun h hH hF => ?_) | refine ah_iast d_Mo_fill_64 hH hF 2 rfl rfl (by omega) (by omega) (by omega) (by omega) (fun h hH hF => ?_) | refine ah_iast d_Mo_fill_64 hH hF 3 rfl rfl (by omega) (by omega) (by omega) (by omega) (fun h hH hF => ?_) | refine ah_iast d_Mo_fill_64 hH hF 4 rfl rfl (by omega) (by omega) (by omega) (by omega) (fun h hH hF => ?_) | refine ah_iast d_Mo_fill_64 hH hF 5 rfl rfl (by omega) (by omega) (by omega) (by omega) (fun h hH hF => ?_) | refine ah_iast d_Mo_fill_64 hH hF 6 rfl rfl (by omega) (by omega) (by omega) (by omega) (fun h hH hF => ?_) | refine ah_iast d_Mo_fill_64 hH hF 7 rfl rfl (by omega) (by omega) (by omega) (by omega) (fun h hH hF => ?_) | refine ah_iast d_Mo_fill_64 hH hF 8 rfl rfl (by omega) (by omega) (by omega) (by omega) (fun h hH hF => ?_) | refine ah_iast d_Mo_fill_64 hH hF 9 rfl rfl (by omega) (by omega) (by omega) (by omega) (fun h hH hF => ?_) | refine ah_iast d_Mo_fill_64 hH hF 10 rfl rfl (by omega) (by omega) (by omega) (by omega) (fun h hH hF => ?_) | refine ah_iast d_Mo_fill_64 hH hF 11 rfl rfl (by omega) (by omega) (by omega) (by omega) (fun h hH hF => ?_) | refine ah_iast d_Mo_fill_64 hH hF 12 rfl rfl (by omega) (by omega) (by omega) (by omega) (fun h hH hF => ?_) | refine ah_iast d_Mo_fill_64 hH hF 13 rfl rfl (by omega) (by omega) (by omega) (by omega) (fun h hH hF => ?_) | refine ah_iast d_Mo_fill_64 hH hF 14 rfl rfl (by omega) (by omega) (by omega) (by omega) (fun h hH hF => ?_) | refine ah_iast d_Mo_fill_64 hH hF 15 rfl rfl (by omega) (by omega) (by omega) (by omega) (fun h hH hF => ?_) | refine ah_iast d_Mo_fill_64 hH hF 16 rfl rfl (by omega) (by omega) (by omega) (by omega) (fun h hH hF => ?_) | refine ah_iast d_Mo_fill_64 hH hF 17 rfl rfl (by omega) (by omega) (by omega) (by omega) (fun h hH hF => ?_) | refine ah_iast d_Mo_fill_64 hH hF 18 rfl rfl (by omega) (by omega) (by omega) (by omega) (fun h hH hF => ?_)
              refine az_iinc d_Mo_fill_65 rfl (by decide) rfl ?_
              refine ax_goto 43 d_Mo_fill_68 (by decide) ?_
              refine ih (k + 1) (up iz1 0 (iz1 0 + 1)) (upA ar1 1 _) h (by omega) hH hF (hi.up 0 _ rfl) (ha.up 1 _ rfl) (by show iz1 0 + 1 = _; omega) ?_
              rw [List.replicate_succ', ← List.append_assoc]
              exact la_take_succ hl (n := (iz1 0).toNat) (by rw [List.length_append, List.length_replicate]; omega) _
        refine key n.toNat 0 iz ar h1 (by omega) hH hF KI.rf KA.rf (by omega) ?_
        rw [List.replicate_zero, List.append_nil]
        exact q2
      · rw [if_pos (by omega)]
        refine az_bipush _ d_Mo_fill_38 (by decide) ?_
        refine ax_iret d_Mo_fill_40 rfl ?_
        exact ⟨_, rfl, rfl, hM0, Fr.rf⟩
    · have hby := of_decide_eq_false (bz_f hcb)
      rw [if_pos (by omega)]
      refine az_iconst d_Mo_fill_24 ?_
      refine ax_iret d_Mo_fill_25 rfl ?_
      exact ⟨_, rfl, rfl, hM0, Fr.rf⟩
set_option maxRecDepth 100000 in
theorem c_Mo_clear {h0 : ax_H} {xs T out : List Int} {fp : Int} (hM : MoI h0 xs T out fp) : ax_Ci m_Mo_clear 0 [.ref 47] h0 (fun z h1 => z = xs.length ∧ MoI h1 [] T out fp ∧ Fr MOS h0 h1) := by
  obtain ⟨iz, ar, hH, hQ⟩ := hM
  obtain ⟨q0, q1, q2, q3, -⟩ := id hQ
  have hF : Fr MOS h0 h0 := Fr.rf
  refine ax_enter [some (.ref 47), none] rfl (Nat.le_of_ble_eq_true rfl) (by decide) ?_
  refine ax_aload_n d_Mo_clear_0 rfl ?_
  refine ax_get d_Mo_clear_1 fg_Mo_76 (by first | assumption | exact hH.g 0 rfl | exact hH.g 1 rfl | exact hH.g 2 rfl | exact hH.g 3 rfl | exact hH.g 4 rfl | exact hH.g 5 rfl | exact hH.g 6 rfl | exact hH.g 7 rfl | exact hH.g 8 rfl | exact hH.g 9 rfl | exact hH.g 10 rfl | exact hH.g 11 rfl | exact hH.g 12 rfl | exact hH.g 13 rfl | exact hH.g 14 rfl | exact hH.g 15 rfl | exact hH.g 16 rfl | exact hH.g 17 rfl | exact hH.g 18 rfl) (by rfl) ?_
  refine ax_istore_n d_Mo_clear_4 (by decide) rfl ?_
  refine ax_aload_n d_Mo_clear_5 rfl ?_
  refine az_iconst d_Mo_clear_6 ?_
  first | refine ah_put d_Mo_clear_7 fp_Mo_76 hH hF 0 rfl rfl rfl (by first | rfl | decide) (Nat.le_of_ble_eq_true rfl) (fun h hH hF => ?_) | refine ah_put d_Mo_clear_7 fp_Mo_76 hH hF 1 rfl rfl rfl (by first | rfl | decide) (Nat.le_of_ble_eq_true rfl) (fun h hH hF => ?_) | refine ah_put d_Mo_clear_7 fp_Mo_76 hH hF 2 rfl rfl rfl (by first | rfl | decide) (Nat.le_of_ble_eq_true rfl) (fun h hH hF => ?_) | refine ah_put d_Mo_clear_7 fp_Mo_76 hH hF 3 rfl rfl rfl (by first | rfl | decide) (Nat.le_of_ble_eq_true rfl) (fun h hH hF => ?_) | refine ah_put d_Mo_clear_7 fp_Mo_76 hH hF 4 rfl rfl rfl (by first | rfl | decide) (Nat.le_of_ble_eq_true rfl) (fun h hH hF => ?_) | refine ah_put d_Mo_clear_7 fp_Mo_76 hH hF 5 rfl rfl rfl (by first | rfl | decide) (Nat.le_of_ble_eq_true rfl) (fun h hH hF => ?_) | refine ah_put d_Mo_clear_7 fp_Mo_76 hH hF 6 rfl rfl rfl (by first | rfl | decide) (Nat.le_of_ble_eq_true rfl) (fun h hH hF => ?_) | refine ah_put d_Mo_clear_7 fp_Mo_76 hH hF 7 rfl rfl rfl (by first | rfl | decide) (Nat.le_of_ble_eq_true rfl) (fun h hH hF => ?_) | refine ah_put d_Mo_clear_7 fp_Mo_76 hH hF 8 rfl rfl rfl (by first | rfl | decide) (Nat.le_of_ble_eq_true rfl) (fun h hH hF => ?_) | refine ah_put d_Mo_clear_7 fp_Mo_76 hH hF 9 rfl rfl rfl (by first | rfl | decide) (Nat.le_of_ble_eq_true rfl) (fun h hH hF => ?_) | refine ah_put d_Mo_clear_7 fp_Mo_76 hH hF 10 rfl rfl rfl (by first | rfl | decide) (Nat.le_of_ble_eq_true rfl) (fun h hH hF => ?_) | refine ah_put d_Mo_clear_7 fp_Mo_76 hH hF 11 rfl rfl rfl (by first | rfl | decide) (Nat.le_of_ble_eq_true rfl) (fun h hH hF => ?_) | refine ah_put d_Mo_clear_7 fp_Mo_76 hH hF 12 rfl rfl rfl (by first | rfl | decide) (Nat.le_of_ble_eq_true rfl) (fun h hH hF => ?_) | refine ah_put d_Mo_clear_7 fp_Mo_76 hH hF 13 rfl rfl rfl (by first | rfl | decide) (Nat.le_of_ble_eq_true rfl) (fun h hH hF => ?_) | refine ah_put d_Mo_clear_7 fp_Mo_76 hH hF 14 rfl rfl rfl (by first | rfl | decide) (Nat.le_of_ble_eq_true rfl) (fun h hH hF => ?_) | refine ah_put d_Mo_clear_7 fp_Mo_76 hH hF 15 rfl rfl rfl (by first | rfl | decide) (Nat.le_of_ble_eq_true rfl) (fun h hH hF => ?_) | refine ah_put d_Mo_clear_7 fp_Mo_76 hH hF 16 rfl rfl rfl (by first | rfl | decide) (Nat.le_of_ble_eq_true rfl) (fun h hH hF => ?_) | refine ah_put d_Mo_clear_7 fp_Mo_76 hH hF 17 rfl rfl rfl (by first | rfl | decide) (Nat.le_of_ble_eq_true rfl) (fun h hH hF => ?_) | refine ah_put d_Mo_clear_7 fp_Mo_76 hH hF 18 rfl rfl rfl (by first | rfl | decide) (Nat.le_of_ble_eq_true rfl) (fun h hH hF => ?_)
  refine ax_aload_n d_Mo_clear_10 rfl ?_
  refine az_iconst d_Mo_clear_11 ?_
  first | refine ah_put d_Mo_clear_12 fp_Mo_81 hH hF 0 rfl rfl rfl (by first | rfl | decide) (Nat.le_of_ble_eq_true rfl) (fun h hH hF => ?_) | refine ah_put d_Mo_clear_12 fp_Mo_81 hH hF 1 rfl rfl rfl (by first | rfl | decide) (Nat.le_of_ble_eq_true rfl) (fun h hH hF => ?_) | refine ah_put d_Mo_clear_12 fp_Mo_81 hH hF 2 rfl rfl rfl (by first | rfl | decide) (Nat.le_of_ble_eq_true rfl) (fun h hH hF => ?_) | refine ah_put d_Mo_clear_12 fp_Mo_81 hH hF 3 rfl rfl rfl (by first | rfl | decide) (Nat.le_of_ble_eq_true rfl) (fun h hH hF => ?_) | refine ah_put d_Mo_clear_12 fp_Mo_81 hH hF 4 rfl rfl rfl (by first | rfl | decide) (Nat.le_of_ble_eq_true rfl) (fun h hH hF => ?_) | refine ah_put d_Mo_clear_12 fp_Mo_81 hH hF 5 rfl rfl rfl (by first | rfl | decide) (Nat.le_of_ble_eq_true rfl) (fun h hH hF => ?_) | refine ah_put d_Mo_clear_12 fp_Mo_81 hH hF 6 rfl rfl rfl (by first | rfl | decide) (Nat.le_of_ble_eq_true rfl) (fun h hH hF => ?_) | refine ah_put d_Mo_clear_12 fp_Mo_81 hH hF 7 rfl rfl rfl (by first | rfl | decide) (Nat.le_of_ble_eq_true rfl) (fun h hH hF => ?_) | refine ah_put d_Mo_clear_12 fp_Mo_81 hH hF 8 rfl rfl rfl (by first | rfl | decide) (Nat.le_of_ble_eq_true rfl) (fun h hH hF => ?_) | refine ah_put d_Mo_clear_12 fp_Mo_81 hH hF 9 rfl rfl rfl (by first | rfl | decide) (Nat.le_of_ble_eq_true rfl) (fun h hH hF => ?_) | refine ah_put d_Mo_clear_12 fp_Mo_81 hH hF 10 rfl rfl rfl (by first | rfl | decide) (Nat.le_of_ble_eq_true rfl) (fun h hH hF => ?_) | refine ah_put d_Mo_clear_12 fp_Mo_81 hH hF 11 rfl rfl rfl (by first | rfl | decide) (Nat.le_of_ble_eq_true rfl) (fun h hH hF => ?_) | refine ah_put d_Mo_clear_12 fp_Mo_81 hH hF 12 rfl rfl rfl (by first | rfl | decide) (Nat.le_of_ble_eq_true rfl) (fun h hH hF => ?_) | refine ah_put d_Mo_clear_12 fp_Mo_81 hH hF 13 rfl rfl rfl (by first | rfl | decide) (Nat.le_of_ble_eq_true rfl) (fun h hH hF => ?_) | refine ah_put d_Mo_clear_12 fp_Mo_81 hH hF 14 rfl rfl rfl (by first | rfl | decide) (Nat.le_of_ble_eq_true rfl) (fun h hH hF => ?_) | refine ah_put d_Mo_clear_12 fp_Mo_81 hH hF 15 rfl rfl rfl (by first | rfl | decide) (Nat.le_of_ble_eq_true rfl) (fun h hH hF => ?_) | refine ah_put d_Mo_clear_12 fp_Mo_81 hH hF 16 rfl rfl rfl (by first | rfl | decide) (Nat.le_of_ble_eq_true rfl) (fun h hH hF => ?_) | refine ah_put d_Mo_clear_12 fp_Mo_81 hH hF 17 rfl rfl rfl (by first | rfl | decide) (Nat.le_of_ble_eq_true rfl) (fun h hH hF => ?_) | refine ah_put d_Mo_clear_12 fp_Mo_81 hH hF 18 rfl rfl rfl (by first | rfl | decide) (Nat.le_of_ble_eq_true rfl) (fun h hH hF => ?_)
  refine ax_iload_n d_Mo_clear_15 rfl ?_
  refine ax_iret d_Mo_clear_16 rfl ?_
  exact ⟨_, rfl, q0, ⟨up (up iz 0 0) 6 0, ar, hH, hQ.blk (K := [0, 6]) ((KI.rf.up 0 0 rfl).up 6 0 rfl) (KA.rf (K := [])) rfl rfl rfl (by simp) (fun i hi => by simp at hi) Bs_nil rfl⟩, hF⟩
theorem la_at {g : Nat → Int} {l : List Int} (h : la g l) {i : Nat} (hi : i < l.length) : g i = gx l i := h i hi
set_option maxRecDepth 100000 in
theorem c_Mo_octet {h0 : ax_H} {xs T out : List Int} {fp : Int} (hM : MoI h0 xs T out fp) {i : Int} (hi : -2147483648 ≤ i ∧ i < 2147483648) : ax_Ci m_Mo_octet 1 [.ref 47, .int (iv i)] h0 (fun z h1 => z = rAt xs i ∧ MoI h1 xs T out fp ∧ Fr MOS h0 h1) := by
  have hM0 := hM
  obtain ⟨iz, ar, hH, hQ⟩ := hM
  obtain ⟨q0, q1, q2, q3, -⟩ := id hQ
  have hF : Fr MOS h0 h0 := Fr.rf
  unfold rAt
  refine ax_enter [some (.ref 47), some (.int (iv i))] rfl (Nat.le_of_ble_eq_true rfl) (by decide) ?_
  refine ax_iload_n d_Mo_octet_0 rfl ?_
  refine aj_i2l d_Mo_octet_1 (by omega) ?_
  refine aj_lconst 0 d_Mo_octet_2 rfl ?_
  refine ax_aload_n d_Mo_octet_3 rfl ?_
  refine ax_get d_Mo_octet_4 fg_Mo_76 (by first | assumption | exact hH.g 0 rfl | exact hH.g 1 rfl | exact hH.g 2 rfl | exact hH.g 3 rfl | exact hH.g 4 rfl | exact hH.g 5 rfl | exact hH.g 6 rfl | exact hH.g 7 rfl | exact hH.g 8 rfl | exact hH.g 9 rfl | exact hH.g 10 rfl | exact hH.g 11 rfl | exact hH.g 12 rfl | exact hH.g 13 rfl | exact hH.g 14 rfl | exact hH.g 15 rfl | exact hH.g 16 rfl | exact hH.g 17 rfl | exact hH.g 18 rfl) (by rfl) ?_
  refine az_iconst d_Mo_octet_7 ?_
  refine az_isub d_Mo_octet_8 ?_
  refine aj_i2l d_Mo_octet_9 (by omega) ?_
  refine ax_cS3 d_Mo_octet_10 s_Mo_isIn lk_Mo_72 (by decide) (Nat.le_of_ble_eq_true rfl) (cm_z (c_Mo_isIn (v := i) (a := 0) (b := iz 0 - 1) (by omega) (by omega) (by omega)) (fun b h1 hq => ?_))
  obtain ⟨rfl, rfl⟩ := hq
  refine az_if_eq 25 d_Mo_octet_13 (by decide) (bz_in _) (fun hcb => ?_) (fun hcb => ?_)
  · have hin := of_decide_eq_false (bz_f hcb)
    rw [if_neg (by omega)]
    refine az_bipush _ d_Mo_octet_25 (by decide) ?_
    refine ax_iret d_Mo_octet_27 rfl ?_
    exact ⟨_, rfl, rfl, hM0, hF⟩
  · have hin := of_decide_eq_true (bz_t hcb)
    rw [if_pos (by omega)]
    refine ax_aload_n d_Mo_octet_16 rfl ?_
    refine ax_get d_Mo_octet_17 fg_Mo_7 (by first | assumption | exact hH.g 0 rfl | exact hH.g 1 rfl | exact hH.g 2 rfl | exact hH.g 3 rfl | exact hH.g 4 rfl | exact hH.g 5 rfl | exact hH.g 6 rfl | exact hH.g 7 rfl | exact hH.g 8 rfl | exact hH.g 9 rfl | exact hH.g 10 rfl | exact hH.g 11 rfl | exact hH.g 12 rfl | exact hH.g 13 rfl | exact hH.g 14 rfl | exact hH.g 15 rfl | exact hH.g 16 rfl | exact hH.g 17 rfl | exact hH.g 18 rfl) (by rfl) ?_
    refine ax_iload_n d_Mo_octet_20 rfl ?_
    refine az_iald d_Mo_octet_21 (by first | assumption | exact hH.g 0 rfl | exact hH.g 1 rfl | exact hH.g 2 rfl | exact hH.g 3 rfl | exact hH.g 4 rfl | exact hH.g 5 rfl | exact hH.g 6 rfl | exact hH.g 7 rfl | exact hH.g 8 rfl | exact hH.g 9 rfl | exact hH.g 10 rfl | exact hH.g 11 rfl | exact hH.g 12 rfl | exact hH.g 13 rfl | exact hH.g 14 rfl | exact hH.g 15 rfl | exact hH.g 16 rfl | exact hH.g 17 rfl | exact hH.g 18 rfl) (by omega) (by omega) (by omega) ?_
    refine ax_goto 27 d_Mo_octet_22 (by decide) ?_
    refine ax_iret d_Mo_octet_27 rfl ?_
    exact ⟨_, rfl, q2 _ (by omega), hM0, hF⟩
