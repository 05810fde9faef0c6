/-! StreamWriter: bits into bytes -/
abbrev WS : List Nat := [39, 40, 41]
def SwS (h : ax_H) (st : WSt) : Prop := Hs h [(39, ob 8 [.ref 40, .int (iv st.2.1), .int (iv st.2.2)])] ∧ Rw h 40 41 2000 st.1 ∧ okW st
theorem SwS.fr {h h1 : ax_H} {st : WSt} {S : List Nat} (k : SwS h st) (hF : Fr S h h1) (hd : ([39, 40, 41].all fun a => !S.contains a) = true) : SwS h1 st := by
  have h1 : S.contains 39 = false ∧ S.contains 40 = false ∧ S.contains 41 = false := by
    simp at hd
    simp
    exact hd
  refine ⟨k.1.fr hF (by show ((!S.contains 39) && true) = true; rw [h1.1]; rfl), k.2.1.fr hF h1.2.1 h1.2.2, k.2.2⟩
set_option maxRecDepth 100000 in
set_option maxHeartbeats 4000000 in
theorem c_Sw_put {h0 : ax_H} {st : WSt} {v : Int} {w : Nat} (hS : SwS h0 st) (hw : w ≤ 32) (hcap : 8 * st.1.length + st.2.2 + w ≤ 16000) :
    ax_Cv m_Sw_put 1 [.ref 39, .int (iv v), .int (iv w)] h0 (fun h1 => SwS h1 (pbs st (bitsV v w)) ∧ Fr WS h0 h1) := by
  refine ax_enter [some (.ref 39), some (.int (iv v)), some (.int (iv w)), none] rfl (Nat.le_of_ble_eq_true rfl) (by decide) ?_
  refine ax_iload_n d_Sw_put_0 rfl ?_
  refine az_iconst d_Sw_put_1 ?_
  refine az_isub d_Sw_put_2 ?_
  refine ax_istore_n d_Sw_put_3 (by decide) rfl ?_
  have key : ∀ (k : Nat) (s : WSt) (h : ax_H), k ≤ w → SwS h s → Fr WS h0 h → 8 * s.1.length + s.2.2 + k ≤ 16000 → pbs s (bitsV v k) = pbs st (bitsV v w) →
      ax_W m_Sw_put 1 4 [some (.ref 39), some (.int (iv v)), some (.int (iv w)), some (.int (iv ((k : Int) - 1)))] [] h (fun r0 h1 => r0 = none ∧ SwS h1 (pbs st (bitsV v w)) ∧ Fr WS h0 h1) := by
    intro k
    induction k with
    | zero =>
      intro s h hk hS hF hc0 hs
      refine ax_iload_n d_Sw_put_4 rfl ?_
      refine az_if_lt 70 d_Sw_put_5 (by decide) (by first | exact bz_in _ | omega) (fun hc => ?_) (fun hc => ?_)
      · refine ax_vret d_Sw_put_70 rfl ?_
        rw [← hs]
        exact ⟨rfl, hS, hF⟩
      · exfalso
        omega
    | succ k ih =>
      intro s h hk hS hF0 hc0 hs
      obtain ⟨hH, hR, hk8, hlt, hbo⟩ := hS
      have hl2 : s.2.1 < 128 := Nat.lt_of_lt_of_le hlt (by
        have : 2 ^ s.2.2 ≤ 2 ^ 7 := Nat.pow_le_pow_right (by decide) (by omega)
        omega)
      have hF : Fr [39] h h := Fr.rf
      have e1 : ((k + 1 : Nat) : Int) - 1 = (k : Int) := by omega
      have hs : pbs (pb s (bt v k)) (bitsV v k) = pbs st (bitsV v w) := hs
      have hok := pb_ok ⟨hk8, hlt, hbo⟩ (bt_lt v k)
      rw [e1]
      refine ax_iload_n d_Sw_put_4 rfl ?_
      refine az_if_lt 70 d_Sw_put_5 (by decide) (by first | exact bz_in _ | omega) (fun hcn => ?_) (fun hcn => ?_)
      · exfalso
        omega
      · refine ax_aload_n d_Sw_put_8 rfl ?_
        refine ax_aload_n d_Sw_put_9 rfl ?_
        refine ax_get d_Sw_put_10 fg_Sw_23 (by first | assumption | exact hH.g 0 rfl) (by rfl) ?_
        refine az_iconst d_Sw_put_13 ?_
        refine az_ishl d_Sw_put_14 ?_
        refine ax_iload_n d_Sw_put_15 rfl ?_
        refine ax_iload_n d_Sw_put_16 rfl ?_
        refine az_iushr d_Sw_put_17 ?_
        refine az_iconst d_Sw_put_18 ?_
        refine az_iand d_Sw_put_19 ?_
        refine az_ior d_Sw_put_20 ?_
        first | refine ah_put d_Sw_put_21 fp_Sw_23 hH hF 0 rfl rfl rfl (by first | rfl | decide) (Nat.le_of_ble_eq_true rfl) (fun h hH hF => ?_)
        have ez : zor (zshl (s.2.1 : Int) 1) (zand (zushr v (k : Int)) 1) = ((2 * s.2.1 + bt v k : Nat) : Int) := by
          rw [z_ubit v (by omega), z_pushS (by omega) (bt_lt v k)]
          omega
        rw [ez] at hH
        have hH : Hs h [(39, ob 8 [.ref 40, .int (iv ((2 * s.2.1 + bt v k : Nat) : Int)), .int (iv s.2.2)])] := hH
        refine ax_aload_n d_Sw_put_24 rfl ?_
        refine ax_dup d_Sw_put_25 rfl ?_
        refine ax_get d_Sw_put_26 fg_Sw_27 (by first | assumption | exact hH.g 0 rfl) (by rfl) ?_
        refine az_iconst d_Sw_put_29 ?_
        refine az_iadd d_Sw_put_30 ?_
        first | refine ah_put d_Sw_put_31 fp_Sw_27 hH hF 0 rfl rfl rfl (by first | rfl | decide) (Nat.le_of_ble_eq_true rfl) (fun h hH hF => ?_)
        have hH : Hs h [(39, ob 8 [.ref 40, .int (iv ((2 * s.2.1 + bt v k : Nat) : Int)), .int (iv ((s.2.2 : Int) + 1))])] := hH
        refine ax_aload_n d_Sw_put_34 rfl ?_
        refine ax_get d_Sw_put_35 fg_Sw_27 (by first | assumption | exact hH.g 0 rfl) (by rfl) ?_
        refine az_bipush _ d_Sw_put_38 (by decide) ?_
        refine az_icmp_ne 64 d_Sw_put_40 (by decide) (by omega) (by omega) (fun h8 => ?_) (fun h8 => ?_)
        · refine az_iinc d_Sw_put_64 rfl (by decide) rfl ?_
          refine ax_goto 4 d_Sw_put_67 (by decide) ?_
          refine ih (pb s (bt v k)) h (by omega) ⟨?_, ?_, hok.1⟩ (hF0.tr (hF.wide rfl)) (by omega) hs
          · rw [pb, if_neg (by omega)]
            have : ((s.2.2 + 1 : Nat) : Int) = (s.2.2 : Int) + 1 := by omega
            show Hs h [(39, ob 8 [.ref 40, .int (iv ((2 * s.2.1 + bt v k : Nat) : Int)), .int (iv ((s.2.2 + 1 : Nat) : Int))])]
            rw [this]
            exact hH
          · rw [pb, if_neg (by omega)]
            exact hR.fr hF rfl rfl
        · have hR2 := hR.fr hF rfl rfl
          have hsz := hR2.sz
          refine ax_aload_n d_Sw_put_43 rfl ?_
          refine ax_get d_Sw_put_44 fg_Sw_14 (by first | assumption | exact hH.g 0 rfl) (by rfl) ?_
          refine ax_aload_n d_Sw_put_47 rfl ?_
          refine ax_get d_Sw_put_48 fg_Sw_23 (by first | assumption | exact hH.g 0 rfl) (by rfl) ?_
          refine ax_cV1 d_Sw_put_51 v_Rw_add lk_Sw_90 (by first | assumption | exact hH.g 0 rfl) (by decide) (Nat.le_of_ble_eq_true rfl) (cm_v (c_Rw_add hR2 _) (fun h2 hp => ?_))
          obtain ⟨hR3, hF3⟩ := hp
          have hH : Hs h2 [(39, ob 8 [.ref 40, .int (iv ((2 * s.2.1 + bt v k : Nat) : Int)), .int (iv ((s.2.2 : Int) + 1))])] := hH.fr hF3 rfl
          have hF4 : Fr WS h0 h2 := (hF0.tr (hF.wide rfl)).tr (hF3.wide rfl)
          have hF : Fr [39] h2 h2 := Fr.rf
          refine ax_aload_n d_Sw_put_54 rfl ?_
          refine az_iconst d_Sw_put_55 ?_
          first | refine ah_put d_Sw_put_56 fp_Sw_23 hH hF 0 rfl rfl rfl (by first | rfl | decide) (Nat.le_of_ble_eq_true rfl) (fun h hH hF => ?_)
          refine ax_aload_n d_Sw_put_59 rfl ?_
          refine az_iconst d_Sw_put_60 ?_
          first | refine ah_put d_Sw_put_61 fp_Sw_27 hH hF 0 rfl rfl rfl (by first | rfl | decide) (Nat.le_of_ble_eq_true rfl) (fun h hH hF => ?_)
          have hH : Hs h [(39, ob 8 [.ref 40, .int (iv 0), .int (iv 0)])] := hH
          refine az_iinc d_Sw_put_64 rfl (by decide) rfl ?_
          refine ax_goto 4 d_Sw_put_67 (by decide) ?_
          refine ih (pb s (bt v k)) h (by omega) ⟨?_, ?_, hok.1⟩ (hF4.tr (hF.wide rfl)) (by omega) hs
          · rw [pb, if_pos (by omega)]
            exact hH
          · have := hR3.fr hF rfl rfl
            rw [radd, if_pos (by omega)] at this
            rw [pb, if_pos (by omega)]
            exact this
  exact key w st h0 (Nat.le_refl _) hS Fr.rf hcap rfl
