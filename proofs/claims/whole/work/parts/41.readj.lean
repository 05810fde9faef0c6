/-! StreamReader: bits, faults, the head, the list -/
abbrev SrC (p c o k hd f fp : Int) : ax_C := ob 7 [.ref 43, .ref 45, .int (iv p), .int (iv c), .int (iv o), .int (iv k), .int (iv hd), .int (iv f), .int (iv fp)]
abbrev SrH (h : ax_H) (p c o k hd f fp : Int) : Prop := Hs h [(42, SrC p c o k hd f fp)]
def SrF (h : ax_H) (e : RF) : Prop := ∃ p c o k hd : Int, SrH h p c o k hd e.1 e.2
set_option maxRecDepth 100000 in
theorem c_Sr_fails {h0 : ax_H} {p c o k hd f fp : Int} (hH : SrH h0 p c o k hd f fp) (f1 p1 : Int) : ax_Cz m_Sr_fails 0 [.ref 42, .int (iv f1), .int (iv p1)] h0 (fun b h1 => b = false ∧ SrH h1 p c o k hd f1 p1 ∧ Fr [42] h0 h1) := by
  have hF : Fr [42] h0 h0 := Fr.rf
  refine ax_enter [some (.ref 42), some (.int (iv f1)), some (.int (iv p1))] rfl (Nat.le_of_ble_eq_true rfl) (by decide) ?_
  refine ax_aload_n d_Sr_fails_0 rfl ?_
  refine ax_iload_n d_Sr_fails_1 rfl ?_
  first | refine ah_put d_Sr_fails_2 fp_Sr_30 hH hF 0 rfl rfl rfl (by first | rfl | decide) (Nat.le_of_ble_eq_true rfl) (fun h hH hF => ?_)
  refine ax_aload_n d_Sr_fails_5 rfl ?_
  refine ax_iload_n d_Sr_fails_6 rfl ?_
  first | refine ah_put d_Sr_fails_7 fp_Sr_23 hH hF 0 rfl rfl rfl (by first | rfl | decide) (Nat.le_of_ble_eq_true rfl) (fun h hH hF => ?_)
  refine az_iconst d_Sr_fails_10 ?_
  refine ax_zret d_Sr_fails_11 rfl (by decide) ?_
  exact ⟨false, rfl, rfl, hH, hF⟩
set_option maxRecDepth 100000 in
theorem c_Sr_tapeEnds {h0 : ax_H} {p c o k hd f fp : Int} {T : List Int} (hH : SrH h0 p c o k hd f fp) (hR : Rw h0 43 44 3000 T) : ax_Cz m_Sr_tapeEnds 1 [.ref 42] h0 (fun b h1 => b = false ∧ SrF h1 (1, T.length) ∧ Fr [42] h0 h1) := by
  have hsz := hR.sz
  refine ax_enter [some (.ref 42)] rfl (Nat.le_of_ble_eq_true rfl) (by decide) ?_
  refine ax_aload_n d_Sr_tapeEnds_0 rfl ?_
  refine az_iconst d_Sr_tapeEnds_1 ?_
  refine ax_aload_n d_Sr_tapeEnds_2 rfl ?_
  refine ax_get d_Sr_tapeEnds_3 fg_Sr_14 (by first | assumption | exact hH.g 0 rfl) (by rfl) ?_
  refine ax_get d_Sr_tapeEnds_6 fg_Sr_83 (by first | assumption | exact hH.g 0 rfl) (by rfl) ?_
  refine ax_cV2 d_Sr_tapeEnds_9 v_Sr_fails lk_Sr_84 (by first | assumption | exact hH.g 0 rfl) (by decide) (Nat.le_of_ble_eq_true rfl) (cm_z (c_Sr_fails hH 1 T.length) (fun b h1 hp => ?_))
  obtain ⟨rfl, hH, hF⟩ := hp
  refine ax_zret d_Sr_tapeEnds_12 rfl (by decide) ?_
  exact ⟨false, rfl, rfl, ⟨_, _, _, _, _, hH⟩, hF⟩
set_option maxRecDepth 100000 in
theorem c_Sr_lacks {h0 : ax_H} {c o k hd f fp : Int} {T : List Int} {p w : Nat} (hH : SrH h0 p c o k hd f fp) (hR : Rw h0 43 44 3000 T) (hp : p ≤ 8 * T.length) (hw : w ≤ 100) : ax_Cz m_Sr_lacks 0 [.ref 42, .int (iv w)] h0 (fun b h1 => h1 = h0 ∧ b = decide (8 * T.length < p + w)) := by
  have hsz := hR.sz
  have hlc := hR.lc
  refine ax_enter [some (.ref 42), some (.int (iv w))] rfl (Nat.le_of_ble_eq_true rfl) (by decide) ?_
  refine ax_iload_n d_Sr_lacks_0 rfl ?_
  refine az_bipush _ d_Sr_lacks_1 (by decide) ?_
  refine ax_aload_n d_Sr_lacks_3 rfl ?_
  refine ax_get d_Sr_lacks_4 fg_Sr_14 (by first | assumption | exact hH.g 0 rfl) (by rfl) ?_
  refine ax_get d_Sr_lacks_7 fg_Sr_83 (by first | assumption | exact hH.g 0 rfl) (by rfl) ?_
  refine az_imul d_Sr_lacks_10 ?_
  refine ax_aload_n d_Sr_lacks_11 rfl ?_
  refine ax_get d_Sr_lacks_12 fg_Sr_27 (by first | assumption | exact hH.g 0 rfl) (by rfl) ?_
  refine az_isub d_Sr_lacks_15 ?_
  refine az_icmp_le 23 d_Sr_lacks_16 (by decide) (by omega) (by omega) (fun hc => ?_) (fun hc => ?_)
  · refine az_iconst d_Sr_lacks_23 ?_
    refine ax_zret d_Sr_lacks_24 rfl (by decide) ?_
    refine ⟨false, rfl, rfl, ?_⟩
    simp; omega
  · refine az_iconst d_Sr_lacks_19 ?_
    refine ax_goto 24 d_Sr_lacks_20 (by decide) ?_
    refine ax_zret d_Sr_lacks_24 rfl (by decide) ?_
    refine ⟨true, rfl, rfl, ?_⟩
    simp; omega
set_option maxRecDepth 100000 in
theorem c_Sr_byteNow {h0 : ax_H} {c o k hd f fp : Int} {p : Nat} (hH : SrH h0 p c o k hd f fp) (hp : p ≤ 24000) : ax_Ci m_Sr_byteNow 0 [.ref 42] h0 (fun z h1 => h1 = h0 ∧ z = ((p / 8 : Nat) : Int)) := by
  refine ax_enter [some (.ref 42)] rfl (Nat.le_of_ble_eq_true rfl) (by decide) ?_
  refine ax_aload_n d_Sr_byteNow_0 rfl ?_
  refine ax_get d_Sr_byteNow_1 fg_Sr_27 (by first | assumption | exact hH.g 0 rfl) (by rfl) ?_
  refine az_bipush _ d_Sr_byteNow_4 (by decide) ?_
  refine az_idiv d_Sr_byteNow_6 (by omega) (by omega) ?_
  refine ax_iret d_Sr_byteNow_7 rfl ?_
  exact ⟨_, rfl, rfl, by omega⟩
set_option maxRecDepth 100000 in
set_option maxHeartbeats 4000000 in
theorem c_Sr_next {h0 : ax_H} {c o k hd f fp : Int} {T : List Int} {p w : Nat} (hH : SrH h0 p c o k hd f fp) (hR : Rw h0 43 44 3000 T) (hb : Bs T) (hp : p + w ≤ 8 * T.length) (hw : w ≤ 32) : ax_Ci m_Sr_next 1 [.ref 42, .int (iv w)] h0 (fun z h1 => z = wr (tv T w p) ∧ SrH h1 ((p + w : Nat) : Int) c o k hd f fp ∧ Fr [42] h0 h1) := by
  have hlc := hR.lc
  refine ax_enter [some (.ref 42), some (.int (iv w)), none, none] rfl (Nat.le_of_ble_eq_true rfl) (by decide) ?_
  refine az_iconst d_Sr_next_0 ?_
  refine ax_istore_n d_Sr_next_1 (by decide) rfl ?_
  refine az_iconst d_Sr_next_2 ?_
  refine ax_istore_n d_Sr_next_3 (by decide) rfl ?_
  have key : ∀ (g i a : Nat) (h : ax_H), i + g = w → SrH h ((p + i : Nat) : Int) c o k hd f fp → Fr [42] h0 h → tvA T g (p + i) a = tv T w p →
      ax_W m_Sr_next 1 4 [some (.ref 42), some (.int (iv w)), some (.int (iv (wr a))), some (.int (iv i))] [] h (fun r0 h1 => ∃ z : Int, r0 = some (.int (iv z)) ∧ z = wr (tv T w p) ∧ SrH h1 ((p + w : Nat) : Int) c o k hd f fp ∧ Fr [42] h0 h1) := by
    intro g
    induction g with
    | zero =>
      intro i a h he hH hF hs
      refine ax_iload_n d_Sr_next_4 rfl ?_
      refine ax_iload_n d_Sr_next_5 rfl ?_
      refine az_icmp_ge 62 d_Sr_next_6 (by decide) (by omega) (by omega) (fun hc => ?_) (fun hc => ?_)
      · refine ax_iload_n d_Sr_next_62 rfl ?_
        refine ax_iret d_Sr_next_63 rfl ?_
        have hs : a = tv T w p := hs
        have hi : i = w := by omega
        subst hi
        exact ⟨_, rfl, by rw [hs], hH, hF⟩
      · exfalso
        omega
    | succ g ih =>
      intro i a h he hH hF hs
      have hR1 := hR.fr hF rfl rfl
      have hsz := hR1.sz
      refine ax_iload_n d_Sr_next_4 rfl ?_
      refine ax_iload_n d_Sr_next_5 rfl ?_
      refine az_icmp_ge 62 d_Sr_next_6 (by decide) (by omega) (by omega) (fun hc => ?_) (fun hc => ?_)
      · exfalso
        omega
      · refine ax_aload_n d_Sr_next_9 rfl ?_
        refine az_iconst d_Sr_next_10 ?_
        refine ax_cV1 d_Sr_next_11 v_Sr_lacks lk_Sr_88 (by first | assumption | exact hH.g 0 rfl) (by decide) (Nat.le_of_ble_eq_true rfl) (cm_z (c_Sr_lacks hH hR1 (w := 1) (by omega) (by omega)) (fun b h2 hq => ?_))
        obtain ⟨rfl, rfl⟩ := hq
        refine az_if_ne 62 d_Sr_next_14 (by decide) (bz_in _) (fun hcb => ?_) (fun hcb => ?_)
        · have := of_decide_eq_true (bz_t hcb)
          exfalso
          omega
        · have b1 := hb ((p + i) / 8) (by omega)
          have hb1 : 0 ≤ gx T ((p + i) / 8) ∧ gx T ((p + i) / 8) < 256 := b1
          refine ax_iload_n d_Sr_next_17 rfl ?_
          refine az_iconst d_Sr_next_18 ?_
          refine az_ishl d_Sr_next_19 ?_
          refine ax_aload_n d_Sr_next_20 rfl ?_
          refine ax_get d_Sr_next_21 fg_Sr_14 (by first | assumption | exact hH.g 0 rfl) (by rfl) ?_
          refine ax_aload_n d_Sr_next_24 rfl ?_
          refine ax_cV0 d_Sr_next_25 v_Sr_byteNow lk_Sr_92 (by first | assumption | exact hH.g 0 rfl) (by decide) (Nat.le_of_ble_eq_true rfl) (cm_i (c_Sr_byteNow hH (by omega)) (fun z h3 hq => ?_))
          obtain ⟨rfl, rfl⟩ := hq
          refine ax_cV1 d_Sr_next_28 v_Rw_at lk_Sr_96 (by first | assumption | exact hH.g 0 rfl) (by decide) (Nat.le_of_ble_eq_true rfl) (cm_i (c_Rw_at hR1 (i := (((p + i) / 8 : Nat) : Int)) (by omega)) (fun z h3 hq => ?_))
          obtain ⟨rfl, rfl⟩ := hq
          have e1 : rAt T (((p + i) / 8 : Nat) : Int) = gx T ((p + i) / 8) := by rw [rAt, if_pos (by omega), show (((p + i) / 8 : Nat) : Int).toNat = (p + i) / 8 by omega]
          rw [e1]
          refine az_bipush _ d_Sr_next_31 (by decide) ?_
          refine ax_aload_n d_Sr_next_33 rfl ?_
          refine ax_get d_Sr_next_34 fg_Sr_27 (by first | assumption | exact hH.g 0 rfl) (by rfl) ?_
          refine az_bipush _ d_Sr_next_37 (by decide) ?_
          refine az_irem d_Sr_next_39 (by omega) (by omega) ?_
          refine az_isub d_Sr_next_40 ?_
          refine az_ishr d_Sr_next_41 ?_
          have e2 : (7 : Int) - ((p + i : Nat) : Int) % 8 = ((7 - (p + i) % 8 : Nat) : Int) := by omega
          rw [e2]
          refine az_iconst d_Sr_next_42 ?_
          refine az_iand d_Sr_next_43 ?_
          rw [z_sbit (by omega) (show 7 - (p + i) % 8 < 32 by omega)]
          refine az_ior d_Sr_next_44 ?_
          rw [wr_push _ (bt_lt _ _)]
          have hF' := hF
          have hF : Fr [42] h3 h3 := Fr.rf
          refine ax_istore_n d_Sr_next_45 (by decide) rfl ?_
          refine ax_aload_n d_Sr_next_46 rfl ?_
          refine ax_dup d_Sr_next_47 rfl ?_
          refine ax_get d_Sr_next_48 fg_Sr_27 (by first | assumption | exact hH.g 0 rfl) (by rfl) ?_
          refine az_iconst d_Sr_next_51 ?_
          refine az_iadd d_Sr_next_52 ?_
          first | refine ah_put d_Sr_next_53 fp_Sr_27 hH hF 0 rfl rfl rfl (by first | rfl | decide) (Nat.le_of_ble_eq_true rfl) (fun h hH hF => ?_)
          have hH : SrH h (((p + i : Nat) : Int) + 1) c o k hd f fp := hH
          refine az_iinc d_Sr_next_56 rfl (by decide) rfl ?_
          refine ax_goto 4 d_Sr_next_59 (by decide) ?_
          have e3 : ((p + i : Nat) : Int) + 1 = ((p + (i + 1) : Nat) : Int) := by omega
          have e4 : 2 * (a : Int) + (bt (gx T ((p + i) / 8)) (7 - (p + i) % 8) : Int) = ((2 * a + tb T (p + i) : Nat) : Int) := by unfold tb; omega
          rw [e3] at hH
          rw [e4]
          exact ih (i + 1) _ h (by omega) hH (hF'.tr hF) hs
  exact key w 0 0 h0 (by omega) hH Fr.rf rfl
theorem wr16 (T : List Int) (p : Nat) : wr (tv T 16 p) = tv T 16 p := by
  have := tv_lt T 16 p
  exact wr_id (by omega)
theorem wr4 (T : List Int) (p : Nat) : wr (tv T 4 p) = tv T 4 p := by
  have := tv_lt T 4 p
  exact wr_id (by omega)
theorem wr1 (T : List Int) (p : Nat) : wr (tv T 1 p) = tb T p := by
  have h1 := tb_lt T p
  have e : tv T 1 p = tb T p := by show 2 * 0 + tb T p = tb T p; omega
  rw [e]
  exact wr_id (by omega)
set_option maxRecDepth 100000 in
set_option maxHeartbeats 8000000 in
theorem c_Sr_readHead {h0 : ax_H} {c o k hd f fp : Int} {T : List Int} (hH : SrH h0 0 c o k hd f fp) (hR : Rw h0 43 44 3000 T) (hb : Bs T) : ax_Cz m_Sr_readHead 2 [.ref 42] h0 (fun b h1 => Fr [42] h0 h1 ∧ match rdHead T with
    | .inl e => b = false ∧ SrF h1 e
    | .inr q => b = true ∧ SrH h1 80 q.1 q.2.1 (wr q.2.2) hd f fp ∧ q.1 ≤ 900 ∧ (q.2.1 < q.1 ∨ (q.2.1 = 0 ∧ q.1 = 0)) ∧ 80 ≤ 8 * T.length) := by
  have hlc := hR.lc
  have hH : SrH h0 ((0 : Nat) : Int) c o k hd f fp := hH
  refine ax_enter [some (.ref 42)] rfl (Nat.le_of_ble_eq_true rfl) (by decide) ?_
  refine ax_aload_n d_Sr_readHead_0 rfl ?_
  refine az_bipush _ d_Sr_readHead_1 (by decide) ?_
  refine ax_cV1 d_Sr_readHead_3 v_Sr_lacks lk_Sr_88 (by first | assumption | exact hH.g 0 rfl) (by decide) (Nat.le_of_ble_eq_true rfl) (cm_z (c_Sr_lacks hH hR (w := 16) (by omega) (by omega)) (fun b h2 hq => ?_))
  obtain ⟨rfl, rfl⟩ := hq
  unfold rdHead
  refine az_if_eq 14 d_Sr_readHead_6 (by decide) (bz_in _) (fun hcb => ?_) (fun hcb => ?_)
  · have hl := of_decide_eq_false (bz_f hcb)
    rw [if_neg (by omega)]
    refine ax_aload_n d_Sr_readHead_14 rfl ?_
    refine az_bipush _ d_Sr_readHead_15 (by decide) ?_
    refine ax_cV1 d_Sr_readHead_17 v_Sr_next lk_Sr_103 (by first | assumption | exact hH.g 0 rfl) (by decide) (Nat.le_of_ble_eq_true rfl) (cm_i (c_Sr_next hH hR hb (w := 16) (by omega) (by omega)) (fun z h2 hq => ?_))
    obtain ⟨rfl, hH2, hF2⟩ := hq
    have hR2 := hR.fr hF2 rfl rfl
    have t1 := tv_lt T 16 0
    rw [wr16]
    have hH := hH2
    refine az_sipush _ d_Sr_readHead_20 (by decide) ?_
    refine az_icmp_eq 33 d_Sr_readHead_23 (by decide) (by omega) (by omega) (fun hm => ?_) (fun hm => ?_)
    · rw [if_neg (by omega)]
      refine ax_aload_n d_Sr_readHead_33 rfl ?_
      refine az_bipush _ d_Sr_readHead_34 (by decide) ?_
      refine ax_cV1 d_Sr_readHead_36 v_Sr_lacks lk_Sr_88 (by first | assumption | exact hH.g 0 rfl) (by decide) (Nat.le_of_ble_eq_true rfl) (cm_z (c_Sr_lacks hH hR2 (w := 16) (by omega) (by omega)) (fun b h3 hq => ?_))
      obtain ⟨rfl, rfl⟩ := hq
      refine az_if_eq 47 d_Sr_readHead_39 (by decide) (bz_in _) (fun hcb => ?_) (fun hcb => ?_)
      · have hl := of_decide_eq_false (bz_f hcb)
        rw [if_neg (by omega)]
        refine ax_aload_n d_Sr_readHead_47 rfl ?_
        refine ax_aload_n d_Sr_readHead_48 rfl ?_
        refine az_bipush _ d_Sr_readHead_49 (by decide) ?_
        refine ax_cV1 d_Sr_readHead_51 v_Sr_next lk_Sr_103 (by first | assumption | exact hH.g 0 rfl) (by decide) (Nat.le_of_ble_eq_true rfl) (cm_i (c_Sr_next hH hR2 hb (w := 16) (by omega) (by omega)) (fun z h3 hq => ?_))
        obtain ⟨rfl, hH3, hF3⟩ := hq
        have hR3 := hR2.fr hF3 rfl rfl
        have t2 := tv_lt T 16 16
        have ex : wr (tv T 16 (0 + 16)) = tv T 16 16 := wr16 T 16
        rw [ex]
        have hH := hH3
        have hF23 := hF2.tr hF3
        have hF : Fr [42] h3 h3 := Fr.rf
        first | refine ah_put d_Sr_readHead_54 fp_Sr_56 hH hF 0 rfl rfl rfl (by first | rfl | decide) (Nat.le_of_ble_eq_true rfl) (fun h hH hF => ?_)
        have hH : SrH h ((32 : Nat) : Int) (tv T 16 16 : Nat) o k hd f fp := hH
        have hR4 := hR3.fr hF rfl rfl
        have hF4 := hF23.tr hF
        refine ax_aload_n d_Sr_readHead_57 rfl ?_
        refine ax_get d_Sr_readHead_58 fg_Sr_56 (by first | assumption | exact hH.g 0 rfl) (by rfl) ?_
        refine az_sipush _ d_Sr_readHead_61 (by decide) ?_
        refine az_icmp_le 74 d_Sr_readHead_64 (by decide) (by omega) (by omega) (fun h9 => ?_) (fun h9 => ?_)
        · rw [if_neg (by omega)]
          refine ax_aload_n d_Sr_readHead_74 rfl ?_
          refine az_bipush _ d_Sr_readHead_75 (by decide) ?_
          refine ax_cV1 d_Sr_readHead_77 v_Sr_lacks lk_Sr_88 (by first | assumption | exact hH.g 0 rfl) (by decide) (Nat.le_of_ble_eq_true rfl) (cm_z (c_Sr_lacks hH hR4 (w := 16) (by omega) (by omega)) (fun b h5 hq => ?_))
          obtain ⟨rfl, rfl⟩ := hq
          refine az_if_eq 88 d_Sr_readHead_80 (by decide) (bz_in _) (fun hcb => ?_) (fun hcb => ?_)
          · have hl := of_decide_eq_false (bz_f hcb)
            rw [if_neg (by omega)]
            refine ax_aload_n d_Sr_readHead_88 rfl ?_
            refine ax_aload_n d_Sr_readHead_89 rfl ?_
            refine az_bipush _ d_Sr_readHead_90 (by decide) ?_
            refine ax_cV1 d_Sr_readHead_92 v_Sr_next lk_Sr_103 (by first | assumption | exact hH.g 0 rfl) (by decide) (Nat.le_of_ble_eq_true rfl) (cm_i (c_Sr_next hH hR4 hb (w := 16) (by omega) (by omega)) (fun z h6 hq => ?_))
            obtain ⟨rfl, hH6, hF6⟩ := hq
            have t3 := tv_lt T 16 32
            rw [wr16]
            have hH := hH6
            have hF56 := hF4.tr hF6
            have hR6 := hR4.fr hF6 rfl rfl
            have hF : Fr [42] h6 h6 := Fr.rf
            first | refine ah_put d_Sr_readHead_95 fp_Sr_106 hH hF 0 rfl rfl rfl (by first | rfl | decide) (Nat.le_of_ble_eq_true rfl) (fun h hH hF => ?_)
            have hH : SrH h ((48 : Nat) : Int) (tv T 16 16 : Nat) (tv T 16 32 : Nat) k hd f fp := hH
            have hR7 := hR6.fr hF rfl rfl
            have hF7 := hF56.tr hF
            have rest : ¬ (tv T 16 32 ≠ 0 ∧ tv T 16 16 ≤ tv T 16 32) → ax_W m_Sr_readHead 2 123 [some (.ref 42)] [] h (fun r0 h1 => ∃ b : Bool, r0 = some (.int (iv (bz b))) ∧ Fr [42] h2 h1 ∧ match (if tv T 16 32 ≠ 0 ∧ tv T 16 16 ≤ tv T 16 32 then (.inl (4, 4) : Sum RF (Nat × Nat × Nat)) else if 8 * T.length < 80 then .inl (1, T.length) else .inr (tv T 16 16, tv T 16 32, tv T 32 48)) with
                | .inl e => b = false ∧ SrF h1 e
                | .inr q => b = true ∧ SrH h1 80 q.1 q.2.1 (wr q.2.2) hd f fp ∧ q.1 ≤ 900 ∧ (q.2.1 < q.1 ∨ (q.2.1 = 0 ∧ q.1 = 0)) ∧ 80 ≤ 8 * T.length) := by
              intro hno
              rw [if_neg hno]
              refine ax_aload_n d_Sr_readHead_123 rfl ?_
              refine az_bipush _ d_Sr_readHead_124 (by decide) ?_
              refine ax_cV1 d_Sr_readHead_126 v_Sr_lacks lk_Sr_88 (by first | assumption | exact hH.g 0 rfl) (by decide) (Nat.le_of_ble_eq_true rfl) (cm_z (c_Sr_lacks hH hR7 (w := 32) (by omega) (by omega)) (fun b h8 hq => ?_))
              obtain ⟨rfl, rfl⟩ := hq
              refine az_if_eq 137 d_Sr_readHead_129 (by decide) (bz_in _) (fun hcb => ?_) (fun hcb => ?_)
              · have hl := of_decide_eq_false (bz_f hcb)
                rw [if_neg (by omega)]
                refine ax_aload_n d_Sr_readHead_137 rfl ?_
                refine ax_aload_n d_Sr_readHead_138 rfl ?_
                refine az_bipush _ d_Sr_readHead_139 (by decide) ?_
                refine ax_cV1 d_Sr_readHead_141 v_Sr_next lk_Sr_103 (by first | assumption | exact hH.g 0 rfl) (by decide) (Nat.le_of_ble_eq_true rfl) (cm_i (c_Sr_next hH hR7 hb (w := 32) (by omega) (by omega)) (fun z h9 hq => ?_))
                obtain ⟨rfl, hH9, hF9⟩ := hq
                have hH := hH9
                have hF79 := hF7.tr hF9
                have hF : Fr [42] h9 h9 := Fr.rf
                first | refine ah_put d_Sr_readHead_144 fp_Sr_109 hH hF 0 rfl rfl rfl (by first | rfl | decide) (Nat.le_of_ble_eq_true rfl) (fun h hH hF => ?_)
                refine az_iconst d_Sr_readHead_147 ?_
                refine ax_zret d_Sr_readHead_148 rfl (by decide) ?_
                have hH : SrH h ((80 : Nat) : Int) (tv T 16 16 : Nat) (tv T 16 32 : Nat) (wr (tv T 32 48)) hd f fp := hH
                exact ⟨true, rfl, hF79.tr hF, rfl, hH, by omega, by show tv T 16 32 < tv T 16 16 ∨ (tv T 16 32 = 0 ∧ tv T 16 16 = 0); omega, by omega⟩
              · have hl := of_decide_eq_true (bz_t hcb)
                rw [if_pos (by omega)]
                refine ax_aload_n d_Sr_readHead_132 rfl ?_
                refine ax_cV0 d_Sr_readHead_133 v_Sr_tapeEnds lk_Sr_100 (by first | assumption | exact hH.g 0 rfl) (by decide) (Nat.le_of_ble_eq_true rfl) (cm_z (c_Sr_tapeEnds hH hR7) (fun b h9 hq => ?_))
                obtain ⟨rfl, hE, hF9⟩ := hq
                refine ax_zret d_Sr_readHead_136 rfl (by decide) ?_
                exact ⟨false, rfl, hF7.tr hF9, rfl, hE⟩
            refine ax_aload_n d_Sr_readHead_98 rfl ?_
            refine ax_get d_Sr_readHead_99 fg_Sr_106 (by first | assumption | exact hH.g 0 rfl) (by rfl) ?_
            refine az_if_eq 123 d_Sr_readHead_102 (by decide) (by first | exact bz_in _ | omega) (fun ho => ?_) (fun ho => ?_)
            · exact rest (fun q => q.1 (by omega))
            · refine ax_aload_n d_Sr_readHead_105 rfl ?_
              refine ax_get d_Sr_readHead_106 fg_Sr_106 (by first | assumption | exact hH.g 0 rfl) (by rfl) ?_
              refine ax_aload_n d_Sr_readHead_109 rfl ?_
              refine ax_get d_Sr_readHead_110 fg_Sr_56 (by first | assumption | exact hH.g 0 rfl) (by rfl) ?_
              refine az_icmp_lt 123 d_Sr_readHead_113 (by decide) (by omega) (by omega) (fun hoc => ?_) (fun hoc => ?_)
              · exact rest (fun q => by omega)
              · rw [if_pos (by omega)]
                refine ax_aload_n d_Sr_readHead_116 rfl ?_
                refine az_iconst d_Sr_readHead_117 ?_
                refine az_iconst d_Sr_readHead_118 ?_
                refine ax_cV2 d_Sr_readHead_119 v_Sr_fails lk_Sr_84 (by first | assumption | exact hH.g 0 rfl) (by decide) (Nat.le_of_ble_eq_true rfl) (cm_z (c_Sr_fails hH 4 4) (fun b h9 hq => ?_))
                obtain ⟨rfl, hE, hF9⟩ := hq
                refine ax_zret d_Sr_readHead_122 rfl (by decide) ?_
                exact ⟨false, rfl, hF7.tr hF9, rfl, ⟨_, _, _, _, _, hE⟩⟩
          · have hl := of_decide_eq_true (bz_t hcb)
            rw [if_pos (by omega)]
            refine ax_aload_n d_Sr_readHead_83 rfl ?_
            refine ax_cV0 d_Sr_readHead_84 v_Sr_tapeEnds lk_Sr_100 (by first | assumption | exact hH.g 0 rfl) (by decide) (Nat.le_of_ble_eq_true rfl) (cm_z (c_Sr_tapeEnds hH hR4) (fun b h9 hq => ?_))
            obtain ⟨rfl, hE, hF9⟩ := hq
            refine ax_zret d_Sr_readHead_87 rfl (by decide) ?_
            exact ⟨false, rfl, hF4.tr hF9, rfl, hE⟩
        · rw [if_pos (by omega)]
          refine ax_aload_n d_Sr_readHead_67 rfl ?_
          refine az_iconst d_Sr_readHead_68 ?_
          refine az_iconst d_Sr_readHead_69 ?_
          refine ax_cV2 d_Sr_readHead_70 v_Sr_fails lk_Sr_84 (by first | assumption | exact hH.g 0 rfl) (by decide) (Nat.le_of_ble_eq_true rfl) (cm_z (c_Sr_fails hH 3 2) (fun b h9 hq => ?_))
          obtain ⟨rfl, hE, hF9⟩ := hq
          refine ax_zret d_Sr_readHead_73 rfl (by decide) ?_
          exact ⟨false, rfl, hF4.tr hF9, rfl, ⟨_, _, _, _, _, hE⟩⟩
      · have hl := of_decide_eq_true (bz_t hcb)
        rw [if_pos (by omega)]
        refine ax_aload_n d_Sr_readHead_42 rfl ?_
        refine ax_cV0 d_Sr_readHead_43 v_Sr_tapeEnds lk_Sr_100 (by first | assumption | exact hH.g 0 rfl) (by decide) (Nat.le_of_ble_eq_true rfl) (cm_z (c_Sr_tapeEnds hH hR2) (fun b h9 hq => ?_))
        obtain ⟨rfl, hE, hF9⟩ := hq
        refine ax_zret d_Sr_readHead_46 rfl (by decide) ?_
        exact ⟨false, rfl, hF2.tr hF9, rfl, hE⟩
    · rw [if_pos (by omega)]
      refine ax_aload_n d_Sr_readHead_26 rfl ?_
      refine az_iconst d_Sr_readHead_27 ?_
      refine az_iconst d_Sr_readHead_28 ?_
      refine ax_cV2 d_Sr_readHead_29 v_Sr_fails lk_Sr_84 (by first | assumption | exact hH.g 0 rfl) (by decide) (Nat.le_of_ble_eq_true rfl) (cm_z (c_Sr_fails hH 2 0) (fun b h9 hq => ?_))
      obtain ⟨rfl, hE, hF9⟩ := hq
      refine ax_zret d_Sr_readHead_32 rfl (by decide) ?_
      exact ⟨false, rfl, hF2.tr hF9, rfl, ⟨_, _, _, _, _, hE⟩⟩
  · have hl := of_decide_eq_true (bz_t hcb)
    rw [if_pos (by omega)]
    refine ax_aload_n d_Sr_readHead_9 rfl ?_
    refine ax_cV0 d_Sr_readHead_10 v_Sr_tapeEnds lk_Sr_100 (by first | assumption | exact hH.g 0 rfl) (by decide) (Nat.le_of_ble_eq_true rfl) (cm_z (c_Sr_tapeEnds hH hR) (fun b h9 hq => ?_))
    obtain ⟨rfl, hE, hF9⟩ := hq
    refine ax_zret d_Sr_readHead_13 rfl (by decide) ?_
    exact ⟨false, rfl, hF9, rfl, hE⟩

set_option maxRecDepth 100000 in
theorem c_Sr_isMarked {h0 : ax_H} {m i : Nat} (hm : m < 65536) (hi : i < 16) : ax_Cz m_Sr_isMarked 0 [.int (iv m), .int (iv i)] h0 (fun b h1 => h1 = h0 ∧ b = decide (bt m (15 - i) = 1)) := by
  have hb := bt_lt (m : Int) (15 - i)
  refine ax_enter [some (.int (iv m)), some (.int (iv i))] rfl (Nat.le_of_ble_eq_true rfl) (by decide) ?_
  refine ax_iload_n d_Sr_isMarked_0 rfl ?_
  refine az_bipush _ d_Sr_isMarked_1 (by decide) ?_
  refine ax_iload_n d_Sr_isMarked_3 rfl ?_
  refine az_isub d_Sr_isMarked_4 ?_
  have e2 : (15 : Int) - (i : Int) = ((15 - i : Nat) : Int) := by omega
  rw [e2]
  refine az_ishr d_Sr_isMarked_5 ?_
  refine az_iconst d_Sr_isMarked_6 ?_
  refine az_iand d_Sr_isMarked_7 ?_
  rw [z_sbit (by omega) (show 15 - i < 32 by omega)]
  refine az_iconst d_Sr_isMarked_8 ?_
  refine az_icmp_ne 16 d_Sr_isMarked_9 (by decide) (by omega) (by omega) (fun hc => ?_) (fun hc => ?_)
  · refine az_iconst d_Sr_isMarked_16 ?_
    refine ax_zret d_Sr_isMarked_17 rfl (by decide) ?_
    refine ⟨false, rfl, rfl, ?_⟩
    simp; omega
  · refine az_iconst d_Sr_isMarked_12 ?_
    refine ax_goto 17 d_Sr_isMarked_13 (by decide) ?_
    refine ax_zret d_Sr_isMarked_17 rfl (by decide) ?_
    refine ⟨true, rfl, rfl, ?_⟩
    simp; omega
abbrev RLS : List Nat := [19, 20, 42]
set_option maxRecDepth 100000 in
set_option maxHeartbeats 8000000 in
theorem c_Sr_readSixteenth {h0 : ax_H} {c o k hd f fp : Int} {T l : List Int} {p g : Nat} (hH : SrH h0 p c o k hd f fp) (hR : Rw h0 43 44 3000 T) (hb : Bs T) (hp : p ≤ 8 * T.length) (hL : Fl h0 l) (hg : g < 16) (hl : l.length ≤ 16 * g) :
    ax_Cz m_Sr_readSixteenth 2 [.ref 42, .ref 19, .int (iv g)] h0 (fun b h1 => Fr RLS h0 h1 ∧ (∃ l', Fl h1 l') ∧ if 8 * T.length < p + 16 then b = false ∧ SrF h1 (1, T.length) else if tv T 16 p = 0 then b = false ∧ SrF h1 (5, (p / 8 : Nat)) else b = true ∧ SrH h1 ((p + 16 : Nat) : Int) c o k hd f fp ∧ Fl h1 (l ++ mks (tv T 16 p) g)) := by
  have hlc := hR.lc
  refine ax_enter [some (.ref 42), some (.ref 19), some (.int (iv g)), none, none, none] rfl (Nat.le_of_ble_eq_true rfl) (by decide) ?_
  refine ax_aload_n d_Sr_readSixteenth_0 rfl ?_
  refine ax_cV0 d_Sr_readSixteenth_1 v_Sr_byteNow lk_Sr_92 (by first | assumption | exact hH.g 0 rfl) (by decide) (Nat.le_of_ble_eq_true rfl) (cm_i (c_Sr_byteNow hH (by omega)) (fun z h2 hq => ?_))
  obtain ⟨rfl, rfl⟩ := hq
  refine ax_istore_n d_Sr_readSixteenth_4 (by decide) rfl ?_
  refine ax_aload_n d_Sr_readSixteenth_5 rfl ?_
  refine az_bipush _ d_Sr_readSixteenth_6 (by decide) ?_
  refine ax_cV1 d_Sr_readSixteenth_8 v_Sr_lacks lk_Sr_88 (by first | assumption | exact hH.g 0 rfl) (by decide) (Nat.le_of_ble_eq_true rfl) (cm_z (c_Sr_lacks hH hR (w := 16) (by omega) (by omega)) (fun b h2 hq => ?_))
  obtain ⟨rfl, rfl⟩ := hq
  refine az_if_eq 19 d_Sr_readSixteenth_11 (by decide) (bz_in _) (fun hcb => ?_) (fun hcb => ?_)
  · have hl0 := of_decide_eq_false (bz_f hcb)
    refine ax_aload_n d_Sr_readSixteenth_19 rfl ?_
    refine az_bipush _ d_Sr_readSixteenth_20 (by decide) ?_
    refine ax_cV1 d_Sr_readSixteenth_22 v_Sr_next lk_Sr_103 (by first | assumption | exact hH.g 0 rfl) (by decide) (Nat.le_of_ble_eq_true rfl) (cm_i (c_Sr_next hH hR hb (w := 16) (by omega) (by omega)) (fun z h3 hq => ?_))
    obtain ⟨rfl, hH3, hF3⟩ := hq
    have t1 := tv_lt T 16 p
    rw [wr16]
    have hH := hH3
    have hL3 := hL.fr hF3 rfl
    refine ax_istore d_Sr_readSixteenth_25 (by decide) rfl ?_
    refine ax_iload d_Sr_readSixteenth_27 rfl ?_
    refine az_if_ne 39 d_Sr_readSixteenth_29 (by decide) (by first | exact bz_in _ | omega) (fun hz => ?_) (fun hz => ?_)
    · refine az_iconst d_Sr_readSixteenth_39 ?_
      refine ax_istore d_Sr_readSixteenth_40 (by decide) rfl ?_
      have key : ∀ (r i : Nat) (l1 : List Int) (h : ax_H), i + r = 16 → Fl h l1 → l1.length ≤ 16 * g + i → SrH h ((p + 16 : Nat) : Int) c o k hd f fp → Fr RLS h2 h → l1 ++ mksI (tv T 16 p) g r i = l ++ mks (tv T 16 p) g →
          ax_W m_Sr_readSixteenth 2 42 [some (.ref 42), some (.ref 19), some (.int (iv g)), some (.int (iv ((p / 8 : Nat) : Int))), some (.int (iv (tv T 16 p))), some (.int (iv i))] [] h (fun r0 h1 => ∃ b : Bool, r0 = some (.int (iv (bz b))) ∧ Fr RLS h2 h1 ∧ (∃ l', Fl h1 l') ∧ if 8 * T.length < p + 16 then b = false ∧ SrF h1 (1, T.length) else if tv T 16 p = 0 then b = false ∧ SrF h1 (5, (p / 8 : Nat)) else b = true ∧ SrH h1 ((p + 16 : Nat) : Int) c o k hd f fp ∧ Fl h1 (l ++ mks (tv T 16 p) g)) := by
        intro r
        induction r with
        | zero =>
          intro i l1 h he hL hl1 hH hF hs
          refine ax_iload d_Sr_readSixteenth_42 rfl ?_
          refine az_bipush _ d_Sr_readSixteenth_44 (by decide) ?_
          refine az_icmp_ge 76 d_Sr_readSixteenth_46 (by decide) (by omega) (by omega) (fun hc => ?_) (fun hc => ?_)
          · refine az_iconst d_Sr_readSixteenth_76 ?_
            refine ax_zret d_Sr_readSixteenth_77 rfl (by decide) ?_
            refine ⟨true, rfl, hF, ⟨_, hL⟩, ?_⟩
            rw [if_neg (by omega), if_neg (by omega)]
            rw [mksI, List.append_nil] at hs
            rw [← hs]
            exact ⟨rfl, hH, hL⟩
          · exfalso
            omega
        | succ r ih =>
          intro i l1 h he hL hl1 hH hF hs
          have hsz := hL.sz
          rw [mksI] at hs
          refine ax_iload d_Sr_readSixteenth_42 rfl ?_
          refine az_bipush _ d_Sr_readSixteenth_44 (by decide) ?_
          refine az_icmp_ge 76 d_Sr_readSixteenth_46 (by decide) (by omega) (by omega) (fun hc => ?_) (fun hc => ?_)
          · exfalso
            omega
          · refine ax_iload d_Sr_readSixteenth_49 rfl ?_
            refine ax_iload d_Sr_readSixteenth_51 rfl ?_
            refine ax_cS2 d_Sr_readSixteenth_53 s_Sr_isMarked lk_Sr_115 (by decide) (Nat.le_of_ble_eq_true rfl) (cm_z (c_Sr_isMarked (m := tv T 16 p) (i := i) (by omega) (by omega)) (fun b h4 hq => ?_))
            obtain ⟨rfl, rfl⟩ := hq
            refine az_if_eq 70 d_Sr_readSixteenth_56 (by decide) (bz_in _) (fun hcb => ?_) (fun hcb => ?_)
            · have hm := of_decide_eq_false (bz_f hcb)
              rw [if_neg hm, List.nil_append] at hs
              refine az_iinc d_Sr_readSixteenth_70 rfl (by decide) rfl ?_
              refine ax_goto 42 d_Sr_readSixteenth_73 (by decide) ?_
              exact ih (i + 1) l1 h4 (by omega) hL (by omega) hH hF hs
            · have hm := of_decide_eq_true (bz_t hcb)
              rw [if_pos hm, ← List.append_assoc] at hs
              refine ax_aload_n d_Sr_readSixteenth_59 rfl ?_
              refine az_bipush _ d_Sr_readSixteenth_60 (by decide) ?_
              refine ax_iload_n d_Sr_readSixteenth_62 rfl ?_
              refine az_imul d_Sr_readSixteenth_63 ?_
              refine ax_iload d_Sr_readSixteenth_64 rfl ?_
              refine az_iadd d_Sr_readSixteenth_66 ?_
              have e1 : (16 : Int) * (g : Int) + (i : Int) = ((16 * g + i : Nat) : Int) := by omega
              rw [e1]
              refine ax_cV1 d_Sr_readSixteenth_67 v_Fl_add lk_Sr_122 (by first | assumption | exact hH.g 0 rfl) (by decide) (Nat.le_of_ble_eq_true rfl) (cm_v (c_Fl_add hL (by omega) _) (fun h5 hq => ?_))
              obtain ⟨hL5, hF5⟩ := hq
              refine az_iinc d_Sr_readSixteenth_70 rfl (by decide) rfl ?_
              refine ax_goto 42 d_Sr_readSixteenth_73 (by decide) ?_
              exact ih (i + 1) _ h5 (by omega) hL5 (by rw [List.length_append]; simp; omega) (hH.fr hF5 rfl) (hF.tr (hF5.wide rfl)) hs
      exact key 16 0 l h3 (by omega) hL3 (by omega) hH (hF3.wide rfl) rfl
    · refine ax_aload_n d_Sr_readSixteenth_32 rfl ?_
      refine az_iconst d_Sr_readSixteenth_33 ?_
      refine ax_iload_n d_Sr_readSixteenth_34 rfl ?_
      refine ax_cV2 d_Sr_readSixteenth_35 v_Sr_fails lk_Sr_84 (by first | assumption | exact hH.g 0 rfl) (by decide) (Nat.le_of_ble_eq_true rfl) (cm_z (c_Sr_fails hH 5 _) (fun b h9 hq => ?_))
      obtain ⟨rfl, hE, hF9⟩ := hq
      refine ax_zret d_Sr_readSixteenth_38 rfl (by decide) ?_
      refine ⟨false, rfl, (hF3.wide rfl).tr (hF9.wide rfl), ⟨_, hL3.fr hF9 rfl⟩, ?_⟩
      rw [if_neg (by omega), if_pos (by omega)]
      exact ⟨rfl, ⟨_, _, _, _, _, hE⟩⟩
  · have hl0 := of_decide_eq_true (bz_t hcb)
    refine ax_aload_n d_Sr_readSixteenth_14 rfl ?_
    refine ax_cV0 d_Sr_readSixteenth_15 v_Sr_tapeEnds lk_Sr_100 (by first | assumption | exact hH.g 0 rfl) (by decide) (Nat.le_of_ble_eq_true rfl) (cm_z (c_Sr_tapeEnds hH hR) (fun b h9 hq => ?_))
    obtain ⟨rfl, hE, hF9⟩ := hq
    refine ax_zret d_Sr_readSixteenth_18 rfl (by decide) ?_
    refine ⟨false, rfl, hF9.wide rfl, ⟨_, hL.fr hF9 rfl⟩, ?_⟩
    rw [if_pos (by omega)]
    exact ⟨rfl, hE⟩
set_option maxRecDepth 100000 in
set_option maxHeartbeats 8000000 in
theorem c_Sr_readList {h0 : ax_H} {c o k hd f fp : Int} {T l0 : List Int} {p : Nat} (hH : SrH h0 p c o k hd f fp) (hR : Rw h0 43 44 3000 T) (hb : Bs T) (hp : p ≤ 8 * T.length) (hL : Fl h0 l0) :
    ax_Cz m_Sr_readList 3 [.ref 42, .ref 19] h0 (fun b h1 => Fr RLS h0 h1 ∧ (∃ l', Fl h1 l') ∧ match rdList T p with
      | .inl e => b = false ∧ SrF h1 e
      | .inr q => b = true ∧ SrH h1 q.2 c o k hd f fp ∧ Fl h1 q.1) := by
  have hlc := hR.lc
  have hsz := hL.sz
  refine ax_enter [some (.ref 42), some (.ref 19), none, none, none] rfl (Nat.le_of_ble_eq_true rfl) (by decide) ?_
  refine ax_aload_n d_Sr_readList_0 rfl ?_
  refine ax_cV0 d_Sr_readList_1 v_Fl_makeEmpty lk_Sr_112 (by first | assumption | exact hH.g 0 rfl) (by decide) (Nat.le_of_ble_eq_true rfl) (cm_v (c_Fl_makeEmpty hL) (fun h1 hq => ?_))
  obtain ⟨hL1, hF1⟩ := hq
  have hH : SrH h1 p c o k hd f fp := hH.fr hF1 rfl
  have hR1 := hR.fr hF1 rfl rfl
  refine ax_aload_n d_Sr_readList_4 rfl ?_
  refine ax_cV0 d_Sr_readList_5 v_Sr_byteNow lk_Sr_92 (by first | assumption | exact hH.g 0 rfl) (by decide) (Nat.le_of_ble_eq_true rfl) (cm_i (c_Sr_byteNow hH (by omega)) (fun z h2 hq => ?_))
  obtain ⟨rfl, rfl⟩ := hq
  refine ax_istore_n d_Sr_readList_8 (by decide) rfl ?_
  refine ax_aload_n d_Sr_readList_9 rfl ?_
  refine az_bipush _ d_Sr_readList_10 (by decide) ?_
  refine ax_cV1 d_Sr_readList_12 v_Sr_lacks lk_Sr_88 (by first | assumption | exact hH.g 0 rfl) (by decide) (Nat.le_of_ble_eq_true rfl) (cm_z (c_Sr_lacks hH hR1 (w := 16) (by omega) (by omega)) (fun b h2 hq => ?_))
  obtain ⟨rfl, rfl⟩ := hq
  unfold rdList
  refine az_if_eq 23 d_Sr_readList_15 (by decide) (bz_in _) (fun hcb => ?_) (fun hcb => ?_)
  · have hl0 := of_decide_eq_false (bz_f hcb)
    rw [if_neg hl0]
    refine ax_aload_n d_Sr_readList_23 rfl ?_
    refine az_bipush _ d_Sr_readList_24 (by decide) ?_
    refine ax_cV1 d_Sr_readList_26 v_Sr_next lk_Sr_103 (by first | assumption | exact hH.g 0 rfl) (by decide) (Nat.le_of_ble_eq_true rfl) (cm_i (c_Sr_next hH hR1 hb (w := 16) (by omega) (by omega)) (fun z h3 hq => ?_))
    obtain ⟨rfl, hH3, hF3⟩ := hq
    have t1 := tv_lt T 16 p
    rw [wr16]
    have hH := hH3
    have hL3 := hL1.fr hF3 rfl
    have hR3 := hR1.fr hF3 rfl rfl
    have hF13 : Fr RLS h0 h3 := (hF1.wide rfl).tr (hF3.wide rfl)
    refine ax_istore_n d_Sr_readList_29 (by decide) rfl ?_
    refine ax_iload_n d_Sr_readList_30 rfl ?_
    refine az_if_ne 41 d_Sr_readList_31 (by decide) (by first | exact bz_in _ | omega) (fun hz => ?_) (fun hz => ?_)
    · rw [if_neg (by omega)]
      refine az_iconst d_Sr_readList_41 ?_
      refine ax_istore d_Sr_readList_42 (by decide) rfl ?_
      have key : ∀ (r g p1 : Nat) (l1 : List Int) (h : ax_H), g + r = 16 → Fl h l1 → l1.length ≤ 16 * g → p1 ≤ 8 * T.length → SrH h p1 c o k hd f fp → Fr RLS h0 h → rdG T r g (tv T 16 p) p1 l1 = rdG T 16 0 (tv T 16 p) (p + 16) [] →
          ax_W m_Sr_readList 3 44 [some (.ref 42), some (.ref 19), some (.int (iv ((p / 8 : Nat) : Int))), some (.int (iv (tv T 16 p))), some (.int (iv g))] [] h (fun r0 h1 => ∃ b : Bool, r0 = some (.int (iv (bz b))) ∧ Fr RLS h0 h1 ∧ (∃ l', Fl h1 l') ∧ match rdG T 16 0 (tv T 16 p) (p + 16) [] with
            | .inl e => b = false ∧ SrF h1 e
            | .inr q => b = true ∧ SrH h1 q.2 c o k hd f fp ∧ Fl h1 q.1) := by
        intro r
        induction r with
        | zero =>
          intro g p1 l1 h he hL hl1 hp1 hH hF hs
          refine ax_iload d_Sr_readList_44 rfl ?_
          refine az_bipush _ d_Sr_readList_46 (by decide) ?_
          refine az_icmp_ge 78 d_Sr_readList_48 (by decide) (by omega) (by omega) (fun hc => ?_) (fun hc => ?_)
          · refine az_iconst d_Sr_readList_78 ?_
            refine ax_zret d_Sr_readList_79 rfl (by decide) ?_
            rw [← hs, rdG]
            exact ⟨true, rfl, hF, ⟨_, hL⟩, rfl, hH, hL⟩
          · exfalso
            omega
        | succ r ih =>
          intro g p1 l1 h he hL hl1 hp1 hH hF hs
          have hR4 := hR.fr hF rfl rfl
          rw [rdG] at hs
          refine ax_iload d_Sr_readList_44 rfl ?_
          refine az_bipush _ d_Sr_readList_46 (by decide) ?_
          refine az_icmp_ge 78 d_Sr_readList_48 (by decide) (by omega) (by omega) (fun hc => ?_) (fun hc => ?_)
          · exfalso
            omega
          · refine ax_iload_n d_Sr_readList_51 rfl ?_
            refine ax_iload d_Sr_readList_52 rfl ?_
            refine ax_cS2 d_Sr_readList_54 s_Sr_isMarked lk_Sr_115 (by decide) (Nat.le_of_ble_eq_true rfl) (cm_z (c_Sr_isMarked (m := tv T 16 p) (i := g) (by omega) (by omega)) (fun b h4 hq => ?_))
            obtain ⟨rfl, rfl⟩ := hq
            refine az_if_eq 72 d_Sr_readList_57 (by decide) (bz_in _) (fun hcb => ?_) (fun hcb => ?_)
            · have hm := of_decide_eq_false (bz_f hcb)
              rw [if_neg hm] at hs
              refine az_iinc d_Sr_readList_72 rfl (by decide) rfl ?_
              refine ax_goto 44 d_Sr_readList_75 (by decide) ?_
              exact ih (g + 1) p1 l1 h4 (by omega) hL (by omega) hp1 hH hF hs
            · have hm := of_decide_eq_true (bz_t hcb)
              rw [if_pos hm] at hs
              refine ax_aload_n d_Sr_readList_60 rfl ?_
              refine ax_aload_n d_Sr_readList_61 rfl ?_
              refine ax_iload d_Sr_readList_62 rfl ?_
              refine ax_cV2 d_Sr_readList_64 v_Sr_readSixteenth lk_Sr_118 (by first | assumption | exact hH.g 0 rfl) (by decide) (Nat.le_of_ble_eq_true rfl) (cm_z (c_Sr_readSixteenth hH hR4 hb hp1 hL (g := g) (by omega) hl1) (fun b h5 hq => ?_))
              obtain ⟨hF5, hL5, hq⟩ := hq
              have hF45 := hF.tr hF5
              by_cases w1 : 8 * T.length < p1 + 16
              · rw [if_pos w1] at hq hs
                obtain ⟨rfl, hE⟩ := hq
                refine az_if_ne 72 d_Sr_readList_67 (by decide) (by first | exact bz_in _ | omega) (fun hx => ?_) (fun hx => ?_)
                · exact absurd rfl hx
                · refine az_iconst d_Sr_readList_70 ?_
                  refine ax_zret d_Sr_readList_71 rfl (by decide) ?_
                  rw [← hs]
                  exact ⟨false, rfl, hF45, hL5, rfl, hE⟩
              · rw [if_neg w1] at hq hs
                by_cases w2 : tv T 16 p1 = 0
                · rw [if_pos w2] at hq hs
                  obtain ⟨rfl, hE⟩ := hq
                  refine az_if_ne 72 d_Sr_readList_67 (by decide) (by first | exact bz_in _ | omega) (fun hx => ?_) (fun hx => ?_)
                  · exact absurd rfl hx
                  · refine az_iconst d_Sr_readList_70 ?_
                    refine ax_zret d_Sr_readList_71 rfl (by decide) ?_
                    rw [← hs]
                    exact ⟨false, rfl, hF45, hL5, rfl, hE⟩
                · rw [if_neg w2] at hq hs
                  obtain ⟨rfl, hH5, hL5⟩ := hq
                  have hml := mks_len (tv T 16 p1) g
                  refine az_if_ne 72 d_Sr_readList_67 (by decide) (by first | exact bz_in _ | omega) (fun hx => ?_) (fun hx => ?_)
                  · refine az_iinc d_Sr_readList_72 rfl (by decide) rfl ?_
                    refine ax_goto 44 d_Sr_readList_75 (by decide) ?_
                    exact ih (g + 1) (p1 + 16) _ h5 (by omega) hL5 (by rw [List.length_append]; omega) (by omega) hH5 hF45 hs
                  · exact absurd hx (by decide)
      exact key 16 0 (p + 16) [] h3 (by omega) hL3 (by simp) (by omega) hH hF13 rfl
    · rw [if_pos (by omega)]
      refine ax_aload_n d_Sr_readList_34 rfl ?_
      refine az_iconst d_Sr_readList_35 ?_
      refine ax_iload_n d_Sr_readList_36 rfl ?_
      refine ax_cV2 d_Sr_readList_37 v_Sr_fails lk_Sr_84 (by first | assumption | exact hH.g 0 rfl) (by decide) (Nat.le_of_ble_eq_true rfl) (cm_z (c_Sr_fails hH 5 _) (fun b h9 hq => ?_))
      obtain ⟨rfl, hE, hF9⟩ := hq
      refine ax_zret d_Sr_readList_40 rfl (by decide) ?_
      exact ⟨false, rfl, hF13.tr (hF9.wide rfl), ⟨_, hL3.fr hF9 rfl⟩, rfl, ⟨_, _, _, _, _, hE⟩⟩
  · have hl0 := of_decide_eq_true (bz_t hcb)
    rw [if_pos hl0]
    refine ax_aload_n d_Sr_readList_18 rfl ?_
    refine ax_cV0 d_Sr_readList_19 v_Sr_tapeEnds lk_Sr_100 (by first | assumption | exact hH.g 0 rfl) (by decide) (Nat.le_of_ble_eq_true rfl) (cm_z (c_Sr_tapeEnds hH hR1) (fun b h9 hq => ?_))
    obtain ⟨rfl, hE, hF9⟩ := hq
    refine ax_zret d_Sr_readList_22 rfl (by decide) ?_
    exact ⟨false, rfl, (hF1.wide rfl).tr (hF9.wide rfl), ⟨_, hL1.fr hF9 rfl⟩, rfl, hE⟩
