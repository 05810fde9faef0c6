/-! StreamReader: lengths, symbols -/
set_option maxRecDepth 100000 in
theorem c_Sr_isNoLength {h0 : ax_H} {i : Int} (hi : -2147483648 ≤ i ∧ i < 2147483648) : ax_Cz m_Sr_isNoLength 0 [.int (iv i)] h0 (fun b h1 => h1 = h0 ∧ b = decide (i < 1 ∨ 12 < i)) := by
  refine ax_enter [some (.int (iv i))] rfl (Nat.le_of_ble_eq_true rfl) (by decide) ?_
  refine ax_iload_n d_Sr_isNoLength_0 rfl ?_
  refine az_iconst d_Sr_isNoLength_1 ?_
  refine az_icmp_lt 11 d_Sr_isNoLength_2 (by decide) (by omega) (by omega) (fun hc => ?_) (fun hc => ?_)
  · refine az_iconst d_Sr_isNoLength_11 ?_
    refine ax_goto 16 d_Sr_isNoLength_12 (by decide) ?_
    refine ax_zret d_Sr_isNoLength_16 rfl (by decide) ?_
    refine ⟨true, rfl, rfl, ?_⟩
    simp; omega
  · refine ax_iload_n d_Sr_isNoLength_5 rfl ?_
    refine az_bipush _ d_Sr_isNoLength_6 (by decide) ?_
    refine az_icmp_le 15 d_Sr_isNoLength_8 (by decide) (by omega) (by omega) (fun hc => ?_) (fun hc => ?_)
    · refine az_iconst d_Sr_isNoLength_15 ?_
      refine ax_zret d_Sr_isNoLength_16 rfl (by decide) ?_
      refine ⟨false, rfl, rfl, ?_⟩
      simp; omega
    · refine az_iconst d_Sr_isNoLength_11 ?_
      refine ax_goto 16 d_Sr_isNoLength_12 (by decide) ?_
      refine ax_zret d_Sr_isNoLength_16 rfl (by decide) ?_
      refine ⟨true, rfl, rfl, ?_⟩
      simp; omega
abbrev CRS : List Nat := [22, 28, 29, 30, 31, 32, 42]
set_option maxRecDepth 100000 in
set_option maxHeartbeats 8000000 in
theorem c_Sr_readLength {h0 : ax_H} {c o k hd f fp : Int} {T : List Int} {p n s : Nat} {wt lg vl bl pl : Nat → Int} (hH : SrH h0 p c o k hd f fp) (hR : Rw h0 43 44 3000 T) (hb : Bs T) (hp : p ≤ 8 * T.length) (hhd : 1 ≤ hd ∧ hd ≤ 12) (hC : Hs h0 (CdL n wt lg vl bl pl)) (hn : n ≤ 258) (hs : s < n) :
    ax_Cz m_Sr_readLength 3 [.ref 42, .ref 22, .int (iv s)] h0 (fun b h1 => Fr CRS h0 h1 ∧ match rdL1 T 24000 p hd (p / 8) with
      | .inl e => b = false ∧ SrF h1 e ∧ Hs h1 (CdL n wt lg vl bl pl)
      | .inr q => b = true ∧ SrH h1 q.2 c o k q.1 f fp ∧ Hs h1 (CdL n wt (up lg s q.1) vl bl pl)) := by
  have hlc := hR.lc
  refine ax_enter [some (.ref 42), some (.ref 22), some (.int (iv s)), none, none] rfl (Nat.le_of_ble_eq_true rfl) (by decide) ?_
  refine ax_aload_n d_Sr_readLength_0 rfl ?_
  refine ax_cV0 d_Sr_readLength_1 v_Sr_byteNow lk_Sr_92 (by first | assumption | exact hH.g 0 rfl) (by decide) (Nat.le_of_ble_eq_true rfl) (cm_i (c_Sr_byteNow hH (by omega)) (fun z h2 hq => ?_))
  obtain ⟨rfl, rfl⟩ := hq
  refine ax_istore_n d_Sr_readLength_4 (by decide) rfl ?_
  refine az_iconst d_Sr_readLength_5 ?_
  refine ax_istore d_Sr_readLength_6 (by decide) rfl ?_
  have key : ∀ (g st p1 : Nat) (hd1 : Int) (h : ax_H), st + g = 24000 → p1 ≤ 8 * T.length → (1 ≤ hd1 ∧ hd1 ≤ 12) → SrH h p1 c o k hd1 f fp → Fr [42] h2 h → rdL1 T g p1 hd1 (p / 8) = rdL1 T 24000 p hd (p / 8) →
      ax_W m_Sr_readLength 3 8 [some (.ref 42), some (.ref 22), some (.int (iv s)), some (.int (iv ((p / 8 : Nat) : Int))), some (.int (iv st))] [] h (fun r0 h1 => ∃ b : Bool, r0 = some (.int (iv (bz b))) ∧ Fr CRS h2 h1 ∧ match rdL1 T 24000 p hd (p / 8) with
        | .inl e => b = false ∧ SrF h1 e ∧ Hs h1 (CdL n wt lg vl bl pl)
        | .inr q => b = true ∧ SrH h1 q.2 c o k q.1 f fp ∧ Hs h1 (CdL n wt (up lg s q.1) vl bl pl)) := by
    intro g
    induction g with
    | zero =>
      intro st p1 hd1 h he hp1 hh1 hH hF hr
      have hR1 := hR.fr hF rfl rfl
      refine ax_iload d_Sr_readLength_8 rfl ?_
      refine az_sipush _ d_Sr_readLength_10 (by decide) ?_
      refine az_icmp_ge 100 d_Sr_readLength_13 (by decide) (by omega) (by omega) (fun hc => ?_) (fun hc => ?_)
      · refine ax_aload_n d_Sr_readLength_100 rfl ?_
        refine ax_cV0 d_Sr_readLength_101 v_Sr_tapeEnds lk_Sr_100 (by first | assumption | exact hH.g 0 rfl) (by decide) (Nat.le_of_ble_eq_true rfl) (cm_z (c_Sr_tapeEnds hH hR1) (fun b h9 hq => ?_))
        obtain ⟨rfl, hE, hF9⟩ := hq
        refine ax_zret d_Sr_readLength_104 rfl (by decide) ?_
        rw [← hr]
        exact ⟨false, rfl, (hF.tr hF9).wide rfl, rfl, hE, (hC.fr hF rfl).fr hF9 rfl⟩
      · exfalso
        omega
    | succ g ih =>
      intro st p1 hd1 h he hp1 hh1 hH hF hr
      have hR1 := hR.fr hF rfl rfl
      have hC1 := hC.fr hF rfl
      rw [rdL1] at hr
      have ends : ∀ (h : ax_H) (p1 : Nat) (hd1 : Int), SrH h p1 c o k hd1 f fp → Fr [42] h2 h → (.inl (1, (T.length : Int)) : Sum RF (Int × Nat)) = rdL1 T 24000 p hd (p / 8) →
          ax_W m_Sr_readLength 3 100 [some (.ref 42), some (.ref 22), some (.int (iv s)), some (.int (iv ((p / 8 : Nat) : Int))), some (.int (iv st))] [] h (fun r0 h1 => ∃ b : Bool, r0 = some (.int (iv (bz b))) ∧ Fr CRS h2 h1 ∧ match rdL1 T 24000 p hd (p / 8) with
            | .inl e => b = false ∧ SrF h1 e ∧ Hs h1 (CdL n wt lg vl bl pl)
            | .inr q => b = true ∧ SrH h1 q.2 c o k q.1 f fp ∧ Hs h1 (CdL n wt (up lg s q.1) vl bl pl)) := by
        intro h p1 hd1 hH hF hr
        have hR1 := hR.fr hF rfl rfl
        refine ax_aload_n d_Sr_readLength_100 rfl ?_
        refine ax_cV0 d_Sr_readLength_101 v_Sr_tapeEnds lk_Sr_100 (by first | assumption | exact hH.g 0 rfl) (by decide) (Nat.le_of_ble_eq_true rfl) (cm_z (c_Sr_tapeEnds hH hR1) (fun b h9 hq => ?_))
        obtain ⟨rfl, hE, hF9⟩ := hq
        refine ax_zret d_Sr_readLength_104 rfl (by decide) ?_
        rw [← hr]
        exact ⟨false, rfl, (hF.tr hF9).wide rfl, rfl, hE, (hC.fr hF rfl).fr hF9 rfl⟩
      refine ax_iload d_Sr_readLength_8 rfl ?_
      refine az_sipush _ d_Sr_readLength_10 (by decide) ?_
      refine az_icmp_ge 100 d_Sr_readLength_13 (by decide) (by omega) (by omega) (fun hc => ?_) (fun hc => ?_)
      · exfalso
        omega
      · refine ax_aload_n d_Sr_readLength_16 rfl ?_
        refine az_iconst d_Sr_readLength_17 ?_
        refine ax_cV1 d_Sr_readLength_18 v_Sr_lacks lk_Sr_88 (by first | assumption | exact hH.g 0 rfl) (by decide) (Nat.le_of_ble_eq_true rfl) (cm_z (c_Sr_lacks hH hR1 (w := 1) (by omega) (by omega)) (fun b h3 hq => ?_))
        obtain ⟨rfl, rfl⟩ := hq
        refine az_if_ne 100 d_Sr_readLength_21 (by decide) (bz_in _) (fun hcb => ?_) (fun hcb => ?_)
        · have hl := of_decide_eq_true (bz_t hcb)
          rw [if_pos (by omega)] at hr
          exact ends h3 p1 hd1 hH hF hr
        · have hl := of_decide_eq_false (bz_f hcb)
          rw [if_neg (by omega)] at hr
          have t0 := tb_lt T p1
          refine ax_aload_n d_Sr_readLength_24 rfl ?_
          refine az_iconst d_Sr_readLength_25 ?_
          refine ax_cV1 d_Sr_readLength_26 v_Sr_next lk_Sr_103 (by first | assumption | exact hH.g 0 rfl) (by decide) (Nat.le_of_ble_eq_true rfl) (cm_i (c_Sr_next hH hR1 hb (w := 1) (by omega) (by omega)) (fun z h4 hq => ?_))
          obtain ⟨rfl, hH4, hF4⟩ := hq
          rw [wr1]
          have hH := hH4
          have hF24 := hF.tr hF4
          have hC4 := hC1.fr hF4 rfl
          have hR4 := hR1.fr hF4 rfl rfl
          have c22 : h4[22]? = _ := hC4.g 0 rfl
          refine az_if_ne 43 d_Sr_readLength_29 (by decide) (by first | exact bz_in _ | omega) (fun hz => ?_) (fun hz => ?_)
          · rw [if_neg (by omega)] at hr
            refine ax_aload_n d_Sr_readLength_43 rfl ?_
            refine az_iconst d_Sr_readLength_44 ?_
            refine ax_cV1 d_Sr_readLength_45 v_Sr_lacks lk_Sr_88 (by first | assumption | exact hH.g 0 rfl) (by decide) (Nat.le_of_ble_eq_true rfl) (cm_z (c_Sr_lacks hH hR4 (w := 1) (by omega) (by omega)) (fun b h5 hq => ?_))
            obtain ⟨rfl, rfl⟩ := hq
            refine az_if_eq 54 d_Sr_readLength_48 (by decide) (bz_in _) (fun hcb => ?_) (fun hcb => ?_)
            · have hl2 := of_decide_eq_false (bz_f hcb)
              rw [if_neg (by omega)] at hr
              have t1 := tb_lt T (p1 + 1)
              refine ax_aload_n d_Sr_readLength_54 rfl ?_
              refine ax_dup d_Sr_readLength_55 rfl ?_
              refine ax_get d_Sr_readLength_56 fg_Sr_125 (by first | assumption | exact hH.g 0 rfl) (by rfl) ?_
              refine ax_aload_n d_Sr_readLength_59 rfl ?_
              refine az_iconst d_Sr_readLength_60 ?_
              refine ax_cV1 d_Sr_readLength_61 v_Sr_next lk_Sr_103 (by first | assumption | exact hH.g 0 rfl) (by decide) (Nat.le_of_ble_eq_true rfl) (cm_i (c_Sr_next hH hR4 hb (w := 1) (by omega) (by omega)) (fun z h6 hq => ?_))
              obtain ⟨rfl, hH6, hF6⟩ := hq
              rw [wr1]
              have hF26 := hF24.tr hF6
              have rest : ∀ dl : Int, dl = (if tb T (p1 + 1) = 0 then 1 else -1) → ax_W m_Sr_readLength 3 72 [some (.ref 42), some (.ref 22), some (.int (iv s)), some (.int (iv ((p / 8 : Nat) : Int))), some (.int (iv st))] [.int (iv dl), .int (iv hd1), .ref 42] h6 (fun r0 h1 => ∃ b : Bool, r0 = some (.int (iv (bz b))) ∧ Fr CRS h2 h1 ∧ match rdL1 T 24000 p hd (p / 8) with
                  | .inl e => b = false ∧ SrF h1 e ∧ Hs h1 (CdL n wt lg vl bl pl)
                  | .inr q => b = true ∧ SrH h1 q.2 c o k q.1 f fp ∧ Hs h1 (CdL n wt (up lg s q.1) vl bl pl)) := by
                intro dl hdl
                have hdl2 : dl = 1 ∨ dl = -1 := by rw [hdl]; split <;> simp
                rw [← hdl] at hr
                have hH := hH6
                have hF : Fr [42] h6 h6 := Fr.rf
                refine az_iadd d_Sr_readLength_72 ?_
                first | refine ah_put d_Sr_readLength_73 fp_Sr_125 hH hF 0 rfl rfl rfl (by first | rfl | decide) (Nat.le_of_ble_eq_true rfl) (fun h hH hF => ?_)
                have hH : SrH h ((p1 + 2 : Nat) : Int) c o k (hd1 + dl) f fp := hH
                have hF27 := hF26.tr hF
                refine ax_aload_n d_Sr_readLength_76 rfl ?_
                refine ax_get d_Sr_readLength_77 fg_Sr_125 (by first | assumption | exact hH.g 0 rfl) (by rfl) ?_
                refine ax_cS1 d_Sr_readLength_80 s_Sr_isNoLength lk_Sr_128 (by decide) (Nat.le_of_ble_eq_true rfl) (cm_z (c_Sr_isNoLength (i := hd1 + dl) (by omega)) (fun b h7 hq => ?_))
                obtain ⟨rfl, rfl⟩ := hq
                refine az_if_eq 94 d_Sr_readLength_83 (by decide) (bz_in _) (fun hcb => ?_) (fun hcb => ?_)
                · have hno := of_decide_eq_false (bz_f hcb)
                  rw [if_neg hno] at hr
                  refine az_iinc d_Sr_readLength_94 rfl (by decide) rfl ?_
                  refine ax_goto 8 d_Sr_readLength_97 (by decide) ?_
                  exact ih (st + 1) (p1 + 2) (hd1 + dl) h7 (by omega) (by omega) (by omega) hH hF27 hr
                · have hno := of_decide_eq_true (bz_t hcb)
                  rw [if_pos hno] at hr
                  refine ax_aload_n d_Sr_readLength_86 rfl ?_
                  refine az_bipush _ d_Sr_readLength_87 (by decide) ?_
                  refine ax_iload_n d_Sr_readLength_89 rfl ?_
                  refine ax_cV2 d_Sr_readLength_90 v_Sr_fails lk_Sr_84 (by first | assumption | exact hH.g 0 rfl) (by decide) (Nat.le_of_ble_eq_true rfl) (cm_z (c_Sr_fails hH 6 _) (fun b h9 hq => ?_))
                  obtain ⟨rfl, hE, hF9⟩ := hq
                  refine ax_zret d_Sr_readLength_93 rfl (by decide) ?_
                  rw [← hr]
                  exact ⟨false, rfl, (hF27.tr hF9).wide rfl, rfl, ⟨_, _, _, _, _, hE⟩, (hC.fr hF27 rfl).fr hF9 rfl⟩
              refine az_if_ne 71 d_Sr_readLength_64 (by decide) (by first | exact bz_in _ | omega) (fun hz2 => ?_) (fun hz2 => ?_)
              · refine az_iconst d_Sr_readLength_71 ?_
                exact rest (-1) (by rw [if_neg]; show ¬ tb T (p1 + 1) = 0; omega)
              · refine az_iconst d_Sr_readLength_67 ?_
                refine ax_goto 72 d_Sr_readLength_68 (by decide) ?_
                exact rest 1 (by rw [if_pos]; show tb T (p1 + 1) = 0; omega)
            · have hl2 := of_decide_eq_true (bz_t hcb)
              rw [if_pos (by omega)] at hr
              refine ax_goto 100 d_Sr_readLength_51 (by decide) ?_
              exact ends h5 (p1 + 1) hd1 hH hF24 hr
          · rw [if_pos (by omega)] at hr
            refine ax_aload_n d_Sr_readLength_32 rfl ?_
            refine ax_iload_n d_Sr_readLength_33 rfl ?_
            refine ax_aload_n d_Sr_readLength_34 rfl ?_
            refine ax_get d_Sr_readLength_35 fg_Sr_125 (by first | assumption | exact hH.g 0 rfl) (by rfl) ?_
            refine ax_cV2 d_Sr_readLength_38 v_Cd_setLength lk_Sr_145 (by first | assumption | exact hH.g 0 rfl) (by decide) (Nat.le_of_ble_eq_true rfl) (cm_v (c_Cd_setLength hC4 hn hs hd1) (fun h5 hq => ?_))
            obtain ⟨hC5, hF5⟩ := hq
            refine az_iconst d_Sr_readLength_41 ?_
            refine ax_zret d_Sr_readLength_42 rfl (by decide) ?_
            rw [← hr]
            exact ⟨true, rfl, (hF24.wide rfl).tr (hF5.wide rfl), rfl, hH.fr hF5 rfl, hC5⟩
  exact key 24000 0 p hd h2 (by omega) hp hhd hH Fr.rf rfl
/-- codes that were read -/
def CdRd (h : ax_H) (n : Nat) (lg : Nat → Int) : Prop := ∃ wt lg0 vl bl pl : Nat → Int, Hs h (CdL n wt lg0 vl bl pl) ∧ (∀ s : Nat, s < n → bl (plc (kl lg) n s) = s) ∧ ∀ l : Nat, 1 ≤ l → l ≤ 12 → pl l = nlc lg n l
theorem CdRd.fr {h h1 : ax_H} {n : Nat} {lg : Nat → Int} {S : List Nat} (k : CdRd h n lg) (hF : Fr S h h1) (hd : ([22, 28, 29, 30, 31, 32].all fun a => !S.contains a) = true) : CdRd h1 n lg := by
  obtain ⟨wt, lg0, vl, bl, pl, hH, h1, h2⟩ := k
  exact ⟨wt, lg0, vl, bl, pl, hH.fr hF hd, h1, h2⟩
set_option maxRecDepth 100000 in
set_option maxHeartbeats 8000000 in
theorem c_Sr_readLengths {h0 : ax_H} {c o k hd f fp : Int} {T : List Int} {p n : Nat} (hH : SrH h0 p c o k hd f fp) (hR : Rw h0 43 44 3000 T) (hb : Bs T) (hp : p ≤ 8 * T.length) (hC : CdAny h0) (hn : n ≤ 258) :
    ax_Cz m_Sr_readLengths 4 [.ref 42, .ref 22, .int (iv n)] h0 (fun b h1 => Fr CRS h0 h1 ∧ CdAny h1 ∧ match rdLens T n p with
      | .inl e => b = false ∧ SrF h1 e
      | .inr q => b = true ∧ (∃ hd1, SrH h1 q.2 c o k hd1 f fp) ∧ CdRd h1 n (gx q.1)) := by
  have hlc := hR.lc
  obtain ⟨n0, wt, lg, vl, bl, pl, hC⟩ := hC
  refine ax_enter [some (.ref 42), some (.ref 22), some (.int (iv n)), none, none] rfl (Nat.le_of_ble_eq_true rfl) (by decide) ?_
  refine ax_aload_n d_Sr_readLengths_0 rfl ?_
  refine ax_cV0 d_Sr_readLengths_1 v_Sr_byteNow lk_Sr_92 (by first | assumption | exact hH.g 0 rfl) (by decide) (Nat.le_of_ble_eq_true rfl) (cm_i (c_Sr_byteNow hH (by omega)) (fun z h2 hq => ?_))
  obtain ⟨rfl, rfl⟩ := hq
  refine ax_istore_n d_Sr_readLengths_4 (by decide) rfl ?_
  refine ax_aload_n d_Sr_readLengths_5 rfl ?_
  refine az_iconst d_Sr_readLengths_6 ?_
  refine ax_cV1 d_Sr_readLengths_7 v_Sr_lacks lk_Sr_88 (by first | assumption | exact hH.g 0 rfl) (by decide) (Nat.le_of_ble_eq_true rfl) (cm_z (c_Sr_lacks hH hR (w := 4) (by omega) (by omega)) (fun b h2 hq => ?_))
  obtain ⟨rfl, rfl⟩ := hq
  unfold rdLens
  refine az_if_eq 18 d_Sr_readLengths_10 (by decide) (bz_in _) (fun hcb => ?_) (fun hcb => ?_)
  · have hl0 := of_decide_eq_false (bz_f hcb)
    rw [if_neg hl0]
    refine ax_aload_n d_Sr_readLengths_18 rfl ?_
    refine ax_aload_n d_Sr_readLengths_19 rfl ?_
    refine az_iconst d_Sr_readLengths_20 ?_
    refine ax_cV1 d_Sr_readLengths_21 v_Sr_next lk_Sr_103 (by first | assumption | exact hH.g 0 rfl) (by decide) (Nat.le_of_ble_eq_true rfl) (cm_i (c_Sr_next hH hR hb (w := 4) (by omega) (by omega)) (fun z h3 hq => ?_))
    obtain ⟨rfl, hH3, hF3⟩ := hq
    have t1 := tv_lt T 4 p
    rw [wr4]
    have hH := hH3
    have hF : Fr [42] h3 h3 := Fr.rf
    first | refine ah_put d_Sr_readLengths_24 fp_Sr_125 hH hF 0 rfl rfl rfl (by first | rfl | decide) (Nat.le_of_ble_eq_true rfl) (fun h hH hF => ?_)
    have hH : SrH h ((p + 4 : Nat) : Int) c o k (tv T 4 p : Nat) f fp := hH
    have hFa := hF3.tr hF
    have hCa := hC.fr hFa rfl
    refine ax_aload_n d_Sr_readLengths_27 rfl ?_
    refine ax_get d_Sr_readLengths_28 fg_Sr_125 (by first | assumption | exact hH.g 0 rfl) (by rfl) ?_
    refine ax_cS1 d_Sr_readLengths_31 s_Sr_isNoLength lk_Sr_128 (by decide) (Nat.le_of_ble_eq_true rfl) (cm_z (c_Sr_isNoLength (i := (tv T 4 p : Nat)) (by omega)) (fun b h4 hq => ?_))
    obtain ⟨rfl, rfl⟩ := hq
    refine az_if_eq 45 d_Sr_readLengths_34 (by decide) (bz_in _) (fun hcb => ?_) (fun hcb => ?_)
    · have hno := of_decide_eq_false (bz_f hcb)
      rw [if_neg (by omega)]
      have c22 : h4[22]? = _ := hCa.g 0 rfl
      refine ax_aload_n d_Sr_readLengths_45 rfl ?_
      refine ax_iload_n d_Sr_readLengths_46 rfl ?_
      refine ax_cV1 d_Sr_readLengths_47 v_Cd_beginLengths lk_Sr_131 (by first | assumption | exact hH.g 0 rfl) (by decide) (Nat.le_of_ble_eq_true rfl) (cm_v (c_Cd_beginLengths hCa hn) (fun h5 hq => ?_))
      obtain ⟨⟨lg5, hC5⟩, hF5⟩ := hq
      have hFb : Fr CRS h2 h5 := (hFa.wide rfl).tr (hF5.wide rfl)
      refine az_iconst d_Sr_readLengths_50 ?_
      refine ax_istore d_Sr_readLengths_51 (by decide) rfl ?_
      have key : ∀ (r s p1 : Nat) (hd1 : Int) (acc : List Int) (lg1 : Nat → Int) (h : ax_H), s + r = n → acc.length = s → p1 ≤ 8 * T.length → (1 ≤ hd1 ∧ hd1 ≤ 12) → (∀ j : Nat, j < s → lg1 j = gx acc j) → SrH h p1 c o k hd1 f fp → Hs h (CdL n wt lg1 vl bl pl) → Fr CRS h2 h → rdLs T r p1 hd1 acc = rdLs T n (p + 4) (tv T 4 p : Nat) [] →
          ax_W m_Sr_readLengths 4 53 [some (.ref 42), some (.ref 22), some (.int (iv n)), some (.int (iv ((p / 8 : Nat) : Int))), some (.int (iv s))] [] h (fun r0 h1 => ∃ b : Bool, r0 = some (.int (iv (bz b))) ∧ Fr CRS h2 h1 ∧ CdAny h1 ∧ match lenE n p (rdLs T n (p + 4) (tv T 4 p : Nat) []) with
            | .inl e => b = false ∧ SrF h1 e
            | .inr q => b = true ∧ (∃ hd1, SrH h1 q.2 c o k hd1 f fp) ∧ CdRd h1 n (gx q.1)) := by
        intro r
        induction r with
        | zero =>
          intro s p1 hd1 acc lg1 h he hal hp1 hh1 hacc hH hC hF hr
          have hsn : s = n := by omega
          subst hsn
          have hrr := rdLs_ok (T := T) s (p + 4) (tv T 4 p : Nat) [] (acc, p1) (by omega) (fun x hx => by simp at hx) (by omega) (by rw [← hr]; rfl)
          have hokg := okLg_of hal hrr.1
          have hok : okLg lg1 s := okLg_cg (fun k hk => (hacc k hk).symm) hokg
          have c22 : h[22]? = _ := hC.g 0 rfl
          rw [← hr, rdLs, lenE]
          refine ax_iload d_Sr_readLengths_53 rfl ?_
          refine ax_iload_n d_Sr_readLengths_55 rfl ?_
          refine az_icmp_ge 77 d_Sr_readLengths_56 (by decide) (by omega) (by omega) (fun hc => ?_) (fun hc => ?_)
          · refine ax_aload_n d_Sr_readLengths_77 rfl ?_
            refine ax_cV0 d_Sr_readLengths_78 v_Cd_arrange lk_Sr_139 (by first | assumption | exact hH.g 0 rfl) (by decide) (Nat.le_of_ble_eq_true rfl) (cm_v (c_Cd_arrange hC hn hok) (fun h6 hq => ?_))
            obtain ⟨⟨vl', bl', pl', hC6, hv6, hb6, hp6⟩, hF6⟩ := hq
            have c22 : h6[22]? = _ := hC6.g 0 rfl
            refine ax_aload_n d_Sr_readLengths_81 rfl ?_
            refine ax_cV0 d_Sr_readLengths_82 v_Cd_areWhole lk_Sr_142 (by first | assumption | exact hH.g 0 rfl) (by decide) (Nat.le_of_ble_eq_true rfl) (cm_z (c_Cd_areWhole hC6 hn hok hp6) (fun b h7 hq => ?_))
            obtain ⟨rfl, rfl⟩ := hq
            have hH : SrH h7 p1 c o k hd1 f fp := hH.fr hF6 rfl
            have hFc := hF.tr (hF6.wide rfl)
            have ek := kraft_cg hacc
            refine az_if_ne 98 d_Sr_readLengths_85 (by decide) (bz_in _) (fun hcb => ?_) (fun hcb => ?_)
            · have hk := of_decide_eq_true (bz_t hcb)
              rw [ek] at hk
              refine az_iconst d_Sr_readLengths_98 ?_
              refine ax_goto 103 d_Sr_readLengths_99 (by decide) ?_
              refine ax_zret d_Sr_readLengths_103 rfl (by decide) ?_
              refine ⟨true, rfl, hFc, ⟨_, _, _, _, _, _, hC6⟩, ?_⟩
              try dsimp only
              rw [if_pos hk]
              refine ⟨rfl, ⟨hd1, hH⟩, wt, lg1, vl', bl', pl', hC6, fun x hx => ?_, fun l h1 h2 => ?_⟩
              · rw [← plc_kl_cg hacc hx]
                exact hb6 x hx
              · rw [← nlc_cg hacc]
                exact hp6 l h1 h2
            · have hk := of_decide_eq_false (bz_f hcb)
              rw [ek] at hk
              refine ax_aload_n d_Sr_readLengths_88 rfl ?_
              refine az_bipush _ d_Sr_readLengths_89 (by decide) ?_
              refine ax_iload_n d_Sr_readLengths_91 rfl ?_
              refine ax_cV2 d_Sr_readLengths_92 v_Sr_fails lk_Sr_84 (by first | assumption | exact hH.g 0 rfl) (by decide) (Nat.le_of_ble_eq_true rfl) (cm_z (c_Sr_fails hH 7 _) (fun b h9 hq => ?_))
              obtain ⟨rfl, hE, hF9⟩ := hq
              refine az_if_eq 102 d_Sr_readLengths_95 (by decide) (by first | exact bz_in _ | omega) (fun hx => ?_) (fun hx => ?_)
              · refine az_iconst d_Sr_readLengths_102 ?_
                refine ax_zret d_Sr_readLengths_103 rfl (by decide) ?_
                refine ⟨false, rfl, hFc.tr (hF9.wide rfl), ⟨_, _, _, _, _, _, hC6.fr hF9 rfl⟩, ?_⟩
                try dsimp only
                rw [if_neg hk]
                exact ⟨rfl, ⟨_, _, _, _, _, hE⟩⟩
              · exact absurd rfl hx
          · exfalso
            omega
        | succ r ih =>
          intro s p1 hd1 acc lg1 h he hal hp1 hh1 hacc hH hC hF hr
          have hR1 := hR.fr hF rfl rfl
          have c22 : h[22]? = _ := hC.g 0 rfl
          rw [rdLs] at hr
          refine ax_iload d_Sr_readLengths_53 rfl ?_
          refine ax_iload_n d_Sr_readLengths_55 rfl ?_
          refine az_icmp_ge 77 d_Sr_readLengths_56 (by decide) (by omega) (by omega) (fun hc => ?_) (fun hc => ?_)
          · exfalso
            omega
          · refine ax_aload_n d_Sr_readLengths_59 rfl ?_
            refine ax_aload_n d_Sr_readLengths_60 rfl ?_
            refine ax_iload d_Sr_readLengths_61 rfl ?_
            refine ax_cV2 d_Sr_readLengths_63 v_Sr_readLength lk_Sr_136 (by first | assumption | exact hH.g 0 rfl) (by decide) (Nat.le_of_ble_eq_true rfl) (cm_z (c_Sr_readLength hH hR1 hb hp1 hh1 hC hn (s := s) (by omega)) (fun b h6 hq => ?_))
            obtain ⟨hF6, hq⟩ := hq
            have hFc := hF.tr hF6
            cases hL : rdL1 T 24000 p1 hd1 (p1 / 8) with
            | inl e =>
              rw [hL] at hq hr
              obtain ⟨rfl, hE, hC6⟩ := hq
              refine az_if_ne 71 d_Sr_readLengths_66 (by decide) (by first | exact bz_in _ | omega) (fun hx => ?_) (fun hx => ?_)
              · exact absurd rfl hx
              · refine az_iconst d_Sr_readLengths_69 ?_
                refine ax_zret d_Sr_readLengths_70 rfl (by decide) ?_
                rw [← hr]
                exact ⟨false, rfl, hFc, ⟨_, _, _, _, _, _, hC6⟩, rfl, hE⟩
            | inr q =>
              rw [hL] at hq hr
              obtain ⟨rfl, hH6, hC6⟩ := hq
              have hq1 := rdL1_ok _ _ _ _ _ hh1 hL
              refine az_if_ne 71 d_Sr_readLengths_66 (by decide) (by first | exact bz_in _ | omega) (fun hx => ?_) (fun hx => ?_)
              · refine az_iinc d_Sr_readLengths_71 rfl (by decide) rfl ?_
                refine ax_goto 53 d_Sr_readLengths_74 (by decide) ?_
                refine ih (s + 1) q.2 q.1 (acc ++ [q.1]) _ h6 (by omega) (by simp; omega) hq1.2.2 hq1.1 (fun j hj => ?_) hH6 hC6 hFc hr
                have eg : gx (acc ++ [q.1]) j = if j = acc.length then q.1 else acc.getD j 0 := getD_snoc acc q.1 j
                rw [eg, hal]
                by_cases e : j = s
                · rw [if_pos e, e, up_at]
                · rw [if_neg e, up_ne e]
                  exact hacc j (by omega)
              · exact absurd hx (by decide)
      exact key n 0 (p + 4) (tv T 4 p : Nat) [] lg5 h5 (by omega) rfl (by omega) (by omega) (fun j hj => by omega) (hH.fr hF5 rfl) hC5 hFb rfl
    · have hno := of_decide_eq_true (bz_t hcb)
      rw [if_pos (by omega)]
      refine ax_aload_n d_Sr_readLengths_37 rfl ?_
      refine az_bipush _ d_Sr_readLengths_38 (by decide) ?_
      refine ax_iload_n d_Sr_readLengths_40 rfl ?_
      refine ax_cV2 d_Sr_readLengths_41 v_Sr_fails lk_Sr_84 (by first | assumption | exact hH.g 0 rfl) (by decide) (Nat.le_of_ble_eq_true rfl) (cm_z (c_Sr_fails hH 6 _) (fun b h9 hq => ?_))
      obtain ⟨rfl, hE, hF9⟩ := hq
      refine ax_zret d_Sr_readLengths_44 rfl (by decide) ?_
      exact ⟨false, rfl, (hFa.tr hF9).wide rfl, ⟨_, _, _, _, _, _, hCa.fr hF9 rfl⟩, rfl, ⟨_, _, _, _, _, hE⟩⟩
  · have hl0 := of_decide_eq_true (bz_t hcb)
    rw [if_pos hl0]
    refine ax_aload_n d_Sr_readLengths_13 rfl ?_
    refine ax_cV0 d_Sr_readLengths_14 v_Sr_tapeEnds lk_Sr_100 (by first | assumption | exact hH.g 0 rfl) (by decide) (Nat.le_of_ble_eq_true rfl) (cm_z (c_Sr_tapeEnds hH hR) (fun b h9 hq => ?_))
    obtain ⟨rfl, hE, hF9⟩ := hq
    refine ax_zret d_Sr_readLengths_17 rfl (by decide) ?_
    exact ⟨false, rfl, hF9.wide rfl, ⟨_, _, _, _, _, _, hC.fr hF9 rfl⟩, rfl, hE⟩
