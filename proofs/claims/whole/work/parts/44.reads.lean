/-! StreamReader: symbols, giving back, the end -/
theorem nlc0 {lg : Nat → Int} {n : Nat} (h : okLg lg n) : nlc lg n ((0 : Nat) : Int) = 0 := cnt_false (fun i hi => by have := h i hi; simp; omega)
theorem ltC1 {lg : Nat → Int} {n : Nat} (h : okLg lg n) : ltC n lg ((1 : Nat) : Int) = 0 := cnt_false (fun i hi => by have := h i hi; simp; omega)
set_option maxRecDepth 100000 in
set_option maxHeartbeats 8000000 in
theorem c_Sr_nextSymbol {h0 : ax_H} {c o k hd f fp : Int} {T : List Int} {p n : Nat} {lg : Nat → Int} (hH : SrH h0 p c o k hd f fp) (hR : Rw h0 43 44 3000 T) (hb : Bs T) (hp : p ≤ 8 * T.length) (hC : CdRd h0 n lg) (hn : n ≤ 258) (hlg : okLg lg n) :
    ax_Ci m_Sr_nextSymbol 2 [.ref 42, .ref 22] h0 (fun z h1 => Fr [42] h0 h1 ∧ match rdY T lg n 12 1 p 0 with
      | none => z = -2 ∧ ∃ p' : Nat, SrH h1 p' c o k hd f fp
      | some q => z = q.1 ∧ SrH h1 q.2 c o k hd f fp) := by
  have hlc := hR.lc
  obtain ⟨wt, lg0, vl, bl, pl, hC, hbl, hpl⟩ := hC
  refine ax_enter [some (.ref 42), some (.ref 22), none, none, none, none, none] rfl (Nat.le_of_ble_eq_true rfl) (by decide) ?_
  refine az_iconst d_Sr_nextSymbol_0 ?_
  refine ax_istore_n d_Sr_nextSymbol_1 (by decide) rfl ?_
  refine az_iconst d_Sr_nextSymbol_2 ?_
  refine ax_istore_n d_Sr_nextSymbol_3 (by decide) rfl ?_
  refine az_iconst d_Sr_nextSymbol_4 ?_
  refine ax_istore d_Sr_nextSymbol_5 (by decide) rfl ?_
  refine az_iconst d_Sr_nextSymbol_7 ?_
  refine ax_istore d_Sr_nextSymbol_8 (by decide) rfl ?_
  have key : ∀ (r l p1 v fv fpl : Nat) (h : ax_H), l + r = 13 → 1 ≤ l → p1 ≤ 8 * T.length → v < 2 ^ (l - 1) → fv = vb lg n (l - 1) + nlc lg n ((l - 1 : Nat) : Int) → fpl = ltC n lg (l : Int) → fv ≤ v → SrH h p1 c o k hd f fp → Fr [42] h0 h → rdY T lg n r l p1 v = rdY T lg n 12 1 p 0 → ∀ v6 : Option Value,
      ax_W m_Sr_nextSymbol 2 10 [some (.ref 42), some (.ref 22), some (.int (iv v)), some (.int (iv fv)), some (.int (iv fpl)), some (.int (iv l)), v6] [] h (fun r0 h1 => ∃ z : Int, r0 = some (.int (iv z)) ∧ Fr [42] h0 h1 ∧ match rdY T lg n 12 1 p 0 with
        | none => z = -2 ∧ ∃ p' : Nat, SrH h1 p' c o k hd f fp
        | some q => z = q.1 ∧ SrH h1 q.2 c o k hd f fp) := by
    intro r
    induction r with
    | zero =>
      intro l p1 v fv fpl h he hl1 hp1 hv hfv hfp hge hH hF hr v6
      refine ax_iload d_Sr_nextSymbol_10 rfl ?_
      refine az_bipush _ d_Sr_nextSymbol_12 (by decide) ?_
      refine az_icmp_gt 85 d_Sr_nextSymbol_14 (by decide) (by omega) (by omega) (fun hc => ?_) (fun hc => ?_)
      · refine az_bipush _ d_Sr_nextSymbol_85 (by decide) ?_
        refine ax_iret d_Sr_nextSymbol_87 rfl ?_
        rw [← hr, rdY]
        exact ⟨_, rfl, hF, rfl, p1, hH⟩
      · exfalso
        omega
    | succ r ih =>
      intro l p1 v fv fpl h he hl1 hp1 hv hfv hfp hge hH hF hr v6
      have hR1 := hR.fr hF rfl rfl
      have hC1 := hC.fr hF rfl
      have c22 : h[22]? = _ := hC1.g 0 rfl
      have c32 : h[32]? = _ := hC1.g 5 rfl
      have t0 := tb_lt T p1
      have hpw : 2 ^ (l - 1) ≤ 2 ^ 11 := Nat.pow_le_pow_right (by decide) (by omega)
      have hnn : nlc lg n (l : Int) ≤ n := cnt_le _ _
      have hlt : ltC n lg (l : Int) ≤ n := cnt_le _ _
      have evb : vb lg n l = 2 * fv := by
        obtain ⟨l1, rfl⟩ : ∃ x, l = x + 1 := ⟨l - 1, by omega⟩
        rw [vb, hfv]
        rfl
      have hple := hpl l hl1 (by omega)
      rw [rdY] at hr
      refine ax_iload d_Sr_nextSymbol_10 rfl ?_
      refine az_bipush _ d_Sr_nextSymbol_12 (by decide) ?_
      refine az_icmp_gt 85 d_Sr_nextSymbol_14 (by decide) (by omega) (by omega) (fun hc => ?_) (fun hc => ?_)
      · exfalso
        omega
      · refine ax_aload_n d_Sr_nextSymbol_17 rfl ?_
        refine az_iconst d_Sr_nextSymbol_18 ?_
        refine ax_cV1 d_Sr_nextSymbol_19 v_Sr_lacks lk_Sr_88 (by first | assumption | exact hH.g 0 rfl) (by decide) (Nat.le_of_ble_eq_true rfl) (cm_z (c_Sr_lacks hH hR1 (w := 1) (by omega) (by omega)) (fun b h3 hq => ?_))
        obtain ⟨rfl, rfl⟩ := hq
        refine az_if_ne 85 d_Sr_nextSymbol_22 (by decide) (bz_in _) (fun hcb => ?_) (fun hcb => ?_)
        · have hl := of_decide_eq_true (bz_t hcb)
          rw [if_pos (by omega)] at hr
          refine az_bipush _ d_Sr_nextSymbol_85 (by decide) ?_
          refine ax_iret d_Sr_nextSymbol_87 rfl ?_
          rw [← hr]
          exact ⟨_, rfl, hF, rfl, p1, hH⟩
        · have hl := of_decide_eq_false (bz_f hcb)
          rw [if_neg (by omega)] at hr
          refine ax_iload_n d_Sr_nextSymbol_25 rfl ?_
          refine az_iconst d_Sr_nextSymbol_26 ?_
          refine az_ishl d_Sr_nextSymbol_27 ?_
          refine ax_aload_n d_Sr_nextSymbol_28 rfl ?_
          refine az_iconst d_Sr_nextSymbol_29 ?_
          refine ax_cV1 d_Sr_nextSymbol_30 v_Sr_next lk_Sr_103 (by first | assumption | exact hH.g 0 rfl) (by decide) (Nat.le_of_ble_eq_true rfl) (cm_i (c_Sr_next hH hR1 hb (w := 1) (by omega) (by omega)) (fun z h4 hq => ?_))
          obtain ⟨rfl, hH4, hF4⟩ := hq
          rw [wr1]
          have hFc := hF.tr hF4
          have hC4 := hC1.fr hF4 rfl
          have c22 : h4[22]? = _ := hC4.g 0 rfl
          have c32 : h4[32]? = _ := hC4.g 5 rfl
          refine az_ior d_Sr_nextSymbol_33 ?_
          rw [z_pushS (by omega) t0]
          have ev : 2 * (v : Int) + (tb T p1 : Int) = ((2 * v + tb T p1 : Nat) : Int) := by omega
          rw [ev]
          refine ax_istore_n d_Sr_nextSymbol_34 (by decide) rfl ?_
          refine ax_iload_n d_Sr_nextSymbol_35 rfl ?_
          refine az_iconst d_Sr_nextSymbol_36 ?_
          refine az_ishl d_Sr_nextSymbol_37 ?_
          have ef : zshl (fv : Int) 1 = ((2 * fv : Nat) : Int) := by
            have := zshl_pow (v := fv) (k := 1) (by omega) (by omega)
            have e1 : ((1 : Nat) : Int) = 1 := rfl
            rw [e1] at this
            rw [this, Nat.mul_comm]
          rw [ef]
          refine ax_istore_n d_Sr_nextSymbol_38 (by decide) rfl ?_
          refine ax_aload_n d_Sr_nextSymbol_39 rfl ?_
          refine ax_get d_Sr_nextSymbol_40 fg_Sr_160 (by first | assumption | exact hH.g 0 rfl) (by rfl) ?_
          refine ax_iload d_Sr_nextSymbol_43 rfl ?_
          refine az_iald d_Sr_nextSymbol_45 (by first | assumption | exact hH.g 0 rfl) (by omega) (by omega) (by omega) ?_
          have epl : pl (((l : Nat) : Int).toNat) = nlc lg n (l : Int) := by rw [show ((l : Nat) : Int).toNat = l by omega]; exact hple
          rw [epl]
          refine ax_istore d_Sr_nextSymbol_46 (by decide) rfl ?_
          refine ax_iload_n d_Sr_nextSymbol_48 rfl ?_
          refine ax_iload_n d_Sr_nextSymbol_49 rfl ?_
          refine az_isub d_Sr_nextSymbol_50 ?_
          refine ax_iload d_Sr_nextSymbol_51 rfl ?_
          refine az_icmp_ge 67 d_Sr_nextSymbol_53 (by decide) (by omega) (by omega) (fun hcmp => ?_) (fun hcmp => ?_)
          · have hge2 : vb lg n l + nlc lg n (l : Int) ≤ 2 * v + tb T p1 := by omega
            rw [symT_none hge2] at hr
            refine ax_iload_n d_Sr_nextSymbol_67 rfl ?_
            refine ax_iload d_Sr_nextSymbol_68 rfl ?_
            refine az_iadd d_Sr_nextSymbol_70 ?_
            refine ax_istore_n d_Sr_nextSymbol_71 (by decide) rfl ?_
            refine ax_iload d_Sr_nextSymbol_72 rfl ?_
            refine ax_iload d_Sr_nextSymbol_74 rfl ?_
            refine az_iadd d_Sr_nextSymbol_76 ?_
            refine ax_istore d_Sr_nextSymbol_77 (by decide) rfl ?_
            refine az_iinc d_Sr_nextSymbol_79 rfl (by decide) rfl ?_
            refine ax_goto 10 d_Sr_nextSymbol_82 (by decide) ?_
            have e1 : ((2 * fv : Nat) : Int) + (nlc lg n (l : Int) : Int) = ((vb lg n l + nlc lg n (l : Int) : Nat) : Int) := by omega
            have e2 : (fpl : Int) + (nlc lg n (l : Int) : Int) = ((ltC n lg ((l + 1 : Nat) : Int) : Nat) : Int) := by
              have := ltC_s lg n (l : Int)
              have e3 : ((l + 1 : Nat) : Int) = (l : Int) + 1 := by omega
              rw [e3]
              omega
            rw [e1, e2]
            refine ih (l + 1) (p1 + 1) (2 * v + tb T p1) _ _ h4 (by omega) (by omega) (by omega) ?_ rfl rfl hge2 hH4 hFc hr _
            show 2 * v + tb T p1 < 2 ^ l
            obtain ⟨l1, rfl⟩ : ∃ x, l = x + 1 := ⟨l - 1, by omega⟩
            have hv2 : v < 2 ^ l1 := hv
            rw [Nat.pow_succ]
            omega
          · obtain ⟨s, hs, es, ep⟩ := symT_some (lg := lg) (n := n) (l := l) (v := 2 * v + tb T p1) (by omega) (by omega)
            rw [es] at hr
            have hpl2 := plc_lt_n (kl_ok lg n) hs
            refine ax_aload_n d_Sr_nextSymbol_56 rfl ?_
            refine ax_iload d_Sr_nextSymbol_57 rfl ?_
            refine ax_iload_n d_Sr_nextSymbol_59 rfl ?_
            refine az_iadd d_Sr_nextSymbol_60 ?_
            refine ax_iload_n d_Sr_nextSymbol_61 rfl ?_
            refine az_isub d_Sr_nextSymbol_62 ?_
            have ei : (fpl : Int) + ((2 * v + tb T p1 : Nat) : Int) - ((2 * fv : Nat) : Int) = ((plc (kl lg) n s : Nat) : Int) := by omega
            rw [ei]
            refine ax_cV1 d_Sr_nextSymbol_63 v_Cd_symbolAt lk_Sr_164 (by first | assumption | exact hH.g 0 rfl) (by decide) (Nat.le_of_ble_eq_true rfl) (cm_i (c_Cd_symbolAt hC4 hn (i := ((plc (kl lg) n s : Nat) : Int)) (by omega)) (fun z h5 hq => ?_))
            obtain ⟨rfl, rfl⟩ := hq
            rw [if_pos (by omega), show ((plc (kl lg) n s : Nat) : Int).toNat = plc (kl lg) n s by omega, hbl s hs]
            refine ax_iret d_Sr_nextSymbol_66 rfl ?_
            rw [← hr]
            exact ⟨_, rfl, hFc, rfl, hH4⟩
  refine key 12 1 p 0 0 0 h0 (by omega) (by omega) hp (by decide) ?_ (ltC1 hlg).symm (by omega) hH Fr.rf rfl none
  have := nlc0 hlg
  show 0 = 0 + nlc lg n ((0 : Nat) : Int)
  omega
theorem mtf_0 (l : List Int) : mtf l 0 = l := by
  apply ext_getD (mtf_len l 0)
  intro i hi
  rw [mtf_len] at hi
  rw [mtf, mk_at hi]
  by_cases e : i = 0
  · rw [if_pos e, e]
  · rw [if_neg e, if_neg (by omega)]
abbrev RSS : List Nat := [19, 20, 42, 45, 46]
set_option maxRecDepth 100000 in
set_option maxHeartbeats 8000000 in
theorem c_Sr_readSymbols {h0 : ax_H} {o k hd f fp : Int} {T l0 : List Int} {p c : Nat} {lg : Nat → Int} (hH : SrH h0 p c o k hd f fp) (hR : Rw h0 43 44 3000 T) (hb : Bs T) (hp : p ≤ 8 * T.length) (hc9 : c ≤ 900) (hL : Fl h0 l0) (hbl : Bs l0) (hl1 : 0 < l0.length) (hl2 : l0.length ≤ 256) (hRow : Rw h0 45 46 900 []) (hC : CdRd h0 (l0.length + 2) lg) (hlg : okLg lg (l0.length + 2)) :
    ax_Cz m_Sr_readSymbols 3 [.ref 42, .ref 22, .ref 19] h0 (fun b h1 => Fr RSS h0 h1 ∧ (∃ l', Fl h1 l') ∧ RwAny h1 45 46 900 ∧ match rdR T lg c (c + 1) p l0 1 [] with
      | .inl e => b = false ∧ SrF h1 e
      | .inr q => b = true ∧ SrH h1 q.2 c o k hd f fp ∧ Rw h1 45 46 900 q.1) := by
  have hlc := hR.lc
  have hszl := hL.sz
  refine ax_enter [some (.ref 42), some (.ref 22), some (.ref 19), none, none, none, none, none, none, none] rfl (Nat.le_of_ble_eq_true rfl) (by decide) ?_
  refine ax_aload_n d_Sr_readSymbols_0 rfl ?_
  refine ax_get d_Sr_readSymbols_1 fg_Sr_63 (by first | assumption | exact hH.g 0 rfl) (by rfl) ?_
  refine az_iconst d_Sr_readSymbols_4 ?_
  refine az_iadd d_Sr_readSymbols_5 ?_
  refine ax_istore_n d_Sr_readSymbols_6 (by decide) rfl ?_
  refine az_iconst d_Sr_readSymbols_7 ?_
  refine ax_istore d_Sr_readSymbols_8 (by decide) rfl ?_
  refine az_iconst d_Sr_readSymbols_10 ?_
  refine ax_istore d_Sr_readSymbols_11 (by decide) rfl ?_
  have key : ∀ (r i p1 : Nat) (l : List Int) (w : Nat) (acc : List Int) (h : ax_H), i + r = c + 1 → p1 ≤ 8 * T.length → l.length = l0.length → Bs l → 1 ≤ w → w ≤ acc.length + 1 → acc.length ≤ c → SrH h p1 c o k hd f fp → Fl h l → Rw h 45 46 900 acc → Fr RSS h0 h → rdR T lg c r p1 l w acc = rdR T lg c (c + 1) p l0 1 [] → ∀ v6 v7 v8 v9 : Option Value,
      ax_W m_Sr_readSymbols 3 13 [some (.ref 42), some (.ref 22), some (.ref 19), some (.int (iv ((l0.length : Int) + 1))), some (.int (iv w)), some (.int (iv i)), v6, v7, v8, v9] [] h (fun r0 h1 => ∃ b : Bool, r0 = some (.int (iv (bz b))) ∧ Fr RSS h0 h1 ∧ (∃ l', Fl h1 l') ∧ RwAny h1 45 46 900 ∧ match rdR T lg c (c + 1) p l0 1 [] with
        | .inl e => b = false ∧ SrF h1 e
        | .inr q => b = true ∧ SrH h1 q.2 c o k hd f fp ∧ Rw h1 45 46 900 q.1) := by
    intro r
    induction r with
    | zero =>
      intro i p1 l w acc h he hp1 hll hbl hw1 hw hac hH hL hRow hF hr v6 v7 v8 v9
      have hR1 := hR.fr hF rfl rfl
      refine ax_iload d_Sr_readSymbols_13 rfl ?_
      refine ax_aload_n d_Sr_readSymbols_15 rfl ?_
      refine ax_get d_Sr_readSymbols_16 fg_Sr_56 (by first | assumption | exact hH.g 0 rfl) (by rfl) ?_
      refine az_icmp_gt 191 d_Sr_readSymbols_19 (by decide) (by omega) (by omega) (fun hc => ?_) (fun hc => ?_)
      · refine ax_aload_n d_Sr_readSymbols_191 rfl ?_
        refine ax_cV0 d_Sr_readSymbols_192 v_Sr_tapeEnds lk_Sr_100 (by first | assumption | exact hH.g 0 rfl) (by decide) (Nat.le_of_ble_eq_true rfl) (cm_z (c_Sr_tapeEnds hH hR1) (fun b h9 hq => ?_))
        obtain ⟨rfl, hE, hF9⟩ := hq
        refine ax_zret d_Sr_readSymbols_195 rfl (by decide) ?_
        rw [← hr, rdR]
        exact ⟨false, rfl, hF.tr (hF9.wide rfl), ⟨_, hL.fr hF9 rfl⟩, ⟨_, hRow.fr hF9 rfl rfl⟩, rfl, hE⟩
      · exfalso
        omega
    | succ r ih =>
      intro i p1 l w acc h he hp1 hll hbl hw1 hw hac hH hL hRow hF hr v6 v7 v8 v9
      have hR1 := hR.fr hF rfl rfl
      have hC1 := hC.fr hF rfl
      rw [rdR, hll] at hr
      refine ax_iload d_Sr_readSymbols_13 rfl ?_
      refine ax_aload_n d_Sr_readSymbols_15 rfl ?_
      refine ax_get d_Sr_readSymbols_16 fg_Sr_56 (by first | assumption | exact hH.g 0 rfl) (by rfl) ?_
      refine az_icmp_gt 191 d_Sr_readSymbols_19 (by decide) (by omega) (by omega) (fun hc => ?_) (fun hc => ?_)
      · exfalso
        omega
      · refine ax_aload_n d_Sr_readSymbols_22 rfl ?_
        refine ax_cV0 d_Sr_readSymbols_23 v_Sr_byteNow lk_Sr_92 (by first | assumption | exact hH.g 0 rfl) (by decide) (Nat.le_of_ble_eq_true rfl) (cm_i (c_Sr_byteNow hH (by omega)) (fun z h2 hq => ?_))
        obtain ⟨rfl, rfl⟩ := hq
        refine ax_istore d_Sr_readSymbols_26 (by decide) rfl ?_
        refine ax_aload_n d_Sr_readSymbols_28 rfl ?_
        refine ax_aload_n d_Sr_readSymbols_29 rfl ?_
        refine ax_cV1 d_Sr_readSymbols_30 v_Sr_nextSymbol lk_Sr_149 (by first | assumption | exact hH.g 0 rfl) (by decide) (Nat.le_of_ble_eq_true rfl) (cm_i (c_Sr_nextSymbol hH hR1 hb hp1 hC1 (by omega) hlg) (fun z h3 hq => ?_))
        obtain ⟨hF3, hq⟩ := hq
        have hFc := hF.tr (hF3.wide rfl)
        have hL3 := hL.fr hF3 rfl
        have hRow3 := hRow.fr hF3 rfl rfl
        have hR3 := hR1.fr hF3 rfl rfl
        have hszr := hRow3.sz
        cases hY : rdY T lg (l0.length + 2) 12 1 p1 0 with
        | none =>
          rw [hY] at hq hr
          obtain ⟨rfl, p', hH3⟩ := hq
          have hH := hH3
          refine ax_istore d_Sr_readSymbols_33 (by decide) rfl ?_
          refine ax_iload d_Sr_readSymbols_35 rfl ?_
          refine az_if_ge 45 d_Sr_readSymbols_37 (by decide) (by first | exact bz_in _ | omega) (fun hc => ?_) (fun hc => ?_)
          · exfalso
            omega
          · refine ax_aload_n d_Sr_readSymbols_40 rfl ?_
            refine ax_cV0 d_Sr_readSymbols_41 v_Sr_tapeEnds lk_Sr_100 (by first | assumption | exact hH.g 0 rfl) (by decide) (Nat.le_of_ble_eq_true rfl) (cm_z (c_Sr_tapeEnds hH hR3) (fun b h9 hq => ?_))
            obtain ⟨rfl, hE, hF9⟩ := hq
            refine ax_zret d_Sr_readSymbols_44 rfl (by decide) ?_
            rw [← hr]
            exact ⟨false, rfl, hFc.tr (hF9.wide rfl), ⟨_, hL3.fr hF9 rfl⟩, ⟨_, hRow3.fr hF9 rfl rfl⟩, rfl, hE⟩
        | some q =>
          rw [hY] at hq hr
          obtain ⟨rfl, hH3⟩ := hq
          obtain ⟨s, p2⟩ := q
          have hH : SrH h3 p2 c o k hd f fp := hH3
          have hy := rdY_ok _ _ _ _ _ hY
          have hy : s < l0.length + 2 ∧ p1 < p2 ∧ p2 ≤ 8 * T.length := hy
          have hm := manyS_b s w hw1
          have hr : (if s = l0.length + 1 then (if acc.length = c then (.inr (acc, p2) : Sum RF (List Int × Nat)) else .inl (8, (p1 / 8 : Nat))) else
            if c < acc.length + manyS s w then .inl (8, (p1 / 8 : Nat)) else rdR T lg c r p2 (if s < 2 then l else mtf l (s - 1)) (if s < 2 then 2 * w else 1) (acc ++ List.replicate (manyS s w) (gx l (if s < 2 then 0 else s - 1)))) = rdR T lg c (c + 1) p l0 1 [] := hr
          refine ax_istore d_Sr_readSymbols_33 (by decide) rfl ?_
          refine ax_iload d_Sr_readSymbols_35 rfl ?_
          refine az_if_ge 45 d_Sr_readSymbols_37 (by decide) (by first | exact bz_in _ | omega) (fun hc => ?_) (fun hc => ?_)
          · show ax_W m_Sr_readSymbols 3 _ _ _ h3 _
            refine ax_iload d_Sr_readSymbols_45 rfl ?_
            refine ax_iload_n d_Sr_readSymbols_47 rfl ?_
            refine az_icmp_ne 82 d_Sr_readSymbols_48 (by decide) (by omega) (by omega) (fun hend => ?_) (fun hend => ?_)
            · -- no END
              rw [if_neg (show ¬ s = l0.length + 1 by intro q; apply hend; show (s : Int) = _; omega)] at hr
              -- from 113 on
              have tail : ∀ (dg : Int), dg = (if s < 2 then 1 else 0) → ax_W m_Sr_readSymbols 3 113 [some (.ref 42), some (.ref 22), some (.ref 19), some (.int (iv ((l0.length : Int) + 1))), some (.int (iv w)), some (.int (iv i)), some (.int (iv ((p1 / 8 : Nat) : Int))), some (.int (iv s)), some (.int (iv dg)), some (.int (iv (manyS s w : Nat)))] [] h3 (fun r0 h1 => ∃ b : Bool, r0 = some (.int (iv (bz b))) ∧ Fr RSS h0 h1 ∧ (∃ l', Fl h1 l') ∧ RwAny h1 45 46 900 ∧ match rdR T lg c (c + 1) p l0 1 [] with
                  | .inl e => b = false ∧ SrF h1 e
                  | .inr q => b = true ∧ SrH h1 q.2 c o k hd f fp ∧ Rw h1 45 46 900 q.1) := by
                intro dg hdg
                refine ax_iload d_Sr_readSymbols_113 rfl ?_
                refine ax_aload_n d_Sr_readSymbols_115 rfl ?_
                refine ax_get d_Sr_readSymbols_116 fg_Sr_56 (by first | assumption | exact hH.g 0 rfl) (by rfl) ?_
                refine ax_aload_n d_Sr_readSymbols_119 rfl ?_
                refine ax_get d_Sr_readSymbols_120 fg_Sr_20 (by first | assumption | exact hH.g 0 rfl) (by rfl) ?_
                refine ax_get d_Sr_readSymbols_123 fg_Sr_83 (by first | assumption | exact hH.g 0 rfl) (by rfl) ?_
                refine az_isub d_Sr_readSymbols_126 ?_
                refine az_icmp_le 139 d_Sr_readSymbols_127 (by decide) (by omega) (by omega) (fun hmany => ?_) (fun hmany => ?_)
                · rw [if_neg (by omega)] at hr
                  -- from 168 on: the place to bring to front
                  have fin : ∀ (pl w' : Nat), pl < l.length → mtf l pl = (if s < 2 then l else mtf l (s - 1)) → gx l pl = gx l (if s < 2 then 0 else s - 1) → w' = (if s < 2 then 2 * w else 1) → ax_W m_Sr_readSymbols 3 168 [some (.ref 42), some (.ref 22), some (.ref 19), some (.int (iv ((l0.length : Int) + 1))), some (.int (iv w')), some (.int (iv i)), some (.int (iv ((p1 / 8 : Nat) : Int))), some (.int (iv s)), some (.int (iv dg)), some (.int (iv (manyS s w : Nat)))] [.int (iv pl), .ref 19] h3 (fun r0 h1 => ∃ b : Bool, r0 = some (.int (iv (bz b))) ∧ Fr RSS h0 h1 ∧ (∃ l', Fl h1 l') ∧ RwAny h1 45 46 900 ∧ match rdR T lg c (c + 1) p l0 1 [] with
                      | .inl e => b = false ∧ SrF h1 e
                      | .inr q => b = true ∧ SrH h1 q.2 c o k hd f fp ∧ Rw h1 45 46 900 q.1) := by
                    intro pl w' hpl em eg ew
                    have hszl3 := hL3.sz
                    refine ax_cV1 d_Sr_readSymbols_168 v_Fl_bringToFront lk_Sr_153 (by first | assumption | exact hH.g 0 rfl) (by decide) (Nat.le_of_ble_eq_true rfl) (cm_v (c_Fl_bringToFront hL3 hpl) (fun h4 hq => ?_))
                    obtain ⟨hL4, hF4⟩ := hq
                    have hH4 : SrH h4 p2 c o k hd f fp := hH.fr hF4 rfl
                    have hH := hH4
                    have hRow4 := hRow3.fr hF4 rfl rfl
                    have hszr := hRow4.sz
                    have hszl4 := hL4.sz
                    refine ax_aload_n d_Sr_readSymbols_171 rfl ?_
                    refine ax_get d_Sr_readSymbols_172 fg_Sr_20 (by first | assumption | exact hH.g 0 rfl) (by rfl) ?_
                    refine ax_iload d_Sr_readSymbols_175 rfl ?_
                    refine ax_aload_n d_Sr_readSymbols_177 rfl ?_
                    refine az_iconst d_Sr_readSymbols_178 ?_
                    refine ax_cV1 d_Sr_readSymbols_179 v_Fl_at lk_Sr_156 (by first | assumption | exact hH.g 0 rfl) (by decide) (Nat.le_of_ble_eq_true rfl) (cm_i (c_Fl_at hL4 (i := 0) (by omega)) (fun z h5 hq => ?_))
                    obtain ⟨rfl, rfl⟩ := hq
                    have e0 : rAt (mtf l pl) 0 = gx l pl := by
                      rw [rAt, if_pos (by rw [mtf_len]; omega)]
                      show (mtf l pl).getD 0 0 = _
                      rw [mtf, mk_at (by omega), if_pos rfl]
                    rw [e0]
                    refine ax_cV2 d_Sr_readSymbols_182 v_Rw_addMany lk_Sr_157 (by first | assumption | exact hH.g 0 rfl) (by decide) (Nat.le_of_ble_eq_true rfl) (cm_v (c_Rw_addMany hRow4 (gx l pl) (n := (manyS s w : Nat)) (by omega)) (fun h6 hq => ?_))
                    obtain ⟨hRow6, hF6⟩ := hq
                    rw [raddN_eq _ _ (by rw [show ((manyS s w : Nat) : Int).toNat = manyS s w by omega]; omega), show ((manyS s w : Nat) : Int).toNat = manyS s w by omega, eg] at hRow6
                    rw [em] at hL4
                    have hbl' : Bs (if s < 2 then l else mtf l (s - 1)) := by rw [← em]; exact Bs_mtf hpl hbl
                    have hll' : (if s < 2 then l else mtf l (s - 1)).length = l0.length := by rw [← em, mtf_len]; exact hll
                    refine az_iinc d_Sr_readSymbols_185 rfl (by decide) rfl ?_
                    refine ax_goto 13 d_Sr_readSymbols_188 (by decide) ?_
                    refine ih (i + 1) p2 _ w' _ h6 (by omega) (by omega) hll' hbl' ?_ ?_ ?_ (hH.fr hF6 rfl) (hL4.fr hF6 rfl) hRow6 ((hFc.tr (hF4.wide rfl)).tr (hF6.wide rfl)) (by rw [ew]; exact hr) _ _ _ _
                    · rw [ew]; split <;> omega
                    · rw [ew, List.length_append, List.length_replicate]
                      split
                      · have := hm.2.2 (by omega); omega
                      · omega
                    · rw [List.length_append, List.length_replicate]; omega
                  by_cases h2 : s < 2
                  · rw [if_pos h2] at hdg
                    subst hdg
                    refine ax_iload d_Sr_readSymbols_139 rfl ?_
                    refine az_if_eq 151 d_Sr_readSymbols_141 (by decide) (by first | exact bz_in _ | omega) (fun hx => ?_) (fun hx => ?_)
                    · exfalso
                      omega
                    · refine az_iconst d_Sr_readSymbols_144 ?_
                      refine ax_iload d_Sr_readSymbols_145 rfl ?_
                      refine az_imul d_Sr_readSymbols_147 ?_
                      refine ax_goto 152 d_Sr_readSymbols_148 (by decide) ?_
                      refine ax_istore d_Sr_readSymbols_152 (by decide) rfl ?_
                      refine ax_aload_n d_Sr_readSymbols_154 rfl ?_
                      refine ax_iload d_Sr_readSymbols_155 rfl ?_
                      refine az_if_eq 164 d_Sr_readSymbols_157 (by decide) (by first | exact bz_in _ | omega) (fun hx2 => ?_) (fun hx2 => ?_)
                      · exfalso
                        omega
                      · refine az_iconst d_Sr_readSymbols_160 ?_
                        refine ax_goto 168 d_Sr_readSymbols_161 (by decide) ?_
                        have e2 : (2 : Int) * (w : Int) = ((2 * w : Nat) : Int) := by omega
                        rw [e2]
                        exact fin 0 (2 * w) (by omega) (by rw [mtf_0, if_pos h2]) (by rw [if_pos h2]) (by rw [if_pos h2])
                  · rw [if_neg h2] at hdg
                    subst hdg
                    refine ax_iload d_Sr_readSymbols_139 rfl ?_
                    refine az_if_eq 151 d_Sr_readSymbols_141 (by decide) (by first | exact bz_in _ | omega) (fun hx => ?_) (fun hx => ?_)
                    · refine az_iconst d_Sr_readSymbols_151 ?_
                      refine ax_istore d_Sr_readSymbols_152 (by decide) rfl ?_
                      refine ax_aload_n d_Sr_readSymbols_154 rfl ?_
                      refine ax_iload d_Sr_readSymbols_155 rfl ?_
                      refine az_if_eq 164 d_Sr_readSymbols_157 (by decide) (by first | exact bz_in _ | omega) (fun hx2 => ?_) (fun hx2 => ?_)
                      · refine ax_iload d_Sr_readSymbols_164 rfl ?_
                        refine az_iconst d_Sr_readSymbols_166 ?_
                        refine az_isub d_Sr_readSymbols_167 ?_
                        have e2 : (s : Int) - 1 = ((s - 1 : Nat) : Int) := by omega
                        rw [e2]
                        have hs1 : ¬ s = l0.length + 1 := by intro q; apply hend; show (s : Int) = _; omega
                        exact fin (s - 1) 1 (by omega) (by rw [if_neg h2]) (by rw [if_neg h2]) (by rw [if_neg h2])
                      · exfalso
                        omega
                    · exfalso
                      omega
                · rw [if_pos (by omega)] at hr
                  refine ax_aload_n d_Sr_readSymbols_130 rfl ?_
                  refine az_bipush _ d_Sr_readSymbols_131 (by decide) ?_
                  refine ax_iload d_Sr_readSymbols_133 rfl ?_
                  refine ax_cV2 d_Sr_readSymbols_135 v_Sr_fails lk_Sr_84 (by first | assumption | exact hH.g 0 rfl) (by decide) (Nat.le_of_ble_eq_true rfl) (cm_z (c_Sr_fails hH 8 _) (fun b h9 hq => ?_))
                  obtain ⟨rfl, hE, hF9⟩ := hq
                  refine ax_zret d_Sr_readSymbols_138 rfl (by decide) ?_
                  rw [← hr]
                  exact ⟨false, rfl, hFc.tr (hF9.wide rfl), ⟨_, hL3.fr hF9 rfl⟩, ⟨_, hRow3.fr hF9 rfl rfl⟩, rfl, ⟨_, _, _, _, _, hE⟩⟩
              show ax_W m_Sr_readSymbols 3 _ _ _ h3 _
              refine ax_iload d_Sr_readSymbols_82 rfl ?_
              refine az_iconst d_Sr_readSymbols_84 ?_
              refine az_icmp_ge 92 d_Sr_readSymbols_85 (by decide) (by omega) (by omega) (fun hd2 => ?_) (fun hd2 => ?_)
              · have h2 : ¬ s < 2 := by have : (2 : Int) ≤ (s : Int) := hd2; omega
                refine az_iconst d_Sr_readSymbols_92 ?_
                refine ax_istore d_Sr_readSymbols_93 (by decide) rfl ?_
                refine ax_iload d_Sr_readSymbols_95 rfl ?_
                refine az_if_eq 110 d_Sr_readSymbols_97 (by decide) (by first | exact bz_in _ | omega) (fun hx => ?_) (fun hx => ?_)
                · refine az_iconst d_Sr_readSymbols_110 ?_
                  refine ax_istore d_Sr_readSymbols_111 (by decide) rfl ?_
                  have em : (1 : Int) = ((manyS s w : Nat) : Int) := by rw [manyS, if_neg h2]; rfl
                  have ht := tail 0 (by rw [if_neg h2])
                  rw [← em] at ht
                  exact ht
                · exfalso
                  omega
              · have h2 : s < 2 := by have : (s : Int) < 2 := hd2; omega
                refine az_iconst d_Sr_readSymbols_88 ?_
                refine ax_goto 93 d_Sr_readSymbols_89 (by decide) ?_
                refine ax_istore d_Sr_readSymbols_93 (by decide) rfl ?_
                refine ax_iload d_Sr_readSymbols_95 rfl ?_
                refine az_if_eq 110 d_Sr_readSymbols_97 (by decide) (by first | exact bz_in _ | omega) (fun hx => ?_) (fun hx => ?_)
                · exfalso
                  omega
                · refine ax_iload d_Sr_readSymbols_100 rfl ?_
                  refine az_iconst d_Sr_readSymbols_102 ?_
                  refine az_iadd d_Sr_readSymbols_103 ?_
                  refine ax_iload d_Sr_readSymbols_104 rfl ?_
                  refine az_imul d_Sr_readSymbols_106 ?_
                  refine ax_goto 111 d_Sr_readSymbols_107 (by decide) ?_
                  refine ax_istore d_Sr_readSymbols_111 (by decide) rfl ?_
                  have em : ((s : Int) + 1) * (w : Int) = ((manyS s w : Nat) : Int) := by
                    rw [manyS, if_pos h2, Int.natCast_mul]
                    rfl
                  have em' : (((s, p2).1 : Nat) : Int) = (s : Int) := rfl
                  rw [em', em]
                  exact tail 1 (by rw [if_pos h2])
            · have hse : s = l0.length + 1 := by have : (s : Int) = (l0.length : Int) + 1 := hend; omega
              rw [if_pos hse] at hr
              refine ax_aload_n d_Sr_readSymbols_51 rfl ?_
              refine ax_get d_Sr_readSymbols_52 fg_Sr_20 (by first | assumption | exact hH.g 0 rfl) (by rfl) ?_
              refine ax_get d_Sr_readSymbols_55 fg_Sr_83 (by first | assumption | exact hH.g 0 rfl) (by rfl) ?_
              refine ax_aload_n d_Sr_readSymbols_58 rfl ?_
              refine ax_get d_Sr_readSymbols_59 fg_Sr_56 (by first | assumption | exact hH.g 0 rfl) (by rfl) ?_
              refine az_icmp_eq 76 d_Sr_readSymbols_62 (by decide) (by omega) (by omega) (fun hsz => ?_) (fun hsz => ?_)
              · rw [if_pos (by omega)] at hr
                refine az_iconst d_Sr_readSymbols_76 ?_
                refine ax_goto 81 d_Sr_readSymbols_77 (by decide) ?_
                refine ax_zret d_Sr_readSymbols_81 rfl (by decide) ?_
                rw [← hr]
                exact ⟨true, rfl, hFc, ⟨_, hL3⟩, ⟨_, hRow3⟩, rfl, hH, hRow3⟩
              · rw [if_neg (by omega)] at hr
                refine ax_aload_n d_Sr_readSymbols_65 rfl ?_
                refine az_bipush _ d_Sr_readSymbols_66 (by decide) ?_
                refine ax_iload d_Sr_readSymbols_68 rfl ?_
                refine ax_cV2 d_Sr_readSymbols_70 v_Sr_fails lk_Sr_84 (by first | assumption | exact hH.g 0 rfl) (by decide) (Nat.le_of_ble_eq_true rfl) (cm_z (c_Sr_fails hH 8 _) (fun b h9 hq => ?_))
                obtain ⟨rfl, hE, hF9⟩ := hq
                refine az_if_eq 80 d_Sr_readSymbols_73 (by decide) (by first | exact bz_in _ | omega) (fun hx => ?_) (fun hx => ?_)
                · refine az_iconst d_Sr_readSymbols_80 ?_
                  refine ax_zret d_Sr_readSymbols_81 rfl (by decide) ?_
                  rw [← hr]
                  exact ⟨false, rfl, hFc.tr (hF9.wide rfl), ⟨_, hL3.fr hF9 rfl⟩, ⟨_, hRow3.fr hF9 rfl rfl⟩, rfl, ⟨_, _, _, _, _, hE⟩⟩
                · exact absurd rfl hx
          · exfalso
            omega
  exact key (c + 1) 0 p l0 1 [] h0 (by omega) hp rfl hbl (by omega) (by simp) (by simp) hH hL hRow Fr.rf rfl none none none none

theorem upS_ok : ∀ (ys : List Int) (pv : Int) (al : Nat) (acc u : List Int), Bs ys → (0 ≤ pv ∧ pv < 256) → Bs acc → acc.length ≤ 600 → upS ys pv al acc = some u → Bs u ∧ u.length ≤ 600
  | [], _, _, acc, u, _, _, ha, hl, h => by
    cases h
    exact ⟨ha, hl⟩
  | b :: t, pv, al, acc, u, hy, hp, ha, hl, h => by
    have hb : 0 ≤ b ∧ b < 256 := hy 0 (by simp)
    have ht : Bs t := fun i hi => hy (i + 1) (by simp; omega)
    rw [upS] at h
    split at h
    · split at h
      · exact upS_ok t b 0 _ u ht hb (Bs_rep ha hp _) (by rw [List.length_append, List.length_replicate]; omega) h
      · cases h
    · split at h
      · exact upS_ok t b _ _ u ht hb (Bs_snoc ha hb) (by simp; omega) h
      · cases h
theorem upT_ok {ys u : List Int} (hy : Bs ys) (h : upT ys = some u) : Bs u ∧ u.length ≤ 600 := by
  unfold upT at h
  split at h
  · cases h
  · rename_i v hv
    split at h
    · cases h
      exact upS_ok ys 0 0 [] _ hy (by omega) Bs_nil (by simp) hv
    · cases h
abbrev GBS : List Nat := [7, 8, 9, 10, 11, 12, 13, 14, 15, 16, 17, 33, 34, 35, 36, 37, 38, 42]
set_option maxRecDepth 100000 in
set_option maxHeartbeats 8000000 in
theorem c_Sr_isGivenBack {h0 : ax_H} {p c k hd f fp : Int} {o : Nat} {row : List Int} (hH : SrH h0 p c o k hd f fp) (hk : -2147483648 ≤ k ∧ k < 2147483648) (hB : BnO h0) (hT : TuAny h0) (hLs : RwAny h0 8 9 900) (hCh : ChAny h0) (hG : RwAny h0 33 34 900) (hU : RwAny h0 35 36 600) (hA : RwAny h0 37 38 750) (hRow : Rw h0 45 46 900 row) (hbr : Bs row) (ho : o < row.length ∨ (o = 0 ∧ row.length = 0)) :
    ax_Cz m_Sr_isGivenBack 4 [.ref 42, .ref 6] h0 (fun b h1 => Fr GBS h0 h1 ∧ TuAny h1 ∧ RwAny h1 8 9 900 ∧ ChAny h1 ∧ RwAny h1 33 34 900 ∧ RwAny h1 37 38 750 ∧ RwAny h1 35 36 600 ∧ if rightB row o = false then b = false ∧ SrF h1 (9, 4) else match upT (gbT row o) with
      | none => b = false ∧ SrF h1 (10, 2)
      | some u => if crc u ≠ k then b = false ∧ SrF h1 (11, 6) else b = true ∧ SrH h1 p c o k hd f fp ∧ Rw h1 35 36 600 u) := by
  have hB' : h0[6]? = some (ob 1 [.ref 7, .ref 15, .ref 18, .ref 22, .ref 33, .ref 35, .ref 37]) := hB
  have hro := hRow.lc
  refine ax_enter [some (.ref 42), some (.ref 6)] rfl (Nat.le_of_ble_eq_true rfl) (by decide) ?_
  refine ax_aload_n d_Sr_isGivenBack_0 rfl ?_
  refine ax_aload_n d_Sr_isGivenBack_1 rfl ?_
  refine ax_get d_Sr_isGivenBack_2 fg_Sr_20 (by first | assumption | exact hH.g 0 rfl) (by rfl) ?_
  refine ax_aload_n d_Sr_isGivenBack_5 rfl ?_
  refine ax_get d_Sr_isGivenBack_6 fg_Sr_106 (by first | assumption | exact hH.g 0 rfl) (by rfl) ?_
  refine ax_cV2 d_Sr_isGivenBack_9 v_Bn_goBack lk_Sr_167 (by first | assumption | exact hH.g 0 rfl) (by decide) (Nat.le_of_ble_eq_true rfl) (cm_z (c_Bn_goBack hB hT hLs hCh hG hRow hbr hro ho rfl rfl) (fun b h1 hq => ?_))
  obtain ⟨rfl, hG1, hT1, hLs1, hCh1, hF1⟩ := hq
  have hH : SrH h1 p c o k hd f fp := hH.fr hF1 rfl
  have hB1 : h1[6]? = some (ob 1 [.ref 7, .ref 15, .ref 18, .ref 22, .ref 33, .ref 35, .ref 37]) := hB.fr hF1 rfl
  have hU1 := hU.fr hF1 rfl rfl
  have hA1 := hA.fr hF1 rfl rfl
  refine az_if_ne 23 d_Sr_isGivenBack_12 (by decide) (bz_in _) (fun hcb => ?_) (fun hcb => ?_)
  · have hr := bz_t hcb
    refine ax_aload_n d_Sr_isGivenBack_23 rfl ?_
    refine ax_cV0 d_Sr_isGivenBack_24 v_Bn_unpackGiven lk_Sr_171 (by first | assumption | exact hH.g 0 rfl) (by decide) (Nat.le_of_ble_eq_true rfl) (cm_z (c_Bn_unpackGiven hB1 hU1 hA1 hG1 (Bs_gbT hbr ho)) (fun b h2 hq => ?_))
    obtain ⟨⟨u, hU2, hbu, hb1⟩, hb2, hA2, hF2⟩ := hq
    have hH : SrH h2 p c o k hd f fp := hH.fr hF2 rfl
    have hB2 : h2[6]? = some (ob 1 [.ref 7, .ref 15, .ref 18, .ref 22, .ref 33, .ref 35, .ref 37]) := BnO.fr hB1 hF2 rfl
    have hFa : Fr GBS h0 h2 := (hF1.wide rfl).tr (hF2.wide rfl)
    have hT2 := hT1.fr hF2 rfl
    have hLs2 := hLs1.fr hF2 rfl rfl
    have hCh2 := hCh1.fr hF2 rfl
    have hG2 := hG1.fr hF2 rfl rfl
    refine az_if_ne 38 d_Sr_isGivenBack_27 (by decide) (bz_in _) (fun hcb => ?_) (fun hcb => ?_)
    · have hu := hb1 (bz_t hcb)
      have hcr := crc_in u
      refine ax_aload_n d_Sr_isGivenBack_38 rfl ?_
      refine ax_get d_Sr_isGivenBack_39 fg_Sr_174 (by first | assumption | exact hH.g 0 rfl) (by rfl) ?_
      refine ax_cS1 d_Sr_isGivenBack_42 s_S_checkOf lk_Sr_177 (by decide) (Nat.le_of_ble_eq_true rfl) (cm_i (c_S_checkOf hU2) (fun z h3 hq => ?_))
      obtain ⟨rfl, rfl⟩ := hq
      refine ax_aload_n d_Sr_isGivenBack_45 rfl ?_
      refine ax_get d_Sr_isGivenBack_46 fg_Sr_109 (by first | assumption | exact hH.g 0 rfl) (by rfl) ?_
      refine az_icmp_eq 63 d_Sr_isGivenBack_49 (by decide) (by omega) (by omega) (fun hck => ?_) (fun hck => ?_)
      · refine az_iconst d_Sr_isGivenBack_63 ?_
        refine ax_goto 68 d_Sr_isGivenBack_64 (by decide) ?_
        refine ax_zret d_Sr_isGivenBack_68 rfl (by decide) ?_
        refine ⟨true, rfl, hFa, hT2, hLs2, hCh2, ⟨_, hG2⟩, hA2, ⟨_, hU2⟩, ?_⟩
        rw [if_neg (by rw [hr]; decide), hu]
        try dsimp only
        rw [if_neg (fun q => q hck)]
        exact ⟨rfl, hH, hU2⟩
      · refine ax_aload_n d_Sr_isGivenBack_52 rfl ?_
        refine az_bipush _ d_Sr_isGivenBack_53 (by decide) ?_
        refine az_bipush _ d_Sr_isGivenBack_55 (by decide) ?_
        refine ax_cV2 d_Sr_isGivenBack_57 v_Sr_fails lk_Sr_84 (by first | assumption | exact hH.g 0 rfl) (by decide) (Nat.le_of_ble_eq_true rfl) (cm_z (c_Sr_fails hH 11 6) (fun b h9 hq => ?_))
        obtain ⟨rfl, hE, hF9⟩ := hq
        refine az_if_eq 67 d_Sr_isGivenBack_60 (by decide) (by first | exact bz_in _ | omega) (fun hx => ?_) (fun hx => ?_)
        · refine az_iconst d_Sr_isGivenBack_67 ?_
          refine ax_zret d_Sr_isGivenBack_68 rfl (by decide) ?_
          refine ⟨false, rfl, hFa.tr (hF9.wide rfl), hT2.fr hF9 rfl, hLs2.fr hF9 rfl rfl, hCh2.fr hF9 rfl, ⟨_, hG2.fr hF9 rfl rfl⟩, hA2.fr hF9 rfl rfl, ⟨_, hU2.fr hF9 rfl rfl⟩, ?_⟩
          rw [if_neg (by rw [hr]; decide), hu]
          try dsimp only
          rw [if_pos hck]
          exact ⟨rfl, ⟨_, _, _, _, _, hE⟩⟩
        · exact absurd rfl hx
    · have hu := hb2 (bz_f hcb)
      refine ax_aload_n d_Sr_isGivenBack_30 rfl ?_
      refine az_bipush _ d_Sr_isGivenBack_31 (by decide) ?_
      refine az_iconst d_Sr_isGivenBack_33 ?_
      refine ax_cV2 d_Sr_isGivenBack_34 v_Sr_fails lk_Sr_84 (by first | assumption | exact hH.g 0 rfl) (by decide) (Nat.le_of_ble_eq_true rfl) (cm_z (c_Sr_fails hH 10 2) (fun b h9 hq => ?_))
      obtain ⟨rfl, hE, hF9⟩ := hq
      refine ax_zret d_Sr_isGivenBack_37 rfl (by decide) ?_
      refine ⟨false, rfl, hFa.tr (hF9.wide rfl), hT2.fr hF9 rfl, hLs2.fr hF9 rfl rfl, hCh2.fr hF9 rfl, ⟨_, hG2.fr hF9 rfl rfl⟩, hA2.fr hF9 rfl rfl, ⟨_, hU2.fr hF9 rfl rfl⟩, ?_⟩
      rw [if_neg (by rw [hr]; decide), hu]
      exact ⟨rfl, ⟨_, _, _, _, _, hE⟩⟩
  · have hr := bz_f hcb
    refine ax_aload_n d_Sr_isGivenBack_15 rfl ?_
    refine az_bipush _ d_Sr_isGivenBack_16 (by decide) ?_
    refine az_iconst d_Sr_isGivenBack_18 ?_
    refine ax_cV2 d_Sr_isGivenBack_19 v_Sr_fails lk_Sr_84 (by first | assumption | exact hH.g 0 rfl) (by decide) (Nat.le_of_ble_eq_true rfl) (cm_z (c_Sr_fails hH 9 4) (fun b h9 hq => ?_))
    obtain ⟨rfl, hE, hF9⟩ := hq
    refine ax_zret d_Sr_isGivenBack_22 rfl (by decide) ?_
    refine ⟨false, rfl, (hF1.wide rfl).tr (hF9.wide rfl), hT1.fr hF9 rfl, hLs1.fr hF9 rfl rfl, hCh1.fr hF9 rfl, ⟨_, hG1.fr hF9 rfl rfl⟩, hA1.fr hF9 rfl rfl, hU1.fr hF9 rfl rfl, ?_⟩
    rw [if_pos hr]
    exact ⟨rfl, ⟨_, _, _, _, _, hE⟩⟩
set_option maxRecDepth 100000 in
set_option maxHeartbeats 8000000 in
theorem c_Sr_isAtEnd {h0 : ax_H} {c o k hd f fp : Int} {T : List Int} {p : Nat} (hH : SrH h0 p c o k hd f fp) (hR : Rw h0 43 44 3000 T) (hb : Bs T) (hp : p ≤ 8 * T.length) :
    ax_Cz m_Sr_isAtEnd 2 [.ref 42] h0 (fun b h1 => Fr [42] h0 h1 ∧ if tv T (fillN p) p ≠ 0 then b = false ∧ SrF h1 (12, (p / 8 : Nat)) else if (p + fillN p) / 8 = T.length then b = true ∧ ∃ p' : Int, SrH h1 p' c o k hd f fp else b = false ∧ SrF h1 (12, ((p + fillN p) / 8 : Nat))) := by
  have hlc := hR.lc
  have hf8 : fillN p < 8 := by unfold fillN; omega
  have hfp : p + fillN p ≤ 8 * T.length := by unfold fillN; omega
  refine ax_enter [some (.ref 42), none, none] rfl (Nat.le_of_ble_eq_true rfl) (by decide) ?_
  refine ax_aload_n d_Sr_isAtEnd_0 rfl ?_
  refine ax_cV0 d_Sr_isAtEnd_1 v_Sr_byteNow lk_Sr_92 (by first | assumption | exact hH.g 0 rfl) (by decide) (Nat.le_of_ble_eq_true rfl) (cm_i (c_Sr_byteNow hH (by omega)) (fun z h2 hq => ?_))
  obtain ⟨rfl, rfl⟩ := hq
  refine ax_istore_n d_Sr_isAtEnd_4 (by decide) rfl ?_
  refine az_bipush _ d_Sr_isAtEnd_5 (by decide) ?_
  refine ax_aload_n d_Sr_isAtEnd_7 rfl ?_
  refine ax_get d_Sr_isAtEnd_8 fg_Sr_27 (by first | assumption | exact hH.g 0 rfl) (by rfl) ?_
  refine az_bipush _ d_Sr_isAtEnd_11 (by decide) ?_
  refine az_irem d_Sr_isAtEnd_13 (by omega) (by omega) ?_
  refine az_isub d_Sr_isAtEnd_14 ?_
  refine az_bipush _ d_Sr_isAtEnd_15 (by decide) ?_
  refine az_irem d_Sr_isAtEnd_17 (by omega) (by omega) ?_
  refine ax_istore_n d_Sr_isAtEnd_18 (by decide) rfl ?_
  have e : ((8 : Int) - (p : Int) % 8) % 8 = ((fillN p : Nat) : Int) := by unfold fillN; omega
  rw [e]
  refine ax_aload_n d_Sr_isAtEnd_19 rfl ?_
  refine ax_iload_n d_Sr_isAtEnd_20 rfl ?_
  refine ax_cV1 d_Sr_isAtEnd_21 v_Sr_next lk_Sr_103 (by first | assumption | exact hH.g 0 rfl) (by decide) (Nat.le_of_ble_eq_true rfl) (cm_i (c_Sr_next hH hR hb (w := fillN p) hfp (by omega)) (fun z h3 hq => ?_))
  obtain ⟨rfl, hH3, hF3⟩ := hq
  have t0 := tv_lt T (fillN p) p
  have t1 : 2 ^ fillN p ≤ 2 ^ 7 := Nat.pow_le_pow_right (by decide) (by omega)
  rw [wr_id (by omega)]
  have hH := hH3
  have hR3 := hR.fr hF3 rfl rfl
  have hsz := hR3.sz
  refine az_if_eq 35 d_Sr_isAtEnd_24 (by decide) (by first | exact bz_in _ | omega) (fun hz => ?_) (fun hz => ?_)
  · refine ax_aload_n d_Sr_isAtEnd_35 rfl ?_
    refine ax_cV0 d_Sr_isAtEnd_36 v_Sr_byteNow lk_Sr_92 (by first | assumption | exact hH.g 0 rfl) (by decide) (Nat.le_of_ble_eq_true rfl) (cm_i (c_Sr_byteNow hH (by omega)) (fun z h4 hq => ?_))
    obtain ⟨rfl, rfl⟩ := hq
    refine ax_aload_n d_Sr_isAtEnd_39 rfl ?_
    refine ax_get d_Sr_isAtEnd_40 fg_Sr_14 (by first | assumption | exact hH.g 0 rfl) (by rfl) ?_
    refine ax_get d_Sr_isAtEnd_43 fg_Sr_83 (by first | assumption | exact hH.g 0 rfl) (by rfl) ?_
    refine az_icmp_eq 62 d_Sr_isAtEnd_46 (by decide) (by omega) (by omega) (fun he => ?_) (fun he => ?_)
    · refine az_iconst d_Sr_isAtEnd_62 ?_
      refine ax_goto 67 d_Sr_isAtEnd_63 (by decide) ?_
      refine ax_zret d_Sr_isAtEnd_67 rfl (by decide) ?_
      refine ⟨true, rfl, hF3, ?_⟩
      rw [if_neg (by omega), if_pos (by omega)]
      exact ⟨rfl, _, hH⟩
    · refine ax_aload_n d_Sr_isAtEnd_49 rfl ?_
      refine az_bipush _ d_Sr_isAtEnd_50 (by decide) ?_
      refine ax_aload_n d_Sr_isAtEnd_52 rfl ?_
      refine ax_cV0 d_Sr_isAtEnd_53 v_Sr_byteNow lk_Sr_92 (by first | assumption | exact hH.g 0 rfl) (by decide) (Nat.le_of_ble_eq_true rfl) (cm_i (c_Sr_byteNow hH (by omega)) (fun z h4 hq => ?_))
      obtain ⟨rfl, rfl⟩ := hq
      refine ax_cV2 d_Sr_isAtEnd_56 v_Sr_fails lk_Sr_84 (by first | assumption | exact hH.g 0 rfl) (by decide) (Nat.le_of_ble_eq_true rfl) (cm_z (c_Sr_fails hH 12 _) (fun b h9 hq => ?_))
      obtain ⟨rfl, hE, hF9⟩ := hq
      refine az_if_eq 66 d_Sr_isAtEnd_59 (by decide) (by first | exact bz_in _ | omega) (fun hx => ?_) (fun hx => ?_)
      · refine az_iconst d_Sr_isAtEnd_66 ?_
        refine ax_zret d_Sr_isAtEnd_67 rfl (by decide) ?_
        refine ⟨false, rfl, hF3.tr hF9, ?_⟩
        rw [if_neg (by omega), if_neg (by omega)]
        exact ⟨rfl, ⟨_, _, _, _, _, hE⟩⟩
      · exact absurd rfl hx
  · refine ax_aload_n d_Sr_isAtEnd_27 rfl ?_
    refine az_bipush _ d_Sr_isAtEnd_28 (by decide) ?_
    refine ax_iload_n d_Sr_isAtEnd_30 rfl ?_
    refine ax_cV2 d_Sr_isAtEnd_31 v_Sr_fails lk_Sr_84 (by first | assumption | exact hH.g 0 rfl) (by decide) (Nat.le_of_ble_eq_true rfl) (cm_z (c_Sr_fails hH 12 _) (fun b h9 hq => ?_))
    obtain ⟨rfl, hE, hF9⟩ := hq
    refine ax_zret d_Sr_isAtEnd_34 rfl (by decide) ?_
    refine ⟨false, rfl, hF3.tr hF9, ?_⟩
    rw [if_pos (by omega)]
    exact ⟨rfl, ⟨_, _, _, _, _, hE⟩⟩
