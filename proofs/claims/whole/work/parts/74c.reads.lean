/-! the reference: reads -/
theorem rdT_e {T : List Int} {e : RF} (h : rdHead T = .inl e) : (.inl e : Sum RF (List Int)) = rdT T := by rw [rdT, h]
set_option maxRecDepth 100000 in
set_option maxHeartbeats 16000000 in
theorem c_Mo_reads {h0 : ax_H} {iz : Nat → Int} {ar : Nat → Nat → Int} {T : List Int} (hH : MoH h0 iz ar) (hR : MoR iz ar T 0) : ax_Cz m_Mo_reads 4 [.ref 47] h0 (fun b h1 => (match rdT T with
    | .inl e => RdE h1 iz ar e
    | .inr u => u.length ≤ 600 ∧ Bs u ∧ ∃ iz1 ar1, MoH h1 iz1 ar1 ∧ KI [0, 2, 12, 27] iz iz1 ∧ KA RKA ar ar1 ∧ iz1 0 = u.length ∧ la (ar1 1) u) ∧ Fr MOS h0 h1) := by
  have hF : Fr MOS h0 h0 := Fr.rf
  refine ax_enter [some (.ref 47), none, none, none, none, none] rfl (Nat.le_of_ble_eq_true rfl) (by decide) ?_
  show ax_W _ _ _ _ _ _ (RdQ h0 iz ar T)
  refine ax_aload_n d_Mo_reads_0 rfl ?_
  refine az_bipush _ d_Mo_reads_1 (by decide) ?_
  refine ax_cV1 d_Mo_reads_3 v_Mo_get lk_Mo_203 (by first | assumption | exact hH.g 0 rfl | exact hH.g 1 rfl | exact hH.g 2 rfl | exact hH.g 3 rfl | exact hH.g 4 rfl | exact hH.g 5 rfl | exact hH.g 6 rfl | exact hH.g 7 rfl | exact hH.g 8 rfl | exact hH.g 9 rfl | exact hH.g 10 rfl | exact hH.g 11 rfl | exact hH.g 12 rfl | exact hH.g 13 rfl | exact hH.g 14 rfl | exact hH.g 15 rfl | exact hH.g 16 rfl | exact hH.g 17 rfl | exact hH.g 18 rfl) (by decide) (Nat.le_of_ble_eq_true rfl) (cm_j (c_Mo_get hH hR (n := 16) (by omega)) (fun z h1 hq => ?_))
  obtain ⟨hq, hF1⟩ := hq
  by_cases hl1 : 8 * T.length < 0 + 16
  · have hd : rdHead T = .inl (1, T.length) := by
      unfold rdHead
      rw [if_pos (by omega)]
    rw [if_pos hl1] at hq
    obtain ⟨rfl, hE⟩ := hq
    have hE0 := hE
    obtain ⟨iz1, ar1, hH, -, -, e28, -, b1, b2⟩ := hE
    have hcm := cmp3_sp 0 21332
    refine aj_ldc2 21332 d_Mo_reads_6 cn_Mo_170 ?_
    refine aj_lcmp d_Mo_reads_9 (by omega) (by omega) ?_
    refine az_if_eq 20 d_Mo_reads_10 (by decide) (by first | exact bz_in _ | omega) (fun heq => ?_) (fun heq => ?_)
    · exfalso
      omega
    · refine ax_aload_n d_Mo_reads_13 rfl ?_
      refine az_iconst d_Mo_reads_14 ?_
      refine az_iconst d_Mo_reads_15 ?_
      refine ax_cV2 d_Mo_reads_16 v_Mo_wrong lk_Mo_200 (by first | assumption | exact hH.g 0 rfl | exact hH.g 1 rfl | exact hH.g 2 rfl | exact hH.g 3 rfl | exact hH.g 4 rfl | exact hH.g 5 rfl | exact hH.g 6 rfl | exact hH.g 7 rfl | exact hH.g 8 rfl | exact hH.g 9 rfl | exact hH.g 10 rfl | exact hH.g 11 rfl | exact hH.g 12 rfl | exact hH.g 13 rfl | exact hH.g 14 rfl | exact hH.g 15 rfl | exact hH.g 16 rfl | exact hH.g 17 rfl | exact hH.g 18 rfl) (by decide) (Nat.le_of_ble_eq_true rfl) (cm_z (c_Mo_wrong2 hH (f := 2) (pl := 0) (by rw [e28]; exact ⟨b1, b2⟩)) (fun b h2 hq => ?_))
      obtain ⟨rfl, rfl⟩ := hq
      refine ax_zret d_Mo_reads_19 rfl (by decide) ?_
      exact RdQ_e (rdT_e hd) hE0 (hF.tr hF1)
  · rw [if_neg hl1] at hq
    obtain ⟨rfl, iz1, hH1, ki1, hR1⟩ := hq
    have hH := hH1
    have htv := tv_lt T 16 0
    have e28 := hR1.2.2.2.2.2.2
    have hcm := cmp3_sp (tv T 16 0 : Int) 21332
    have hF := hF.tr hF1
    refine aj_ldc2 21332 d_Mo_reads_6 cn_Mo_170 ?_
    refine aj_lcmp d_Mo_reads_9 (by omega) (by omega) ?_
    refine az_if_eq 20 d_Mo_reads_10 (by decide) (by first | exact bz_in _ | omega) (fun heq => ?_) (fun heq => ?_)
    · have hm : ¬ tv T 16 0 ≠ 21332 := by omega
      refine ax_aload_n d_Mo_reads_20 rfl ?_
      refine az_bipush _ d_Mo_reads_21 (by decide) ?_
      refine ax_cV1 d_Mo_reads_23 v_Mo_get lk_Mo_203 (by first | assumption | exact hH.g 0 rfl | exact hH.g 1 rfl | exact hH.g 2 rfl | exact hH.g 3 rfl | exact hH.g 4 rfl | exact hH.g 5 rfl | exact hH.g 6 rfl | exact hH.g 7 rfl | exact hH.g 8 rfl | exact hH.g 9 rfl | exact hH.g 10 rfl | exact hH.g 11 rfl | exact hH.g 12 rfl | exact hH.g 13 rfl | exact hH.g 14 rfl | exact hH.g 15 rfl | exact hH.g 16 rfl | exact hH.g 17 rfl | exact hH.g 18 rfl) (by decide) (Nat.le_of_ble_eq_true rfl) (cm_j (c_Mo_get hH hR1 (n := 16) (by omega)) (fun z h2 hq => ?_))
      obtain ⟨hq, hF2⟩ := hq
      by_cases hl2 : 8 * T.length < 0 + 16 + 16
      · have hd : rdHead T = .inl (1, T.length) := by
          unfold rdHead
          rw [if_neg (by omega), if_neg hm, if_pos (by omega)]
        rw [if_pos hl2] at hq
        obtain ⟨rfl, hE⟩ := hq
        have hE0 := hE.tr ki1 (KA.rf (K := [])) rfl rfl
        obtain ⟨iz2, ar2, hH, -, -, f28, -, b1, b2⟩ := hE
        refine aj_l2i d_Mo_reads_26 ?_
        refine ax_istore_n d_Mo_reads_27 (by decide) rfl ?_
        refine ax_aload_n d_Mo_reads_28 rfl ?_
        refine ax_get d_Mo_reads_29 fg_Mo_194 (by first | assumption | exact hH.g 0 rfl | exact hH.g 1 rfl | exact hH.g 2 rfl | exact hH.g 3 rfl | exact hH.g 4 rfl | exact hH.g 5 rfl | exact hH.g 6 rfl | exact hH.g 7 rfl | exact hH.g 8 rfl | exact hH.g 9 rfl | exact hH.g 10 rfl | exact hH.g 11 rfl | exact hH.g 12 rfl | exact hH.g 13 rfl | exact hH.g 14 rfl | exact hH.g 15 rfl | exact hH.g 16 rfl | exact hH.g 17 rfl | exact hH.g 18 rfl) (by rfl) ?_
        refine az_if_eq 37 d_Mo_reads_32 (by decide) (by first | exact bz_in _ | omega) (fun hc => ?_) (fun hc => ?_)
        · exfalso
          omega
        · refine az_iconst d_Mo_reads_35 ?_
          refine ax_zret d_Mo_reads_36 rfl (by decide) ?_
          exact RdQ_e (rdT_e hd) hE0 (hF.tr hF2)
      · rw [if_neg hl2] at hq
        obtain ⟨rfl, iz2, hH2, ki2, hR2⟩ := hq
        have hH := hH2
        have hF := hF.tr hF2
        have f28 := hR2.2.2.2.2.2.2
        have htn := tv_lt T 16 16
        have e16 : tv T 16 (0 + 16) = tv T 16 16 := rfl
        rw [e16]
        refine aj_l2i d_Mo_reads_26 ?_
        refine ax_istore_n d_Mo_reads_27 (by decide) rfl ?_
        refine ax_aload_n d_Mo_reads_28 rfl ?_
        refine ax_get d_Mo_reads_29 fg_Mo_194 (by first | assumption | exact hH.g 0 rfl | exact hH.g 1 rfl | exact hH.g 2 rfl | exact hH.g 3 rfl | exact hH.g 4 rfl | exact hH.g 5 rfl | exact hH.g 6 rfl | exact hH.g 7 rfl | exact hH.g 8 rfl | exact hH.g 9 rfl | exact hH.g 10 rfl | exact hH.g 11 rfl | exact hH.g 12 rfl | exact hH.g 13 rfl | exact hH.g 14 rfl | exact hH.g 15 rfl | exact hH.g 16 rfl | exact hH.g 17 rfl | exact hH.g 18 rfl) (by rfl) ?_
        refine az_if_eq 37 d_Mo_reads_32 (by decide) (by first | exact bz_in _ | omega) (fun hc => ?_) (fun hc => ?_)
        · refine ax_iload_n d_Mo_reads_37 rfl ?_
          refine az_sipush _ d_Mo_reads_38 (by decide) ?_
          refine az_icmp_le 51 d_Mo_reads_41 (by decide) (by omega) (by omega) (fun h9 => ?_) (fun h9 => ?_)
          · refine ax_aload_n d_Mo_reads_51 rfl ?_
            refine az_bipush _ d_Mo_reads_52 (by decide) ?_
            refine ax_cV1 d_Mo_reads_54 v_Mo_get lk_Mo_203 (by first | assumption | exact hH.g 0 rfl | exact hH.g 1 rfl | exact hH.g 2 rfl | exact hH.g 3 rfl | exact hH.g 4 rfl | exact hH.g 5 rfl | exact hH.g 6 rfl | exact hH.g 7 rfl | exact hH.g 8 rfl | exact hH.g 9 rfl | exact hH.g 10 rfl | exact hH.g 11 rfl | exact hH.g 12 rfl | exact hH.g 13 rfl | exact hH.g 14 rfl | exact hH.g 15 rfl | exact hH.g 16 rfl | exact hH.g 17 rfl | exact hH.g 18 rfl) (by decide) (Nat.le_of_ble_eq_true rfl) (cm_j (c_Mo_get hH hR2 (n := 16) (by omega)) (fun z h3 hq => ?_))
            obtain ⟨hq, hF3⟩ := hq
            by_cases hl3 : 8 * T.length < 0 + 16 + 16 + 16
            · have hd : rdHead T = .inl (1, T.length) := by
                unfold rdHead
                rw [if_neg (by omega), if_neg hm, if_neg (by omega), if_neg (by omega), if_pos (by omega)]
              rw [if_pos hl3] at hq
              obtain ⟨rfl, hE⟩ := hq
              have hE0 := hE.tr (ki1.tr ki2) (KA.rf (K := [])) rfl rfl
              obtain ⟨iz3, ar3, hH, -, -, g28, -, b1, b2⟩ := hE
              refine aj_l2i d_Mo_reads_57 ?_
              refine ax_istore_n d_Mo_reads_58 (by decide) rfl ?_
              refine ax_aload_n d_Mo_reads_59 rfl ?_
              refine ax_get d_Mo_reads_60 fg_Mo_194 (by first | assumption | exact hH.g 0 rfl | exact hH.g 1 rfl | exact hH.g 2 rfl | exact hH.g 3 rfl | exact hH.g 4 rfl | exact hH.g 5 rfl | exact hH.g 6 rfl | exact hH.g 7 rfl | exact hH.g 8 rfl | exact hH.g 9 rfl | exact hH.g 10 rfl | exact hH.g 11 rfl | exact hH.g 12 rfl | exact hH.g 13 rfl | exact hH.g 14 rfl | exact hH.g 15 rfl | exact hH.g 16 rfl | exact hH.g 17 rfl | exact hH.g 18 rfl) (by rfl) ?_
              refine az_if_eq 68 d_Mo_reads_63 (by decide) (by first | exact bz_in _ | omega) (fun hc => ?_) (fun hc => ?_)
              · exfalso
                omega
              · refine az_iconst d_Mo_reads_66 ?_
                refine ax_zret d_Mo_reads_67 rfl (by decide) ?_
                exact RdQ_e (rdT_e hd) hE0 (hF.tr hF3)
            · rw [if_neg hl3] at hq
              obtain ⟨rfl, iz3, hH3, ki3, hR3⟩ := hq
              have hH := hH3
              have hF := hF.tr hF3
              have g28 := hR3.2.2.2.2.2.2
              have hto := tv_lt T 16 32
              have e32 : tv T 16 (0 + 16 + 16) = tv T 16 32 := rfl
              rw [e32]
              have ki13 := (ki1.tr ki2).tr ki3
              -- the place of the origin is wrong
              have bad : tv T 16 32 ≠ 0 ∧ tv T 16 16 ≤ tv T 16 32 → ax_W m_Mo_reads 4 84 [some (.ref 47), some (.int (iv ((tv T 16 16 : Nat) : Int))), some (.int (iv ((tv T 16 32 : Nat) : Int))), none, none, none] [] h3 (RdQ h0 iz ar T) := by
                intro hb
                have hd : rdHead T = .inl (4, 4) := by
                  unfold rdHead
                  rw [if_neg (by omega), if_neg hm, if_neg (by omega), if_neg (by omega), if_neg (by omega), if_pos hb]
                refine ax_aload_n d_Mo_reads_84 rfl ?_
                refine az_iconst d_Mo_reads_85 ?_
                refine az_iconst d_Mo_reads_86 ?_
                refine ax_cV2 d_Mo_reads_87 v_Mo_wrong lk_Mo_200 (by first | assumption | exact hH.g 0 rfl | exact hH.g 1 rfl | exact hH.g 2 rfl | exact hH.g 3 rfl | exact hH.g 4 rfl | exact hH.g 5 rfl | exact hH.g 6 rfl | exact hH.g 7 rfl | exact hH.g 8 rfl | exact hH.g 9 rfl | exact hH.g 10 rfl | exact hH.g 11 rfl | exact hH.g 12 rfl | exact hH.g 13 rfl | exact hH.g 14 rfl | exact hH.g 15 rfl | exact hH.g 16 rfl | exact hH.g 17 rfl | exact hH.g 18 rfl) (by decide) (Nat.le_of_ble_eq_true rfl) (cm_z (c_Mo_wrong hH g28 (f := 4) (pl := 4) (by omega)) (fun b h7 hq => ?_))
                obtain ⟨rfl, hE, hF7⟩ := hq
                refine ax_zret d_Mo_reads_90 rfl (by decide) ?_
                exact RdQ_e (rdT_e hd) (hE.tr ki13 (KA.rf (K := [])) rfl rfl) (hF.tr hF7)
              have good : ¬ (tv T 16 32 ≠ 0 ∧ tv T 16 16 ≤ tv T 16 32) → ax_W m_Mo_reads 4 91 [some (.ref 47), some (.int (iv ((tv T 16 16 : Nat) : Int))), some (.int (iv ((tv T 16 32 : Nat) : Int))), none, none, none] [] h3 (RdQ h0 iz ar T) := by
                intro hb
                refine ax_aload_n d_Mo_reads_91 rfl ?_
                refine az_bipush _ d_Mo_reads_92 (by decide) ?_
                refine ax_cV1 d_Mo_reads_94 v_Mo_get lk_Mo_203 (by first | assumption | exact hH.g 0 rfl | exact hH.g 1 rfl | exact hH.g 2 rfl | exact hH.g 3 rfl | exact hH.g 4 rfl | exact hH.g 5 rfl | exact hH.g 6 rfl | exact hH.g 7 rfl | exact hH.g 8 rfl | exact hH.g 9 rfl | exact hH.g 10 rfl | exact hH.g 11 rfl | exact hH.g 12 rfl | exact hH.g 13 rfl | exact hH.g 14 rfl | exact hH.g 15 rfl | exact hH.g 16 rfl | exact hH.g 17 rfl | exact hH.g 18 rfl) (by decide) (Nat.le_of_ble_eq_true rfl) (cm_j (c_Mo_get hH hR3 (n := 32) (by omega)) (fun z h4 hq => ?_))
                obtain ⟨hq, hF4⟩ := hq
                by_cases hl4 : 8 * T.length < 0 + 16 + 16 + 16 + 32
                · have hd : rdHead T = .inl (1, T.length) := by
                    unfold rdHead
                    rw [if_neg (by omega), if_neg hm, if_neg (by omega), if_neg (by omega), if_neg (by omega), if_neg hb, if_pos (by omega)]
                  rw [if_pos hl4] at hq
                  obtain ⟨rfl, hE⟩ := hq
                  have hE0 := hE.tr ki13 (KA.rf (K := [])) rfl rfl
                  obtain ⟨iz4, ar4, hH, -, -, i28, -, b1, b2⟩ := hE
                  refine ax_lstore_n d_Mo_reads_97 (by decide) rfl ?_
                  refine ax_aload_n d_Mo_reads_98 rfl ?_
                  refine ax_get d_Mo_reads_99 fg_Mo_194 (by first | assumption | exact hH.g 0 rfl | exact hH.g 1 rfl | exact hH.g 2 rfl | exact hH.g 3 rfl | exact hH.g 4 rfl | exact hH.g 5 rfl | exact hH.g 6 rfl | exact hH.g 7 rfl | exact hH.g 8 rfl | exact hH.g 9 rfl | exact hH.g 10 rfl | exact hH.g 11 rfl | exact hH.g 12 rfl | exact hH.g 13 rfl | exact hH.g 14 rfl | exact hH.g 15 rfl | exact hH.g 16 rfl | exact hH.g 17 rfl | exact hH.g 18 rfl) (by rfl) ?_
                  refine az_if_eq 107 d_Mo_reads_102 (by decide) (by first | exact bz_in _ | omega) (fun hc => ?_) (fun hc => ?_)
                  · exfalso
                    omega
                  · refine az_iconst d_Mo_reads_105 ?_
                    refine ax_zret d_Mo_reads_106 rfl (by decide) ?_
                    exact RdQ_e (rdT_e hd) hE0 (hF.tr hF4)
                · have hd : rdHead T = .inr (tv T 16 16, tv T 16 32, tv T 32 48) := by
                    unfold rdHead
                    rw [if_neg (by omega), if_neg hm, if_neg (by omega), if_neg (by omega), if_neg (by omega), if_neg hb, if_neg (by omega)]
                  rw [if_neg hl4] at hq
                  obtain ⟨rfl, iz4, hH4, ki4, hR4⟩ := hq
                  have hH := hH4
                  have i28 := hR4.2.2.2.2.2.2
                  have e48 : tv T 32 (0 + 16 + 16 + 16) = tv T 32 48 := rfl
                  rw [e48]
                  have htk := tv_lt T 32 48
                  refine ax_lstore_n d_Mo_reads_97 (by decide) rfl ?_
                  refine ax_aload_n d_Mo_reads_98 rfl ?_
                  refine ax_get d_Mo_reads_99 fg_Mo_194 (by first | assumption | exact hH.g 0 rfl | exact hH.g 1 rfl | exact hH.g 2 rfl | exact hH.g 3 rfl | exact hH.g 4 rfl | exact hH.g 5 rfl | exact hH.g 6 rfl | exact hH.g 7 rfl | exact hH.g 8 rfl | exact hH.g 9 rfl | exact hH.g 10 rfl | exact hH.g 11 rfl | exact hH.g 12 rfl | exact hH.g 13 rfl | exact hH.g 14 rfl | exact hH.g 15 rfl | exact hH.g 16 rfl | exact hH.g 17 rfl | exact hH.g 18 rfl) (by rfl) ?_
                  refine az_if_eq 107 d_Mo_reads_102 (by decide) (by first | exact bz_in _ | omega) (fun hc => ?_) (fun hc => ?_)
                  · exact w_Mo_rbody htk (by omega) hb hH4 (hF.tr hF4) (ki13.tr ki4) hR4 hd _
                  · exfalso
                    omega
              refine aj_l2i d_Mo_reads_57 ?_
              refine ax_istore_n d_Mo_reads_58 (by decide) rfl ?_
              refine ax_aload_n d_Mo_reads_59 rfl ?_
              refine ax_get d_Mo_reads_60 fg_Mo_194 (by first | assumption | exact hH.g 0 rfl | exact hH.g 1 rfl | exact hH.g 2 rfl | exact hH.g 3 rfl | exact hH.g 4 rfl | exact hH.g 5 rfl | exact hH.g 6 rfl | exact hH.g 7 rfl | exact hH.g 8 rfl | exact hH.g 9 rfl | exact hH.g 10 rfl | exact hH.g 11 rfl | exact hH.g 12 rfl | exact hH.g 13 rfl | exact hH.g 14 rfl | exact hH.g 15 rfl | exact hH.g 16 rfl | exact hH.g 17 rfl | exact hH.g 18 rfl) (by rfl) ?_
              refine az_if_eq 68 d_Mo_reads_63 (by decide) (by first | exact bz_in _ | omega) (fun hc => ?_) (fun hc => ?_)
              · refine ax_iload_n d_Mo_reads_68 rfl ?_
                refine az_if_ne 79 d_Mo_reads_69 (by decide) (by first | exact bz_in _ | omega) (fun hn0 => ?_) (fun hn0 => ?_)
                · refine ax_iload_n d_Mo_reads_79 rfl ?_
                  refine ax_iload_n d_Mo_reads_80 rfl ?_
                  refine az_icmp_lt 91 d_Mo_reads_81 (by decide) (by omega) (by omega) (fun hlt => ?_) (fun hlt => ?_)
                  · exact good (by omega)
                  · exact bad (by omega)
                · refine ax_iload_n d_Mo_reads_72 rfl ?_
                  refine az_if_eq 91 d_Mo_reads_73 (by decide) (by first | exact bz_in _ | omega) (fun ho0 => ?_) (fun ho0 => ?_)
                  · exact good (by omega)
                  · refine ax_goto 84 d_Mo_reads_76 (by decide) ?_
                    exact bad (by omega)
              · exfalso
                omega
          · have hd : rdHead T = .inl (3, 2) := by
              unfold rdHead
              rw [if_neg (by omega), if_neg hm, if_neg (by omega), if_pos (by omega)]
            refine ax_aload_n d_Mo_reads_44 rfl ?_
            refine az_iconst d_Mo_reads_45 ?_
            refine az_iconst d_Mo_reads_46 ?_
            refine ax_cV2 d_Mo_reads_47 v_Mo_wrong lk_Mo_200 (by first | assumption | exact hH.g 0 rfl | exact hH.g 1 rfl | exact hH.g 2 rfl | exact hH.g 3 rfl | exact hH.g 4 rfl | exact hH.g 5 rfl | exact hH.g 6 rfl | exact hH.g 7 rfl | exact hH.g 8 rfl | exact hH.g 9 rfl | exact hH.g 10 rfl | exact hH.g 11 rfl | exact hH.g 12 rfl | exact hH.g 13 rfl | exact hH.g 14 rfl | exact hH.g 15 rfl | exact hH.g 16 rfl | exact hH.g 17 rfl | exact hH.g 18 rfl) (by decide) (Nat.le_of_ble_eq_true rfl) (cm_z (c_Mo_wrong hH f28 (f := 3) (pl := 2) (by omega)) (fun b h7 hq => ?_))
            obtain ⟨rfl, hE, hF7⟩ := hq
            refine ax_zret d_Mo_reads_50 rfl (by decide) ?_
            exact RdQ_e (rdT_e hd) (hE.tr (ki1.tr ki2) (KA.rf (K := [])) rfl rfl) (hF.tr hF7)
        · exfalso
          omega
    · have hd : rdHead T = .inl (2, 0) := by
        unfold rdHead
        rw [if_neg (by omega), if_pos (by omega)]
      refine ax_aload_n d_Mo_reads_13 rfl ?_
      refine az_iconst d_Mo_reads_14 ?_
      refine az_iconst d_Mo_reads_15 ?_
      refine ax_cV2 d_Mo_reads_16 v_Mo_wrong lk_Mo_200 (by first | assumption | exact hH.g 0 rfl | exact hH.g 1 rfl | exact hH.g 2 rfl | exact hH.g 3 rfl | exact hH.g 4 rfl | exact hH.g 5 rfl | exact hH.g 6 rfl | exact hH.g 7 rfl | exact hH.g 8 rfl | exact hH.g 9 rfl | exact hH.g 10 rfl | exact hH.g 11 rfl | exact hH.g 12 rfl | exact hH.g 13 rfl | exact hH.g 14 rfl | exact hH.g 15 rfl | exact hH.g 16 rfl | exact hH.g 17 rfl | exact hH.g 18 rfl) (by decide) (Nat.le_of_ble_eq_true rfl) (cm_z (c_Mo_wrong hH e28 (f := 2) (pl := 0) (by omega)) (fun b h7 hq => ?_))
      obtain ⟨rfl, hE, hF7⟩ := hq
      refine ax_zret d_Mo_reads_19 rfl (by decide) ?_
      exact RdQ_e (rdT_e hd) (hE.tr ki1 (KA.rf (K := [])) rfl rfl) (hF.tr hF7)
