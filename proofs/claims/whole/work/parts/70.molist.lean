/-! the reference: readsList -/
theorem mksI_snoc (v g : Nat) : ∀ (k i : Nat), mksI v g (k + 1) i = mksI v g k i ++ (if bt v (15 - (i + k)) = 1 then [((16 * g + (i + k) : Nat) : Int)] else [])
  | 0, i => by
    rw [mksI, mksI, mksI, List.append_nil, List.nil_append, Nat.add_zero]
  | k + 1, i => by
    rw [mksI, mksI_snoc v g k (i + 1), mksI, List.append_assoc, show i + 1 + k = i + (k + 1) by omega]
set_option maxRecDepth 100000 in
set_option maxHeartbeats 16000000 in
theorem c_Mo_readsList {h0 : ax_H} {iz : Nat → Int} {ar : Nat → Nat → Int} {T : List Int} {p : Nat} (hH : MoH h0 iz ar) (hR : MoR iz ar T p) : ax_Cz m_Mo_readsList 2 [.ref 47] h0 (fun b h1 => (match rdList T p with
    | .inl e => b = false ∧ RdE h1 iz ar e
    | .inr q => b = true ∧ ∃ iz1 ar1, MoH h1 iz1 ar1 ∧ KI [12, 27] iz iz1 ∧ KA [13] ar ar1 ∧ MoR iz1 ar1 T q.2 ∧ iz1 12 = q.1.length ∧ la (ar1 13) q.1) ∧ Fr MOS h0 h1) := by
  obtain ⟨r1, r2, r3, r4, r5, r6, r7⟩ := id hR
  have ep : iz 27 / 8 = ((p / 8 : Nat) : Int) := by omega
  unfold rdList
  refine ax_enter [some (.ref 47), none, none, none, none, none, none, none] rfl (Nat.le_of_ble_eq_true rfl) (by decide) ?_
  refine ax_aload_n d_Mo_readsList_0 rfl ?_
  refine ax_get d_Mo_readsList_1 fg_Mo_197 (by first | assumption | exact hH.g 0 rfl | exact hH.g 1 rfl | exact hH.g 2 rfl | exact hH.g 3 rfl | exact hH.g 4 rfl | exact hH.g 5 rfl | exact hH.g 6 rfl | exact hH.g 7 rfl | exact hH.g 8 rfl | exact hH.g 9 rfl | exact hH.g 10 rfl | exact hH.g 11 rfl | exact hH.g 12 rfl | exact hH.g 13 rfl | exact hH.g 14 rfl | exact hH.g 15 rfl | exact hH.g 16 rfl | exact hH.g 17 rfl | exact hH.g 18 rfl) (by rfl) ?_
  refine az_bipush _ d_Mo_readsList_4 (by decide) ?_
  refine az_idiv d_Mo_readsList_6 (by omega) (by omega) ?_
  rw [ep]
  refine ax_istore_n d_Mo_readsList_7 (by decide) rfl ?_
  refine ax_aload_n d_Mo_readsList_8 rfl ?_
  refine az_bipush _ d_Mo_readsList_9 (by decide) ?_
  refine ax_cV1 d_Mo_readsList_11 v_Mo_get lk_Mo_203 (by first | assumption | exact hH.g 0 rfl | exact hH.g 1 rfl | exact hH.g 2 rfl | exact hH.g 3 rfl | exact hH.g 4 rfl | exact hH.g 5 rfl | exact hH.g 6 rfl | exact hH.g 7 rfl | exact hH.g 8 rfl | exact hH.g 9 rfl | exact hH.g 10 rfl | exact hH.g 11 rfl | exact hH.g 12 rfl | exact hH.g 13 rfl | exact hH.g 14 rfl | exact hH.g 15 rfl | exact hH.g 16 rfl | exact hH.g 17 rfl | exact hH.g 18 rfl) (by decide) (Nat.le_of_ble_eq_true rfl) (cm_j (c_Mo_get hH hR (n := 16) (by omega)) (fun z h1 hq => ?_))
  obtain ⟨hq, hF1⟩ := hq
  by_cases hlk : 8 * T.length < p + 16
  · rw [if_pos hlk] at hq ⊢
    obtain ⟨rfl, hE⟩ := hq
    have hE0 := hE
    obtain ⟨iz1, ar1, hH, -, -, e28, -, b1, b2⟩ := hE
    refine ax_lstore_n d_Mo_readsList_14 (by decide) rfl ?_
    refine ax_aload_n d_Mo_readsList_15 rfl ?_
    refine ax_get d_Mo_readsList_16 fg_Mo_194 (by first | assumption | exact hH.g 0 rfl | exact hH.g 1 rfl | exact hH.g 2 rfl | exact hH.g 3 rfl | exact hH.g 4 rfl | exact hH.g 5 rfl | exact hH.g 6 rfl | exact hH.g 7 rfl | exact hH.g 8 rfl | exact hH.g 9 rfl | exact hH.g 10 rfl | exact hH.g 11 rfl | exact hH.g 12 rfl | exact hH.g 13 rfl | exact hH.g 14 rfl | exact hH.g 15 rfl | exact hH.g 16 rfl | exact hH.g 17 rfl | exact hH.g 18 rfl) (by rfl) ?_
    refine az_if_eq 24 d_Mo_readsList_19 (by decide) (by first | exact bz_in _ | omega) (fun hc => ?_) (fun hc => ?_)
    · exfalso
      omega
    · refine az_iconst d_Mo_readsList_22 ?_
      refine ax_zret d_Mo_readsList_23 rfl (by decide) ?_
      exact ⟨false, rfl, ⟨rfl, hE0⟩, hF1⟩
  · rw [if_neg hlk] at hq ⊢
    obtain ⟨rfl, iz1, hH1, ki1, hR1⟩ := hq
    have hH := hH1
    have e28 := hR1.2.2.2.2.2.2
    have htv := tv_lt T 16 p
    obtain ⟨m, hm⟩ : ∃ m, m = tv T 16 p := ⟨_, rfl⟩
    rw [← hm] at htv ⊢
    have hcm := cmp3_sp (m : Int) 0
    refine ax_lstore_n d_Mo_readsList_14 (by decide) rfl ?_
    refine ax_aload_n d_Mo_readsList_15 rfl ?_
    refine ax_get d_Mo_readsList_16 fg_Mo_194 (by first | assumption | exact hH.g 0 rfl | exact hH.g 1 rfl | exact hH.g 2 rfl | exact hH.g 3 rfl | exact hH.g 4 rfl | exact hH.g 5 rfl | exact hH.g 6 rfl | exact hH.g 7 rfl | exact hH.g 8 rfl | exact hH.g 9 rfl | exact hH.g 10 rfl | exact hH.g 11 rfl | exact hH.g 12 rfl | exact hH.g 13 rfl | exact hH.g 14 rfl | exact hH.g 15 rfl | exact hH.g 16 rfl | exact hH.g 17 rfl | exact hH.g 18 rfl) (by rfl) ?_
    refine az_if_eq 24 d_Mo_readsList_19 (by decide) (by first | exact bz_in _ | omega) (fun hc => ?_) (fun hc => ?_)
    · refine ax_lload_n d_Mo_readsList_24 rfl ?_
      refine aj_lconst 0 d_Mo_readsList_25 rfl ?_
      refine aj_lcmp d_Mo_readsList_26 (by omega) (by omega) ?_
      refine az_if_ne 37 d_Mo_readsList_27 (by decide) (by first | exact bz_in _ | omega) (fun hz => ?_) (fun hz => ?_)
      · rw [if_neg (show ¬ m = 0 by omega)]
        have hF := hF1
        refine ax_aload_n d_Mo_readsList_37 rfl ?_
        refine az_iconst d_Mo_readsList_38 ?_
        first | refine ah_put d_Mo_readsList_39 fp_Mo_138 hH hF 0 rfl rfl rfl (by first | rfl | decide) (Nat.le_of_ble_eq_true rfl) (fun h hH hF => ?_) | refine ah_put d_Mo_readsList_39 fp_Mo_138 hH hF 1 rfl rfl rfl (by first | rfl | decide) (Nat.le_of_ble_eq_true rfl) (fun h hH hF => ?_) | refine ah_put d_Mo_readsList_39 fp_Mo_138 hH hF 2 rfl rfl rfl (by first | rfl | decide) (Nat.le_of_ble_eq_true rfl) (fun h hH hF => ?_) | refine ah_put d_Mo_readsList_39 fp_Mo_138 hH hF 3 rfl rfl rfl (by first | rfl | decide) (Nat.le_of_ble_eq_true rfl) (fun h hH hF => ?_) | refine ah_put d_Mo_readsList_39 fp_Mo_138 hH hF 4 rfl rfl rfl (by first | rfl | decide) (Nat.le_of_ble_eq_true rfl) (fun h hH hF => ?_) | refine ah_put d_Mo_readsList_39 fp_Mo_138 hH hF 5 rfl rfl rfl (by first | rfl | decide) (Nat.le_of_ble_eq_true rfl) (fun h hH hF => ?_) | refine ah_put d_Mo_readsList_39 fp_Mo_138 hH hF 6 rfl rfl rfl (by first | rfl | decide) (Nat.le_of_ble_eq_true rfl) (fun h hH hF => ?_) | refine ah_put d_Mo_readsList_39 fp_Mo_138 hH hF 7 rfl rfl rfl (by first | rfl | decide) (Nat.le_of_ble_eq_true rfl) (fun h hH hF => ?_) | refine ah_put d_Mo_readsList_39 fp_Mo_138 hH hF 8 rfl rfl rfl (by first | rfl | decide) (Nat.le_of_ble_eq_true rfl) (fun h hH hF => ?_) | refine ah_put d_Mo_readsList_39 fp_Mo_138 hH hF 9 rfl rfl rfl (by first | rfl | decide) (Nat.le_of_ble_eq_true rfl) (fun h hH hF => ?_) | refine ah_put d_Mo_readsList_39 fp_Mo_138 hH hF 10 rfl rfl rfl (by first | rfl | decide) (Nat.le_of_ble_eq_true rfl) (fun h hH hF => ?_) | refine ah_put d_Mo_readsList_39 fp_Mo_138 hH hF 11 rfl rfl rfl (by first | rfl | decide) (Nat.le_of_ble_eq_true rfl) (fun h hH hF => ?_) | refine ah_put d_Mo_readsList_39 fp_Mo_138 hH hF 12 rfl rfl rfl (by first | rfl | decide) (Nat.le_of_ble_eq_true rfl) (fun h hH hF => ?_) | refine ah_put d_Mo_readsList_39 fp_Mo_138 hH hF 13 rfl rfl rfl (by first | rfl | decide) (Nat.le_of_ble_eq_true rfl) (fun h hH hF => ?_) | refine ah_put d_Mo_readsList_39 fp_Mo_138 hH hF 14 rfl rfl rfl (by first | rfl | decide) (Nat.le_of_ble_eq_true rfl) (fun h hH hF => ?_) | refine ah_put d_Mo_readsList_39 fp_Mo_138 hH hF 15 rfl rfl rfl (by first | rfl | decide) (Nat.le_of_ble_eq_true rfl) (fun h hH hF => ?_) | refine ah_put d_Mo_readsList_39 fp_Mo_138 hH hF 16 rfl rfl rfl (by first | rfl | decide) (Nat.le_of_ble_eq_true rfl) (fun h hH hF => ?_) | refine ah_put d_Mo_readsList_39 fp_Mo_138 hH hF 17 rfl rfl rfl (by first | rfl | decide) (Nat.le_of_ble_eq_true rfl) (fun h hH hF => ?_) | refine ah_put d_Mo_readsList_39 fp_Mo_138 hH hF 18 rfl rfl rfl (by first | rfl | decide) (Nat.le_of_ble_eq_true rfl) (fun h hH hF => ?_)
        refine az_iconst d_Mo_readsList_42 ?_
        refine ax_istore d_Mo_readsList_43 (by decide) rfl ?_
        have outer : ∀ (f g p1 : Nat) (l : List Int) (iz2 : Nat → Int) (ar2 : Nat → Nat → Int) (h : ax_H), g + f = 16 → l.length ≤ 16 * g → MoH h iz2 ar2 → Fr MOS h0 h → KI [12, 27] iz iz2 → KA [13] ar ar2 → MoR iz2 ar2 T p1 → iz2 12 = l.length → la (ar2 13) l → ∀ (v1 : Int) (v5 v7 : Option Value),
            ax_W m_Mo_readsList 2 45 [some (.ref 47), some (.int (iv v1)), some (.long (lz (m : Int))), none, some (.int (iv g)), v5, none, v7] [] h (fun r0 h1 => ∃ b : Bool, r0 = some (.int (iv (bz b))) ∧ (match rdG T f g m p1 l with
              | .inl e => b = false ∧ RdE h1 iz ar e
              | .inr q => b = true ∧ ∃ iz1 ar1, MoH h1 iz1 ar1 ∧ KI [12, 27] iz iz1 ∧ KA [13] ar ar1 ∧ MoR iz1 ar1 T q.2 ∧ iz1 12 = q.1.length ∧ la (ar1 13) q.1) ∧ Fr MOS h0 h1) := by
          intro f
          induction f with
          | zero =>
            intro g p1 l iz2 ar2 h he hl hH hF ki ka hR e12 h13 v1 v5 v7
            refine ax_iload d_Mo_readsList_45 rfl ?_
            refine az_bipush _ d_Mo_readsList_47 (by decide) ?_
            refine az_icmp_ge 169 d_Mo_readsList_49 (by decide) (by omega) (by omega) (fun hc => ?_) (fun hc => ?_)
            · refine az_iconst d_Mo_readsList_169 ?_
              refine ax_zret d_Mo_readsList_170 rfl (by decide) ?_
              exact ⟨true, rfl, ⟨rfl, iz2, ar2, hH, ki, ka, hR, e12, h13⟩, hF⟩
            · exfalso
              omega
          | succ f ih =>
            intro g p1 l iz2 ar2 h he hl hH hF ki ka hR e12 h13 v1 v5 v7
            have hbm := bt_lt (m : Int) (15 - g)
            have hcm := cmp3_sp (bt (m : Int) (15 - g) : Int) 0
            have e15 : (15 : Int) - (g : Int) = ((15 - g : Nat) : Int) := by omega
            obtain ⟨s1, s2, s3, s4, s5, s6, s7⟩ := id hR
            have ep : iz2 27 / 8 = ((p1 / 8 : Nat) : Int) := by omega
            rw [rdG]
            refine ax_iload d_Mo_readsList_45 rfl ?_
            refine az_bipush _ d_Mo_readsList_47 (by decide) ?_
            refine az_icmp_ge 169 d_Mo_readsList_49 (by decide) (by omega) (by omega) (fun hc => ?_) (fun hc => ?_)
            · exfalso
              omega
            · refine ax_lload_n d_Mo_readsList_52 rfl ?_
              refine az_bipush _ d_Mo_readsList_53 (by decide) ?_
              refine ax_iload d_Mo_readsList_55 rfl ?_
              refine az_isub d_Mo_readsList_57 ?_
              rw [e15]
              refine aj_lshr d_Mo_readsList_58 ?_
              refine aj_lconst 1 d_Mo_readsList_59 rfl ?_
              refine aj_land d_Mo_readsList_60 ?_
              rw [lz_bit (show 15 - g < 64 by omega) (by omega)]
              refine aj_lconst 0 d_Mo_readsList_61 rfl ?_
              refine aj_lcmp d_Mo_readsList_62 (by omega) (by omega) ?_
              refine az_if_ne 69 d_Mo_readsList_63 (by decide) (by first | exact bz_in _ | omega) (fun hb0 => ?_) (fun hb0 => ?_)
              · rw [if_pos (show bt (m : Int) (15 - g) = 1 by omega)]
                refine ax_aload_n d_Mo_readsList_69 rfl ?_
                refine ax_get d_Mo_readsList_70 fg_Mo_197 (by first | assumption | exact hH.g 0 rfl | exact hH.g 1 rfl | exact hH.g 2 rfl | exact hH.g 3 rfl | exact hH.g 4 rfl | exact hH.g 5 rfl | exact hH.g 6 rfl | exact hH.g 7 rfl | exact hH.g 8 rfl | exact hH.g 9 rfl | exact hH.g 10 rfl | exact hH.g 11 rfl | exact hH.g 12 rfl | exact hH.g 13 rfl | exact hH.g 14 rfl | exact hH.g 15 rfl | exact hH.g 16 rfl | exact hH.g 17 rfl | exact hH.g 18 rfl) (by rfl) ?_
                refine az_bipush _ d_Mo_readsList_73 (by decide) ?_
                refine az_idiv d_Mo_readsList_75 (by omega) (by omega) ?_
                rw [ep]
                refine ax_istore_n d_Mo_readsList_76 (by decide) rfl ?_
                refine ax_aload_n d_Mo_readsList_77 rfl ?_
                refine az_bipush _ d_Mo_readsList_78 (by decide) ?_
                refine ax_cV1 d_Mo_readsList_80 v_Mo_get lk_Mo_203 (by first | assumption | exact hH.g 0 rfl | exact hH.g 1 rfl | exact hH.g 2 rfl | exact hH.g 3 rfl | exact hH.g 4 rfl | exact hH.g 5 rfl | exact hH.g 6 rfl | exact hH.g 7 rfl | exact hH.g 8 rfl | exact hH.g 9 rfl | exact hH.g 10 rfl | exact hH.g 11 rfl | exact hH.g 12 rfl | exact hH.g 13 rfl | exact hH.g 14 rfl | exact hH.g 15 rfl | exact hH.g 16 rfl | exact hH.g 17 rfl | exact hH.g 18 rfl) (by decide) (Nat.le_of_ble_eq_true rfl) (cm_j (c_Mo_get hH hR (n := 16) (by omega)) (fun z h5 hq => ?_))
                obtain ⟨hq, hF5⟩ := hq
                by_cases hlk : 8 * T.length < p1 + 16
                · rw [if_pos hlk] at hq ⊢
                  obtain ⟨rfl, hE⟩ := hq
                  have hE0 := hE.tr ki ka rfl rfl
                  obtain ⟨iz3, ar3, hH, -, -, e28, -, b1, b2⟩ := hE
                  refine ax_lstore d_Mo_readsList_83 (by decide) rfl ?_
                  refine ax_aload_n d_Mo_readsList_85 rfl ?_
                  refine ax_get d_Mo_readsList_86 fg_Mo_194 (by first | assumption | exact hH.g 0 rfl | exact hH.g 1 rfl | exact hH.g 2 rfl | exact hH.g 3 rfl | exact hH.g 4 rfl | exact hH.g 5 rfl | exact hH.g 6 rfl | exact hH.g 7 rfl | exact hH.g 8 rfl | exact hH.g 9 rfl | exact hH.g 10 rfl | exact hH.g 11 rfl | exact hH.g 12 rfl | exact hH.g 13 rfl | exact hH.g 14 rfl | exact hH.g 15 rfl | exact hH.g 16 rfl | exact hH.g 17 rfl | exact hH.g 18 rfl) (by rfl) ?_
                  refine az_if_eq 94 d_Mo_readsList_89 (by decide) (by first | exact bz_in _ | omega) (fun hc => ?_) (fun hc => ?_)
                  · exfalso
                    omega
                  · refine az_iconst d_Mo_readsList_92 ?_
                    refine ax_zret d_Mo_readsList_93 rfl (by decide) ?_
                    exact ⟨false, rfl, ⟨rfl, hE0⟩, hF.tr hF5⟩
                · rw [if_neg hlk] at hq ⊢
                  obtain ⟨rfl, iz3, hH3, ki3, hR3⟩ := hq
                  have hH := hH3
                  have e28 := hR3.2.2.2.2.2.2
                  have htv := tv_lt T 16 p1
                  obtain ⟨v, hv⟩ : ∃ v, v = tv T 16 p1 := ⟨_, rfl⟩
                  rw [← hv] at htv ⊢
                  have hcv := cmp3_sp (v : Int) 0
                  have hF := hF.tr hF5
                  refine ax_lstore d_Mo_readsList_83 (by decide) rfl ?_
                  refine ax_aload_n d_Mo_readsList_85 rfl ?_
                  refine ax_get d_Mo_readsList_86 fg_Mo_194 (by first | assumption | exact hH.g 0 rfl | exact hH.g 1 rfl | exact hH.g 2 rfl | exact hH.g 3 rfl | exact hH.g 4 rfl | exact hH.g 5 rfl | exact hH.g 6 rfl | exact hH.g 7 rfl | exact hH.g 8 rfl | exact hH.g 9 rfl | exact hH.g 10 rfl | exact hH.g 11 rfl | exact hH.g 12 rfl | exact hH.g 13 rfl | exact hH.g 14 rfl | exact hH.g 15 rfl | exact hH.g 16 rfl | exact hH.g 17 rfl | exact hH.g 18 rfl) (by rfl) ?_
                  refine az_if_eq 94 d_Mo_readsList_89 (by decide) (by first | exact bz_in _ | omega) (fun hc => ?_) (fun hc => ?_)
                  · refine ax_lload d_Mo_readsList_94 rfl ?_
                    refine aj_lconst 0 d_Mo_readsList_96 rfl ?_
                    refine aj_lcmp d_Mo_readsList_97 (by omega) (by omega) ?_
                    refine az_if_ne 108 d_Mo_readsList_98 (by decide) (by first | exact bz_in _ | omega) (fun hvz => ?_) (fun hvz => ?_)
                    · rw [if_neg (show ¬ v = 0 by omega)]
                      refine az_iconst d_Mo_readsList_108 ?_
                      refine ax_istore d_Mo_readsList_109 (by decide) rfl ?_
                      have inner : ∀ (r b : Nat) (iz4 : Nat → Int) (ar4 : Nat → Nat → Int) (h : ax_H), b + r = 16 → MoH h iz4 ar4 → Fr MOS h0 h → KI [12, 27] iz iz4 → KA [13] ar ar4 → MoR iz4 ar4 T (p1 + 16) → iz4 12 = (l ++ mksI v g b 0).length → la (ar4 13) (l ++ mksI v g b 0) →
                          ax_W m_Mo_readsList 2 111 [some (.ref 47), some (.int (iv ((p1 / 8 : Nat) : Int))), some (.long (lz (m : Int))), none, some (.int (iv g)), some (.long (lz (v : Int))), none, some (.int (iv b))] [] h (fun r0 h1 => ∃ b : Bool, r0 = some (.int (iv (bz b))) ∧ (match rdG T f (g + 1) m (p1 + 16) (l ++ mks v g) with
                            | .inl e => b = false ∧ RdE h1 iz ar e
                            | .inr q => b = true ∧ ∃ iz1 ar1, MoH h1 iz1 ar1 ∧ KI [12, 27] iz iz1 ∧ KA [13] ar ar1 ∧ MoR iz1 ar1 T q.2 ∧ iz1 12 = q.1.length ∧ la (ar1 13) q.1) ∧ Fr MOS h0 h1) := by
                        intro r
                        induction r with
                        | zero =>
                          intro b iz4 ar4 h he2 hH hF ki ka hR e12 h13
                          have hb : b = 16 := by omega
                          subst hb
                          have hml := mks_len v g
                          refine ax_iload d_Mo_readsList_111 rfl ?_
                          refine az_bipush _ d_Mo_readsList_113 (by decide) ?_
                          refine az_icmp_ge 163 d_Mo_readsList_115 (by decide) (by omega) (by omega) (fun hc => ?_) (fun hc => ?_)
                          · refine az_iinc d_Mo_readsList_163 rfl (by decide) rfl ?_
                            refine ax_goto 45 d_Mo_readsList_166 (by decide) ?_
                            exact ih (g + 1) (p1 + 16) (l ++ mks v g) iz4 ar4 h (by omega) (by rw [List.length_append]; omega) hH hF ki ka hR e12 h13 _ _ _
                          · exfalso
                            omega
                        | succ r ih2 =>
                          intro b iz4 ar4 h he2 hH hF ki ka hR e12 h13
                          have hbb := bt_lt (v : Int) (15 - b)
                          have hcb := cmp3_sp (bt (v : Int) (15 - b) : Int) 1
                          have eb : (15 : Int) - (b : Int) = ((15 - b : Nat) : Int) := by omega
                          have hsn := mksI_snoc v g b 0
                          rw [Nat.zero_add] at hsn
                          have hml := mksI_len v g b 0
                          have hll : (l ++ mksI v g b 0).length < 256 := by rw [List.length_append]; omega
                          refine ax_iload d_Mo_readsList_111 rfl ?_
                          refine az_bipush _ d_Mo_readsList_113 (by decide) ?_
                          refine az_icmp_ge 163 d_Mo_readsList_115 (by decide) (by omega) (by omega) (fun hc => ?_) (fun hc => ?_)
                          · exfalso
                            omega
                          · refine ax_lload d_Mo_readsList_118 rfl ?_
                            refine az_bipush _ d_Mo_readsList_120 (by decide) ?_
                            refine ax_iload d_Mo_readsList_122 rfl ?_
                            refine az_isub d_Mo_readsList_124 ?_
                            rw [eb]
                            refine aj_lshr d_Mo_readsList_125 ?_
                            refine aj_lconst 1 d_Mo_readsList_126 rfl ?_
                            refine aj_land d_Mo_readsList_127 ?_
                            rw [lz_bit (show 15 - b < 64 by omega) (by omega)]
                            refine aj_lconst 1 d_Mo_readsList_128 rfl ?_
                            refine aj_lcmp d_Mo_readsList_129 (by omega) (by omega) ?_
                            refine az_if_ne 157 d_Mo_readsList_130 (by decide) (by first | exact bz_in _ | omega) (fun hb1 => ?_) (fun hb1 => ?_)
                            · rw [if_neg (show ¬ bt (v : Int) (15 - b) = 1 by omega), List.append_nil] at hsn
                              refine az_iinc d_Mo_readsList_157 rfl (by decide) rfl ?_
                              refine ax_goto 111 d_Mo_readsList_160 (by decide) ?_
                              exact ih2 (b + 1) iz4 ar4 h (by omega) hH hF ki ka hR (by rw [hsn]; exact e12) (by rw [hsn]; exact h13)
                            · rw [if_pos (show bt (v : Int) (15 - b) = 1 by omega)] at hsn
                              have ei : (16 : Int) * (g : Int) + (b : Int) = ((16 * g + b : Nat) : Int) := by omega
                              refine ax_aload_n d_Mo_readsList_133 rfl ?_
                              refine ax_get d_Mo_readsList_134 fg_Mo_31 (by first | assumption | exact hH.g 0 rfl | exact hH.g 1 rfl | exact hH.g 2 rfl | exact hH.g 3 rfl | exact hH.g 4 rfl | exact hH.g 5 rfl | exact hH.g 6 rfl | exact hH.g 7 rfl | exact hH.g 8 rfl | exact hH.g 9 rfl | exact hH.g 10 rfl | exact hH.g 11 rfl | exact hH.g 12 rfl | exact hH.g 13 rfl | exact hH.g 14 rfl | exact hH.g 15 rfl | exact hH.g 16 rfl | exact hH.g 17 rfl | exact hH.g 18 rfl) (by rfl) ?_
                              refine ax_aload_n d_Mo_readsList_137 rfl ?_
                              refine ax_dup d_Mo_readsList_138 rfl ?_
                              refine ax_get d_Mo_readsList_139 fg_Mo_138 (by first | assumption | exact hH.g 0 rfl | exact hH.g 1 rfl | exact hH.g 2 rfl | exact hH.g 3 rfl | exact hH.g 4 rfl | exact hH.g 5 rfl | exact hH.g 6 rfl | exact hH.g 7 rfl | exact hH.g 8 rfl | exact hH.g 9 rfl | exact hH.g 10 rfl | exact hH.g 11 rfl | exact hH.g 12 rfl | exact hH.g 13 rfl | exact hH.g 14 rfl | exact hH.g 15 rfl | exact hH.g 16 rfl | exact hH.g 17 rfl | exact hH.g 18 rfl) (by rfl) ?_
                              refine ax_dup_x1 d_Mo_readsList_142 rfl rfl ?_
                              refine az_iconst d_Mo_readsList_143 ?_
                              refine az_iadd d_Mo_readsList_144 ?_
                              first | refine ah_put d_Mo_readsList_145 fp_Mo_138 hH hF 0 rfl rfl rfl (by first | rfl | decide) (Nat.le_of_ble_eq_true rfl) (fun h hH hF => ?_) | refine ah_put d_Mo_readsList_145 fp_Mo_138 hH hF 1 rfl rfl rfl (by first | rfl | decide) (Nat.le_of_ble_eq_true rfl) (fun h hH hF => ?_) | refine ah_put d_Mo_readsList_145 fp_Mo_138 hH hF 2 rfl rfl rfl (by first | rfl | decide) (Nat.le_of_ble_eq_true rfl) (fun h hH hF => ?_) | refine ah_put d_Mo_readsList_145 fp_Mo_138 hH hF 3 rfl rfl rfl (by first | rfl | decide) (Nat.le_of_ble_eq_true rfl) (fun h hH hF => ?_) | refine ah_put d_Mo_readsList_145 fp_Mo_138 hH hF 4 rfl rfl rfl (by first | rfl | decide) (Nat.le_of_ble_eq_true rfl) (fun h hH hF => ?_) | refine ah_put d_Mo_readsList_145 fp_Mo_138 hH hF 5 rfl rfl rfl (by first | rfl | decide) (Nat.le_of_ble_eq_true rfl) (fun h hH hF => ?_) | refine ah_put d_Mo_readsList_145 fp_Mo_138 hH hF 6 rfl rfl rfl (by first | rfl | decide) (Nat.le_of_ble_eq_true rfl) (fun h hH hF => ?_) | refine ah_put d_Mo_readsList_145 fp_Mo_138 hH hF 7 rfl rfl rfl (by first | rfl | decide) (Nat.le_of_ble_eq_true rfl) (fun h hH hF => ?_) | refine ah_put d_Mo_readsList_145 fp_Mo_138 hH hF 8 rfl rfl rfl (by first | rfl | decide) (Nat.le_of_ble_eq_true rfl) (fun h hH hF => ?_) | refine ah_put d_Mo_readsList_145 fp_Mo_138 hH hF 9 rfl rfl rfl (by first | rfl | decide) (Nat.le_of_ble_eq_true rfl) (fun h hH hF => ?_) | refine ah_put d_Mo_readsList_145 fp_Mo_138 hH hF 10 rfl rfl rfl (by first | rfl | decide) (Nat.le_of_ble_eq_true rfl) (fun h hH hF => ?_) | refine ah_put d_Mo_readsList_145 fp_Mo_138 hH hF 11 rfl rfl rfl (by first | rfl | decide) (Nat.le_of_ble_eq_true rfl) (fun h hH hF => ?_) | refine ah_put d_Mo_readsList_145 fp_Mo_138 hH hF 12 rfl rfl rfl (by first | rfl | decide) (Nat.le_of_ble_eq_true rfl) (fun h hH hF => ?_) | refine ah_put d_Mo_readsList_145 fp_Mo_138 hH hF 13 rfl rfl rfl (by first | rfl | decide) (Nat.le_of_ble_eq_true rfl) (fun h hH hF => ?_) | refine ah_put d_Mo_readsList_145 fp_Mo_138 hH hF 14 rfl rfl rfl (by first | rfl | decide) (Nat.le_of_ble_eq_true rfl) (fun h hH hF => ?_) | refine ah_put d_Mo_readsList_145 fp_Mo_138 hH hF 15 rfl rfl rfl (by first | rfl | decide) (Nat.le_of_ble_eq_true rfl) (fun h hH hF => ?_) | refine ah_put d_Mo_readsList_145 fp_Mo_138 hH hF 16 rfl rfl rfl (by first | rfl | decide) (Nat.le_of_ble_eq_true rfl) (fun h hH hF => ?_) | refine ah_put d_Mo_readsList_145 fp_Mo_138 hH hF 17 rfl rfl rfl (by first | rfl | decide) (Nat.le_of_ble_eq_true rfl) (fun h hH hF => ?_) | refine ah_put d_Mo_readsList_145 fp_Mo_138 hH hF 18 rfl rfl rfl (by first | rfl | decide) (Nat.le_of_ble_eq_true rfl) (fun h hH hF => ?_)
                              refine az_bipush _ d_Mo_readsList_148 (by decide) ?_
                              refine ax_iload d_Mo_readsList_150 rfl ?_
                              refine az_imul d_Mo_readsList_152 ?_
                              refine ax_iload d_Mo_readsList_153 rfl ?_
                              refine az_iadd d_Mo_readsList_155 ?_
                              rw [ei]
                              first | refine ah_iast d_Mo_readsList_156 hH hF 0 rfl rfl (by omega) (by omega) (by omega) (by omega) (fun h hH hF => ?_) | refine ah_iast d_Mo_readsList_156 hH hF 1 rfl rfl (by omega) (by omega) (by omega) (by omega) (fun h hH hF => ?_) | refine ah_iast d_Mo_readsList_156 hH hF 2 rfl rfl (by omega) (by omega) (by omega) (by omega) (fun h hH hF => ?_) | refine ah_iast d_Mo_readsList_156 hH hF 3 rfl rfl (by omega) (by omega) (by omega) (by omega) (fun h hH hF => ?_) | refine ah_iast d_Mo_readsList_156 hH hF 4 rfl rfl (by omega) (by omega) (by omega) (by omega) (fun h hH hF => ?_) | refine ah_iast d_Mo_readsList_156 hH hF 5 rfl rfl (by omega) (by omega) (by omega) (by omega) (fun h hH hF => ?_) | refine ah_iast d_Mo_readsList_156 hH hF 6 rfl rfl (by omega) (by omega) (by omega) (by omega) (fun h hH hF => ?_) | refine ah_iast d_Mo_readsList_156 hH hF 7 rfl rfl (by omega) (by omega) (by omega) (by omega) (fun h hH hF => ?_) | refine ah_iast d_Mo_readsList_156 hH hF 8 rfl rfl (by omega) (by omega) (by omega) (by omega) (fun h hH hF => ?_) | refine ah_iast d_Mo_readsList_156 hH hF 9 rfl rfl (by omega) (by omega) (by omega) (by omega) (fun h hH hF => ?_) | refine ah_iast d_Mo_readsList_156 hH hF 10 rfl rfl (by omega) (by omega) (by omega) (by omega) (fun h hH hF => ?_) | refine ah_iast d_Mo_readsList_156 hH hF 11 rfl rfl (by omega) (by omega) (by omega) (by omega) (fun h hH hF => ?_) | refine ah_iast d_Mo_readsList_156 hH hF 12 rfl rfl (by omega) (by omega) (by omega) (by omega) (fun h hH hF => ?_) | refine ah_iast d_Mo_readsList_156 hH hF 13 rfl rfl (by omega) (by omega) (by omega) (by omega) (fun h hH hF => ?_) | refine ah_iast d_Mo_readsList_156 hH hF 14 rfl rfl (by omega) (by omega) (by omega) (by omega) (fun h hH hF => ?_) | refine ah_iast d_Mo_readsList_156 hH hF 15 rfl rfl (by omega) (by omega) (by omega) (by omega) (fun h hH hF => ?_) | refine ah_iast d_Mo_readsList_156 hH hF 16 rfl rfl (by omega) (by omega) (by omega) (by omega) (fun h hH hF => ?_) | refine ah_iast d_Mo_readsList_156 hH hF 17 rfl rfl (by omega) (by omega) (by omega) (by omega) (fun h hH hF => ?_) | refine ah_iast d_Mo_readsList_156 hH hF 18 rfl rfl (by omega) (by omega) (by omega) (by omega) (fun h hH hF => ?_)
                              refine az_iinc d_Mo_readsList_157 rfl (by decide) rfl ?_
                              refine ax_goto 111 d_Mo_readsList_160 (by decide) ?_
                              refine ih2 (b + 1) (up iz4 12 (iz4 12 + 1)) (upA ar4 13 (up (ar4 13) (iz4 12).toNat ((16 * g + b : Nat) : Int))) h (by omega) hH hF (ki.up 12 _ rfl) (ka.up 13 _ rfl) (hR.fr (K := [12]) (K' := [13]) (KI.rf.up 12 _ rfl) (KA.rf.up 13 _ rfl) rfl rfl) ?_ ?_
                              · show iz4 12 + 1 = _
                                rw [hsn, ← List.append_assoc, List.length_append (bs := [_]), e12]
                                simp
                              · rw [hsn, ← List.append_assoc]
                                exact la_take_succ h13 (by omega) _
                      refine inner 16 0 iz3 ar2 h5 (by omega) hH3 hF (ki.tr (ki3.wide rfl)) ka hR3 ?_ ?_
                      · rw [mksI, List.append_nil, ki3 12 rfl]
                        exact e12
                      · rw [mksI, List.append_nil]
                        exact h13
                    · rw [if_pos (show v = 0 by omega)]
                      refine ax_aload_n d_Mo_readsList_101 rfl ?_
                      refine az_iconst d_Mo_readsList_102 ?_
                      refine ax_iload_n d_Mo_readsList_103 rfl ?_
                      refine ax_cV2 d_Mo_readsList_104 v_Mo_wrong lk_Mo_200 (by first | assumption | exact hH.g 0 rfl | exact hH.g 1 rfl | exact hH.g 2 rfl | exact hH.g 3 rfl | exact hH.g 4 rfl | exact hH.g 5 rfl | exact hH.g 6 rfl | exact hH.g 7 rfl | exact hH.g 8 rfl | exact hH.g 9 rfl | exact hH.g 10 rfl | exact hH.g 11 rfl | exact hH.g 12 rfl | exact hH.g 13 rfl | exact hH.g 14 rfl | exact hH.g 15 rfl | exact hH.g 16 rfl | exact hH.g 17 rfl | exact hH.g 18 rfl) (by decide) (Nat.le_of_ble_eq_true rfl) (cm_z (c_Mo_wrong hH e28 (f := 5) (pl := ((p1 / 8 : Nat) : Int)) (by omega)) (fun b h6 hq => ?_))
                      obtain ⟨rfl, hE, hF6⟩ := hq
                      refine ax_zret d_Mo_readsList_107 rfl (by decide) ?_
                      exact ⟨false, rfl, ⟨rfl, hE.tr (ki.tr (ki3.wide rfl)) ka rfl rfl⟩, hF.tr hF6⟩
                  · exfalso
                    omega
              · rw [if_neg (show ¬ bt (m : Int) (15 - g) = 1 by omega)]
                refine ax_goto 163 d_Mo_readsList_66 (by decide) ?_
                refine az_iinc d_Mo_readsList_163 rfl (by decide) rfl ?_
                refine ax_goto 45 d_Mo_readsList_166 (by decide) ?_
                exact ih (g + 1) p1 l iz2 ar2 h (by omega) (by omega) hH hF ki ka hR e12 h13 _ _ _
        exact outer 16 0 (p + 16) [] (up iz1 12 0) ar h (by omega) (by simp) hH hF ((ki1.wide rfl).up 12 0 rfl) KA.rf (hR1.fr (K := [12]) (KI.rf.up 12 _ rfl) (KA.rf (K := [])) rfl rfl) rfl (fun i hi => by simp at hi) _ _ _
      · rw [if_pos (show m = 0 by omega)]
        refine ax_aload_n d_Mo_readsList_30 rfl ?_
        refine az_iconst d_Mo_readsList_31 ?_
        refine ax_iload_n d_Mo_readsList_32 rfl ?_
        refine ax_cV2 d_Mo_readsList_33 v_Mo_wrong lk_Mo_200 (by first | assumption | exact hH.g 0 rfl | exact hH.g 1 rfl | exact hH.g 2 rfl | exact hH.g 3 rfl | exact hH.g 4 rfl | exact hH.g 5 rfl | exact hH.g 6 rfl | exact hH.g 7 rfl | exact hH.g 8 rfl | exact hH.g 9 rfl | exact hH.g 10 rfl | exact hH.g 11 rfl | exact hH.g 12 rfl | exact hH.g 13 rfl | exact hH.g 14 rfl | exact hH.g 15 rfl | exact hH.g 16 rfl | exact hH.g 17 rfl | exact hH.g 18 rfl) (by decide) (Nat.le_of_ble_eq_true rfl) (cm_z (c_Mo_wrong hH e28 (f := 5) (pl := ((p / 8 : Nat) : Int)) (by omega)) (fun b h6 hq => ?_))
        obtain ⟨rfl, hE, hF6⟩ := hq
        refine ax_zret d_Mo_readsList_36 rfl (by decide) ?_
        exact ⟨false, rfl, ⟨rfl, hE.tr ki1 (KA.rf (K := [])) rfl rfl⟩, hF1.tr hF6⟩
    · exfalso
      omega
