/-! unpacking -/
theorem raddN_eq {cap : Nat} {b : Int} : ∀ (n : Nat) (xs : List Int), xs.length + n ≤ cap → raddN cap b n xs = xs ++ List.replicate n b
  | 0, xs, _ => by simp [raddN]
  | n + 1, xs, h => by
    rw [raddN, radd, if_pos (by omega), raddN_eq n _ (by simp; omega), List.append_assoc, List.replicate_succ]
    rfl
def upS : List Int → Int → Nat → List Int → Option (List Int)
  | [], _, _, acc => some acc
  | b :: t, pv, al, acc => if al = 4 then (if (acc.length : Int) + b ≤ 600 then upS t b 0 (acc ++ List.replicate b.toNat pv) else none) else if acc.length < 600 then upS t b (if 0 < al ∧ b = pv then al + 1 else 1) (acc ++ [b]) else none
theorem Bs_rep {xs : List Int} {b : Int} (h : Bs xs) (hb : 0 ≤ b ∧ b < 256) : ∀ n : Nat, Bs (xs ++ List.replicate n b)
  | 0 => by rw [List.replicate_zero, List.append_nil]; exact h
  | n + 1 => by
    rw [List.replicate_succ', ← List.append_assoc]
    exact Bs_snoc (Bs_rep h hb n) hb
theorem Rw.lc {h : ax_H} {r ra cap : Nat} {xs : List Int} (hR : Rw h r ra cap xs) : xs.length ≤ cap := by obtain ⟨g, -, -, h1, -⟩ := hR; exact h1
theorem Rw.cc {h : ax_H} {r ra cap : Nat} {xs : List Int} (hR : Rw h r ra cap xs) : cap ≤ 3000 := by obtain ⟨g, -, -, -, h1, -⟩ := hR; exact h1
theorem rAt_in {xs : List Int} (hb : Bs xs) (i : Int) : -2 ≤ rAt xs i ∧ rAt xs i < 256 := by
  unfold rAt
  split
  · have := hb i.toNat (by omega)
    omega
  · omega
set_option maxRecDepth 100000 in
set_option maxHeartbeats 4000000 in
theorem c_S_unpackInto {h0 : ax_H} {r ra cap t ta : Nat} {xs ts : List Int} (hR : Rw h0 r ra cap xs) (hT : Rw h0 t ta 600 ts) (hbs : Bs xs) (hn : xs.length ≤ 900) (hd1 : [t, ta].contains r = false) (hd2 : [t, ta].contains ra = false) :
    ax_Cz m_S_unpackInto 2 [.ref r, .ref t] h0 (fun b h1 => (∃ u, Rw h1 t ta 600 u ∧ Bs u ∧ (b = true → upS xs 0 0 [] = some u)) ∧ (b = false → upS xs 0 0 [] = none) ∧ Fr [t, ta] h0 h1) := by
  have hszt := hT.sz
  refine ax_enter [some (.ref r), some (.ref t), none, none, none, none, none] rfl (Nat.le_of_ble_eq_true rfl) (by decide) ?_
  refine ax_aload_n d_S_unpackInto_0 rfl ?_
  refine az_iconst d_S_unpackInto_1 ?_
  refine ax_cV1 d_S_unpackInto_2 v_Rw_shorten lk_S_64 (by first | assumption ) (by decide) (Nat.le_of_ble_eq_true rfl) (cm_v (c_Rw_shorten hT (n := 0) (by omega)) (fun h1 hp => ?_))
  obtain ⟨hT1, hF1⟩ := hp
  refine az_iconst d_S_unpackInto_5 ?_
  refine ax_istore_n d_S_unpackInto_6 (by decide) rfl ?_
  refine az_iconst d_S_unpackInto_7 ?_
  refine ax_istore_n d_S_unpackInto_8 (by decide) rfl ?_
  have key : ∀ (f i al : Nat) (pv : Int) (h : ax_H) (ys : List Int), i + f = xs.length → al ≤ 4 → (0 < al → 0 < i ∧ pv = gx xs (i - 1)) → Rw h t ta 600 ys → Bs ys → Fr [t, ta] h0 h → upS (xs.drop i) pv al ys = upS xs 0 0 [] → ∀ v4 v5 v6 : Option Value,
      ax_W m_S_unpackInto 2 9 [some (.ref r), some (.ref t), some (.int (iv al)), some (.int (iv i)), v4, v5, v6] [] h (fun r0 h1 => ∃ b : Bool, r0 = some (.int (iv (bz b))) ∧ (∃ u, Rw h1 t ta 600 u ∧ Bs u ∧ (b = true → upS xs 0 0 [] = some u)) ∧ (b = false → upS xs 0 0 [] = none) ∧ Fr [t, ta] h0 h1) := by
    intro f
    induction f with
    | zero =>
      intro i al pv h ys he hal hpv hT hby hF hs v4 v5 v6
      have hsz := (hR.fr hF hd1 hd2).sz
      refine ax_iload_n d_S_unpackInto_9 rfl ?_
      refine ax_aload_n d_S_unpackInto_10 rfl ?_
      refine ax_get d_S_unpackInto_11 fg_S_60 (by first | assumption ) (by rfl) ?_
      refine az_icmp_ge 119 d_S_unpackInto_14 (by decide) (by omega) (by omega) (fun hc => ?_) (fun hc => ?_)
      · refine az_iconst d_S_unpackInto_119 ?_
        refine ax_zret d_S_unpackInto_120 rfl (by decide) ?_
        rw [List.drop_of_length_le (by omega), upS] at hs
        exact ⟨true, rfl, ⟨ys, hT, hby, fun _ => hs.symm⟩, (fun q => by cases q), hF⟩
      · exfalso
        omega
    | succ f ih =>
      intro i al pv h ys he hal hpv hT hby hF hs v4 v5 v6
      have hR1 := hR.fr hF hd1 hd2
      have hsz := hR1.sz
      have hszt := hT.sz
      have hlt := hT.lc
      have b1 := hbs i (by omega)
      have hb1 : 0 ≤ gx xs i ∧ gx xs i < 256 := b1
      have e1 : rAt xs i = gx xs i := by rw [rAt, if_pos (by omega)]; rfl
      have hpb := rAt_in hbs ((i : Int) - 1)
      have hpv2 : 0 < i → rAt xs ((i : Int) - 1) = gx xs (i - 1) := fun w => by rw [rAt, if_pos (by omega), show ((i : Int) - 1).toNat = i - 1 by omega]
      have hpv0 : ¬ 0 < i → rAt xs ((i : Int) - 1) = -2 := fun w => by rw [rAt, if_neg (by omega)]
      rw [drop_gx (show i < xs.length by omega), upS] at hs
      refine ax_iload_n d_S_unpackInto_9 rfl ?_
      refine ax_aload_n d_S_unpackInto_10 rfl ?_
      refine ax_get d_S_unpackInto_11 fg_S_60 (by first | assumption ) (by rfl) ?_
      refine az_icmp_ge 119 d_S_unpackInto_14 (by decide) (by omega) (by omega) (fun hc => ?_) (fun hc => ?_)
      · exfalso
        omega
      · refine ax_aload_n d_S_unpackInto_17 rfl ?_
        refine ax_iload_n d_S_unpackInto_18 rfl ?_
        refine ax_cV1 d_S_unpackInto_19 v_Rw_at lk_S_67 (by first | assumption ) (by decide) (Nat.le_of_ble_eq_true rfl) (cm_i (c_Rw_at hR1 (i := i) (by omega)) (fun z h3 hq => ?_))
        obtain ⟨rfl, rfl⟩ := hq
        rw [e1]
        by_cases h4 : al = 4
        · rw [if_pos h4] at hs
          have hi0 := hpv (by omega)
          have hp4 : 0 ≤ gx xs (i - 1) ∧ gx xs (i - 1) < 256 := hbs (i - 1) (by omega)
          refine ax_istore d_S_unpackInto_22 (by decide) rfl ?_
          refine ax_iload_n d_S_unpackInto_24 rfl ?_
          refine az_iconst d_S_unpackInto_25 ?_
          refine az_icmp_ne 33 d_S_unpackInto_26 (by decide) (by omega) (by omega) (fun hc => ?_) (fun hc => ?_)
          · exfalso
            omega
          · refine az_iconst d_S_unpackInto_29 ?_
            refine ax_goto 34 d_S_unpackInto_30 (by decide) ?_
            refine ax_istore d_S_unpackInto_34 (by decide) rfl ?_
            refine ax_iload d_S_unpackInto_36 rfl ?_
            refine az_if_eq 46 d_S_unpackInto_38 (by decide) (by first | exact bz_in _ | omega) (fun hc1 => ?_) (fun hc1 => ?_)
            · exfalso
              omega
            · refine ax_iload d_S_unpackInto_41 rfl ?_
              refine ax_goto 47 d_S_unpackInto_43 (by decide) ?_
              refine ax_istore d_S_unpackInto_47 (by decide) rfl ?_
              refine ax_aload_n d_S_unpackInto_49 rfl ?_
              refine ax_iload d_S_unpackInto_50 rfl ?_
              refine ax_cV1 d_S_unpackInto_52 v_Rw_hasRoom lk_S_53 (by first | assumption ) (by decide) (Nat.le_of_ble_eq_true rfl) (cm_z (c_Rw_hasRoom hT (n := gx xs i) (by omega)) (fun b h4 hq => ?_))
              obtain ⟨rfl, rfl⟩ := hq
              refine az_if_ne 60 d_S_unpackInto_55 (by decide) (bz_in _) (fun hcb => ?_) (fun hcb => ?_)
              · have hroom := of_decide_eq_true (bz_t hcb)
                rw [if_pos (by omega)] at hs
                refine ax_aload_n d_S_unpackInto_60 rfl ?_
                refine ax_iload d_S_unpackInto_61 rfl ?_
                refine ax_iload d_S_unpackInto_63 rfl ?_
                refine az_if_eq 78 d_S_unpackInto_65 (by decide) (by first | exact bz_in _ | omega) (fun hc2 => ?_) (fun hc2 => ?_)
                · exfalso
                  omega
                · refine ax_aload_n d_S_unpackInto_68 rfl ?_
                  refine ax_iload_n d_S_unpackInto_69 rfl ?_
                  refine az_iconst d_S_unpackInto_70 ?_
                  refine az_isub d_S_unpackInto_71 ?_
                  refine ax_cV1 d_S_unpackInto_72 v_Rw_at lk_S_67 (by first | assumption ) (by decide) (Nat.le_of_ble_eq_true rfl) (cm_i (c_Rw_at hR1 (i := (i : Int) - 1) (by omega)) (fun z h3 hq => ?_))
                  obtain ⟨rfl, rfl⟩ := hq
                  rw [hpv2 hi0.1]
                  refine ax_goto 80 d_S_unpackInto_75 (by decide) ?_
                  refine ax_cV2 d_S_unpackInto_80 v_Rw_addMany lk_S_56 (by first | assumption ) (by decide) (Nat.le_of_ble_eq_true rfl) (cm_v (c_Rw_addMany hT _ (n := gx xs i) (by omega)) (fun h5 hq => ?_))
                  obtain ⟨hT5, hF5⟩ := hq
                  rw [raddN_eq _ _ (by omega)] at hT5
                  refine ax_iload d_S_unpackInto_83 rfl ?_
                  refine az_if_eq 93 d_S_unpackInto_85 (by decide) (by first | exact bz_in _ | omega) (fun hc3 => ?_) (fun hc3 => ?_)
                  · exfalso
                    omega
                  · refine az_iconst d_S_unpackInto_88 ?_
                    refine ax_istore_n d_S_unpackInto_89 (by decide) rfl ?_
                    refine ax_goto 113 d_S_unpackInto_90 (by decide) ?_
                    refine az_iinc d_S_unpackInto_113 rfl (by decide) rfl ?_
                    refine ax_goto 9 d_S_unpackInto_116 (by decide) ?_
                    rw [hi0.2] at hs
                    exact ih (i + 1) 0 (gx xs i) h5 _ (by omega) (by omega) (fun q => by omega) hT5 (Bs_rep hby hp4 _) (hF.tr hF5) hs _ _ _
              · have hroom := of_decide_eq_false (bz_f hcb)
                rw [if_neg (by omega)] at hs
                refine az_iconst d_S_unpackInto_58 ?_
                refine ax_zret d_S_unpackInto_59 rfl (by decide) ?_
                exact ⟨false, rfl, ⟨ys, hT, hby, (fun q => by cases q)⟩, fun _ => hs.symm, hF⟩
        · rw [if_neg h4] at hs
          refine ax_istore d_S_unpackInto_22 (by decide) rfl ?_
          refine ax_iload_n d_S_unpackInto_24 rfl ?_
          refine az_iconst d_S_unpackInto_25 ?_
          refine az_icmp_ne 33 d_S_unpackInto_26 (by decide) (by omega) (by omega) (fun hc => ?_) (fun hc => ?_)
          · refine az_iconst d_S_unpackInto_33 ?_
            refine ax_istore d_S_unpackInto_34 (by decide) rfl ?_
            refine ax_iload d_S_unpackInto_36 rfl ?_
            refine az_if_eq 46 d_S_unpackInto_38 (by decide) (by first | exact bz_in _ | omega) (fun hc1 => ?_) (fun hc1 => ?_)
            · refine az_iconst d_S_unpackInto_46 ?_
              refine ax_istore d_S_unpackInto_47 (by decide) rfl ?_
              refine ax_aload_n d_S_unpackInto_49 rfl ?_
              refine ax_iload d_S_unpackInto_50 rfl ?_
              refine ax_cV1 d_S_unpackInto_52 v_Rw_hasRoom lk_S_53 (by first | assumption ) (by decide) (Nat.le_of_ble_eq_true rfl) (cm_z (c_Rw_hasRoom hT (n := 1) (by omega)) (fun b h4 hq => ?_))
              obtain ⟨rfl, rfl⟩ := hq
              refine az_if_ne 60 d_S_unpackInto_55 (by decide) (bz_in _) (fun hcb => ?_) (fun hcb => ?_)
              · have hroom := of_decide_eq_true (bz_t hcb)
                rw [if_pos (by omega)] at hs
                refine ax_aload_n d_S_unpackInto_60 rfl ?_
                refine ax_iload d_S_unpackInto_61 rfl ?_
                refine ax_iload d_S_unpackInto_63 rfl ?_
                refine az_if_eq 78 d_S_unpackInto_65 (by decide) (by first | exact bz_in _ | omega) (fun hc2 => ?_) (fun hc2 => ?_)
                · refine ax_iload d_S_unpackInto_78 rfl ?_
                  refine ax_cV2 d_S_unpackInto_80 v_Rw_addMany lk_S_56 (by first | assumption ) (by decide) (Nat.le_of_ble_eq_true rfl) (cm_v (c_Rw_addMany hT (gx xs i) (n := 1) (by omega)) (fun h5 hq => ?_))
                  obtain ⟨hT5, hF5⟩ := hq
                  rw [raddN_eq _ _ (by show ys.length + 1 ≤ 600; omega)] at hT5
                  have hT5 : Rw h5 t ta 600 (ys ++ [gx xs i]) := hT5
                  have hR5 := hR1.fr hF5 hd1 hd2
                  have hsz5 := hR5.sz
                  refine ax_iload d_S_unpackInto_83 rfl ?_
                  refine az_if_eq 93 d_S_unpackInto_85 (by decide) (by first | exact bz_in _ | omega) (fun hc3 => ?_) (fun hc3 => ?_)
                  · refine ax_iload d_S_unpackInto_93 rfl ?_
                    refine ax_aload_n d_S_unpackInto_95 rfl ?_
                    refine ax_iload_n d_S_unpackInto_96 rfl ?_
                    refine az_iconst d_S_unpackInto_97 ?_
                    refine az_isub d_S_unpackInto_98 ?_
                    refine ax_cV1 d_S_unpackInto_99 v_Rw_at lk_S_67 (by first | assumption ) (by decide) (Nat.le_of_ble_eq_true rfl) (cm_i (c_Rw_at hR5 (i := (i : Int) - 1) (by omega)) (fun z h3 hq => ?_))
                    obtain ⟨rfl, rfl⟩ := hq
                    have fin : ∀ a : Nat, a = (if 0 < al ∧ gx xs i = pv then al + 1 else 1) → ∀ v5' v6' : Option Value, ax_W m_S_unpackInto 2 112 [some (.ref r), some (.ref t), some (.int (iv al)), some (.int (iv i)), some (.int (iv (gx xs i))), v5', v6'] [.int (iv a)] h3 (fun r0 h1 => ∃ b : Bool, r0 = some (.int (iv (bz b))) ∧ (∃ u, Rw h1 t ta 600 u ∧ Bs u ∧ (b = true → upS xs 0 0 [] = some u)) ∧ (b = false → upS xs 0 0 [] = none) ∧ Fr [t, ta] h0 h1) := by
                      intro a ha v5' v6'
                      rw [← ha] at hs
                      have ha2 : a ≤ 4 := by rw [ha]; split <;> omega
                      refine ax_istore_n d_S_unpackInto_112 (by decide) rfl ?_
                      refine az_iinc d_S_unpackInto_113 rfl (by decide) rfl ?_
                      refine ax_goto 9 d_S_unpackInto_116 (by decide) ?_
                      exact ih (i + 1) a (gx xs i) h3 _ (by omega) ha2 (fun _ => ⟨by omega, rfl⟩) hT5 (Bs_snoc hby hb1) (hF.tr hF5) hs _ _ _
                    refine az_icmp_ne 111 d_S_unpackInto_102 (by decide) (by omega) (by omega) (fun hne => ?_) (fun hne => ?_)
                    · refine az_iconst d_S_unpackInto_111 ?_
                      refine fin 1 (by
                        rw [if_neg]
                        rintro ⟨w1, w2⟩
                        have w3 := hpv w1
                        apply hne
                        rw [hpv2 w3.1, w2, w3.2]) _ _
                    · refine ax_iload_n d_S_unpackInto_105 rfl ?_
                      refine az_iconst d_S_unpackInto_106 ?_
                      refine az_iadd d_S_unpackInto_107 ?_
                      refine ax_goto 112 d_S_unpackInto_108 (by decide) ?_
                      have hi0 : 0 < i := by
                        by_cases w : 0 < i
                        · exact w
                        · rw [hpv0 w] at hne; omega
                      rw [hpv2 hi0] at hne
                      refine fin (al + 1) (by
                        by_cases w : 0 < al
                        · rw [if_pos ⟨w, by rw [(hpv w).2]; exact hne⟩]
                        · rw [if_neg (fun q => w q.1)]; omega) _ _
                  · exfalso
                    omega
                · exfalso
                  omega
              · have hroom := of_decide_eq_false (bz_f hcb)
                rw [if_neg (by omega)] at hs
                refine az_iconst d_S_unpackInto_58 ?_
                refine ax_zret d_S_unpackInto_59 rfl (by decide) ?_
                exact ⟨false, rfl, ⟨ys, hT, hby, (fun q => by cases q)⟩, fun _ => hs.symm, hF⟩
            · exfalso
              omega
          · exfalso
            omega
  exact key xs.length 0 0 0 h1 [] (by omega) (by omega) (fun q => by omega) hT1 Bs_nil hF1 rfl none none none
