/-! the reference: makeLengths, symbol, code, bits -/
theorem dpt_bd (U : Nat → Int) : ∀ (f q : Nat), dpt U f q ≤ f
  | 0, _ => Int.le_refl _
  | f + 1, q => by
    have := dpt_bd U f (U q).toNat
    rw [dpt]
    split <;> omega
theorem len_bd {wt : Nat → Int} {n : Nat} (hn : n ≤ 258) (k : Nat) : lenH wt n k ≤ 1000 := by
  have := dpt_bd (jn wt n (n - 1)).2.2 (n + (n - 1)) k
  unfold lenH
  omega
set_option maxRecDepth 100000 in
set_option maxHeartbeats 16000000 in
theorem c_Mo_makeLengths {h0 : ax_H} {iz : Nat → Int} {ar : Nat → Nat → Int} {ss : List Int} {n : Nat} (hH : MoH h0 iz ar) (hn2 : 2 ≤ n) (hn : n ≤ 258) (e12 : iz 12 + 2 = n) (e14 : iz 14 = ss.length) (hsl : ss.length ≤ 902) (hs : la (ar 15) ss) (hin : inS ss n) : ax_Cv m_Mo_makeLengths 2 [.ref 47] h0 (fun h1 => (∃ ar1, MoH h1 iz ar1 ∧ KA [16, 17, 18, 19, 20, 21] ar ar1 ∧ (∀ k : Nat, k < n → ar1 16 k = lgT ss n k) ∧ (∀ k : Nat, k < n → ar1 17 k = codeV (lgT ss n) n k) ∧ okLg (lgT ss n) n) ∧ Fr MOS h0 h1) := by
  have hF : Fr MOS h0 h0 := Fr.rf
  have hw1 : ∀ k : Nat, k < n → 1 ≤ wS ss k := fun k _ => wS_pos ss k
  have hw2 : ∀ k : Nat, k < n → wS ss k ≤ 1024 := fun k _ => wS_le (by omega) k
  have hg11 := gd_11 (by omega) hn hw1 hw2
  refine ax_enter [some (.ref 47), none, none, none] rfl (Nat.le_of_ble_eq_true rfl) (by decide) ?_
  refine ax_aload_n d_Mo_makeLengths_0 rfl ?_
  refine ax_get d_Mo_makeLengths_1 fg_Mo_138 (by first | assumption | exact hH.g 0 rfl | exact hH.g 1 rfl | exact hH.g 2 rfl | exact hH.g 3 rfl | exact hH.g 4 rfl | exact hH.g 5 rfl | exact hH.g 6 rfl | exact hH.g 7 rfl | exact hH.g 8 rfl | exact hH.g 9 rfl | exact hH.g 10 rfl | exact hH.g 11 rfl | exact hH.g 12 rfl | exact hH.g 13 rfl | exact hH.g 14 rfl | exact hH.g 15 rfl | exact hH.g 16 rfl | exact hH.g 17 rfl | exact hH.g 18 rfl) (by rfl) ?_
  refine az_iconst d_Mo_makeLengths_4 ?_
  refine az_iadd d_Mo_makeLengths_5 ?_
  rw [e12]
  refine ax_istore_n d_Mo_makeLengths_6 (by decide) rfl ?_
  refine az_iconst d_Mo_makeLengths_7 ?_
  refine ax_istore_n d_Mo_makeLengths_8 (by decide) rfl ?_
  -- joining until the lengths are good
  have outer : ∀ (f j : Nat) (ar1 : Nat → Nat → Int) (h : ax_H), j + f = 11 → MoH h iz ar1 → Fr MOS h0 h → KA [16, 17, 18, 19, 20, 21] ar ar1 → (∀ k : Nat, k < n → ar1 21 k = hv (wS ss) j k) → (∀ i : Nat, i < j → ¬ gd (wS ss) n i) → ∀ v3 : Option Value,
      ax_W m_Mo_makeLengths 2 91 [some (.ref 47), some (.int (iv n)), some (.int (iv 0)), v3] [] h (fun r0 h1 => r0 = none ∧ (∃ ar1, MoH h1 iz ar1 ∧ KA [16, 17, 18, 19, 20, 21] ar ar1 ∧ (∀ k : Nat, k < n → ar1 16 k = lgT ss n k) ∧ (∀ k : Nat, k < n → ar1 17 k = codeV (lgT ss n) n k) ∧ okLg (lgT ss n) n) ∧ Fr MOS h0 h1) := by
    have body : ∀ (j : Nat) (ar1 : Nat → Nat → Int) (h : ax_H), j ≤ 11 → MoH h iz ar1 → Fr MOS h0 h → KA [16, 17, 18, 19, 20, 21] ar ar1 → (∀ k : Nat, k < n → ar1 21 k = hv (wS ss) j k) → (∀ i : Nat, i < j → ¬ gd (wS ss) n i) →
        (∀ (ar1 : Nat → Nat → Int) (h : ax_H) (v3 : Option Value), j < 11 → MoH h iz ar1 → Fr MOS h0 h → KA [16, 17, 18, 19, 20, 21] ar ar1 → (∀ k : Nat, k < n → ar1 21 k = hv (wS ss) (j + 1) k) → (∀ i : Nat, i < j + 1 → ¬ gd (wS ss) n i) → ax_W m_Mo_makeLengths 2 91 [some (.ref 47), some (.int (iv n)), some (.int (iv 0)), v3] [] h (fun r0 h1 => r0 = none ∧ (∃ ar1, MoH h1 iz ar1 ∧ KA [16, 17, 18, 19, 20, 21] ar ar1 ∧ (∀ k : Nat, k < n → ar1 16 k = lgT ss n k) ∧ (∀ k : Nat, k < n → ar1 17 k = codeV (lgT ss n) n k) ∧ okLg (lgT ss n) n) ∧ Fr MOS h0 h1)) → ∀ v3 : Option Value,
        ax_W m_Mo_makeLengths 2 91 [some (.ref 47), some (.int (iv n)), some (.int (iv 0)), v3] [] h (fun r0 h1 => r0 = none ∧ (∃ ar1, MoH h1 iz ar1 ∧ KA [16, 17, 18, 19, 20, 21] ar ar1 ∧ (∀ k : Nat, k < n → ar1 16 k = lgT ss n k) ∧ (∀ k : Nat, k < n → ar1 17 k = codeV (lgT ss n) n k) ∧ okLg (lgT ss n) n) ∧ Fr MOS h0 h1) := by
      intro j ar1 h hj hH hF ka h21 hmin next v3
      have hp := hv_pos hw1 j
      have hl := hv_le hw1 hw2 j
      refine ax_iload_n d_Mo_makeLengths_91 rfl ?_
      refine az_if_ne 172 d_Mo_makeLengths_92 (by decide) (by first | exact bz_in _ | omega) (fun hc => ?_) (fun hc => ?_)
      · exfalso
        omega
      · refine ax_aload_n d_Mo_makeLengths_95 rfl ?_
        refine ax_iload_n d_Mo_makeLengths_96 rfl ?_
        refine ax_cV1 d_Mo_makeLengths_97 v_Mo_join lk_Mo_151 (by first | assumption | exact hH.g 0 rfl | exact hH.g 1 rfl | exact hH.g 2 rfl | exact hH.g 3 rfl | exact hH.g 4 rfl | exact hH.g 5 rfl | exact hH.g 6 rfl | exact hH.g 7 rfl | exact hH.g 8 rfl | exact hH.g 9 rfl | exact hH.g 10 rfl | exact hH.g 11 rfl | exact hH.g 12 rfl | exact hH.g 13 rfl | exact hH.g 14 rfl | exact hH.g 15 rfl | exact hH.g 16 rfl | exact hH.g 17 rfl | exact hH.g 18 rfl) (by decide) (Nat.le_of_ble_eq_true rfl) (cm_v (c_Mo_join hH hn2 hn h21 hp hl) (fun h1 hq => ?_))
        obtain ⟨⟨ar2, hH2, ka2, h16⟩, hF2⟩ := hq
        have hH := hH2
        have hF12 := hF.tr hF2
        have ka12 : KA [16, 17, 18, 19, 20, 21] ar ar2 := ka.tr (ka2.wide rfl)
        have h21' : ∀ k : Nat, k < n → ar2 21 k = hv (wS ss) j k := fun k hk => by rw [ka2 21 rfl]; exact h21 k hk
        -- too long: halve
        have half : ¬ gd (wS ss) n j → ∀ (g k : Nat) (ar3 : Nat → Nat → Int) (h : ax_H), k + g = n → MoH h iz ar3 → Fr MOS h0 h → KA [16, 17, 18, 19, 20, 21] ar ar3 → (∀ q : Nat, q < n → ar3 21 q = if q < k then hv (wS ss) (j + 1) q else hv (wS ss) j q) →
            ax_W m_Mo_makeLengths 2 136 [some (.ref 47), some (.int (iv n)), some (.int (iv 0)), some (.int (iv k))] [] h (fun r0 h1 => r0 = none ∧ (∃ ar1, MoH h1 iz ar1 ∧ KA [16, 17, 18, 19, 20, 21] ar ar1 ∧ (∀ k : Nat, k < n → ar1 16 k = lgT ss n k) ∧ (∀ k : Nat, k < n → ar1 17 k = codeV (lgT ss n) n k) ∧ okLg (lgT ss n) n) ∧ Fr MOS h0 h1) := by
          intro hng g
          have hj2 : j < 11 := by
            by_cases e : j = 11
            · rw [e] at hng; exact absurd hg11 hng
            · omega
          induction g with
          | zero =>
            intro k ar3 h he hH hF ka hw
            refine ax_iload_n d_Mo_makeLengths_136 rfl ?_
            refine ax_iload_n d_Mo_makeLengths_137 rfl ?_
            refine az_icmp_ge 169 d_Mo_makeLengths_138 (by decide) (by omega) (by omega) (fun hc => ?_) (fun hc => ?_)
            · refine ax_goto 91 d_Mo_makeLengths_169 (by decide) ?_
              refine next ar3 h _ hj2 hH hF ka (fun q hq => by rw [hw q hq, if_pos (by omega)]) (fun i hi => ?_)
              by_cases e : i = j
              · rw [e]; exact hng
              · exact hmin i (by omega)
            · exfalso
              omega
          | succ g ih =>
            intro k ar3 h he hH hF ka hw
            have hwk : ar3 21 ((k : Int).toNat) = hv (wS ss) j k := by
              rw [show ((k : Nat) : Int).toNat = k by omega, hw k (by omega), if_neg (by omega)]
            have p1 := hp k (by omega)
            have p2 := hl k (by omega)
            refine ax_iload_n d_Mo_makeLengths_136 rfl ?_
            refine ax_iload_n d_Mo_makeLengths_137 rfl ?_
            refine az_icmp_ge 169 d_Mo_makeLengths_138 (by decide) (by omega) (by omega) (fun hc => ?_) (fun hc => ?_)
            · exfalso
              omega
            · refine ax_iload_n d_Mo_makeLengths_141 rfl ?_
              refine az_if_ne 169 d_Mo_makeLengths_142 (by decide) (by first | exact bz_in _ | omega) (fun hc => ?_) (fun hc => ?_)
              · exfalso
                omega
              · refine ax_aload_n d_Mo_makeLengths_145 rfl ?_
                refine ax_get d_Mo_makeLengths_146 fg_Mo_53 (by first | assumption | exact hH.g 0 rfl | exact hH.g 1 rfl | exact hH.g 2 rfl | exact hH.g 3 rfl | exact hH.g 4 rfl | exact hH.g 5 rfl | exact hH.g 6 rfl | exact hH.g 7 rfl | exact hH.g 8 rfl | exact hH.g 9 rfl | exact hH.g 10 rfl | exact hH.g 11 rfl | exact hH.g 12 rfl | exact hH.g 13 rfl | exact hH.g 14 rfl | exact hH.g 15 rfl | exact hH.g 16 rfl | exact hH.g 17 rfl | exact hH.g 18 rfl) (by rfl) ?_
                refine ax_iload_n d_Mo_makeLengths_149 rfl ?_
                refine ax_aload_n d_Mo_makeLengths_150 rfl ?_
                refine ax_get d_Mo_makeLengths_151 fg_Mo_53 (by first | assumption | exact hH.g 0 rfl | exact hH.g 1 rfl | exact hH.g 2 rfl | exact hH.g 3 rfl | exact hH.g 4 rfl | exact hH.g 5 rfl | exact hH.g 6 rfl | exact hH.g 7 rfl | exact hH.g 8 rfl | exact hH.g 9 rfl | exact hH.g 10 rfl | exact hH.g 11 rfl | exact hH.g 12 rfl | exact hH.g 13 rfl | exact hH.g 14 rfl | exact hH.g 15 rfl | exact hH.g 16 rfl | exact hH.g 17 rfl | exact hH.g 18 rfl) (by rfl) ?_
                refine ax_iload_n d_Mo_makeLengths_154 rfl ?_
                refine aj_lald d_Mo_makeLengths_155 (by first | assumption | exact hH.g 0 rfl | exact hH.g 1 rfl | exact hH.g 2 rfl | exact hH.g 3 rfl | exact hH.g 4 rfl | exact hH.g 5 rfl | exact hH.g 6 rfl | exact hH.g 7 rfl | exact hH.g 8 rfl | exact hH.g 9 rfl | exact hH.g 10 rfl | exact hH.g 11 rfl | exact hH.g 12 rfl | exact hH.g 13 rfl | exact hH.g 14 rfl | exact hH.g 15 rfl | exact hH.g 16 rfl | exact hH.g 17 rfl | exact hH.g 18 rfl) (by omega) (by omega) (by omega) ?_
                rw [hwk]
                refine aj_ldc2 2 d_Mo_makeLengths_156 cn_Mo_122 ?_
                refine aj_ldiv d_Mo_makeLengths_159 (by omega) (by omega) ?_
                refine aj_lconst 1 d_Mo_makeLengths_160 rfl ?_
                refine aj_ladd d_Mo_makeLengths_161 ?_
                first | refine ah_last d_Mo_makeLengths_162 hH hF 0 rfl rfl (by omega) (by omega) (by omega) (by omega) (fun h hH hF => ?_) | refine ah_last d_Mo_makeLengths_162 hH hF 1 rfl rfl (by omega) (by omega) (by omega) (by omega) (fun h hH hF => ?_) | refine ah_last d_Mo_makeLengths_162 hH hF 2 rfl rfl (by omega) (by omega) (by omega) (by omega) (fun h hH hF => ?_) | refine ah_last d_Mo_makeLengths_162 hH hF 3 rfl rfl (by omega) (by omega) (by omega) (by omega) (fun h hH hF => ?_) | refine ah_last d_Mo_makeLengths_162 hH hF 4 rfl rfl (by omega) (by omega) (by omega) (by omega) (fun h hH hF => ?_) | refine ah_last d_Mo_makeLengths_162 hH hF 5 rfl rfl (by omega) (by omega) (by omega) (by omega) (fun h hH hF => ?_) | refine ah_last d_Mo_makeLengths_162 hH hF 6 rfl rfl (by omega) (by omega) (by omega) (by omega) (fun h hH hF => ?_) | refine ah_last d_Mo_makeLengths_162 hH hF 7 rfl rfl (by omega) (by omega) (by omega) (by omega) (fun h hH hF => ?_) | refine ah_last d_Mo_makeLengths_162 hH hF 8 rfl rfl (by omega) (by omega) (by omega) (by omega) (fun h hH hF => ?_) | refine ah_last d_Mo_makeLengths_162 hH hF 9 rfl rfl (by omega) (by omega) (by omega) (by omega) (fun h hH hF => ?_) | refine ah_last d_Mo_makeLengths_162 hH hF 10 rfl rfl (by omega) (by omega) (by omega) (by omega) (fun h hH hF => ?_) | refine ah_last d_Mo_makeLengths_162 hH hF 11 rfl rfl (by omega) (by omega) (by omega) (by omega) (fun h hH hF => ?_) | refine ah_last d_Mo_makeLengths_162 hH hF 12 rfl rfl (by omega) (by omega) (by omega) (by omega) (fun h hH hF => ?_) | refine ah_last d_Mo_makeLengths_162 hH hF 13 rfl rfl (by omega) (by omega) (by omega) (by omega) (fun h hH hF => ?_) | refine ah_last d_Mo_makeLengths_162 hH hF 14 rfl rfl (by omega) (by omega) (by omega) (by omega) (fun h hH hF => ?_) | refine ah_last d_Mo_makeLengths_162 hH hF 15 rfl rfl (by omega) (by omega) (by omega) (by omega) (fun h hH hF => ?_) | refine ah_last d_Mo_makeLengths_162 hH hF 16 rfl rfl (by omega) (by omega) (by omega) (by omega) (fun h hH hF => ?_) | refine ah_last d_Mo_makeLengths_162 hH hF 17 rfl rfl (by omega) (by omega) (by omega) (by omega) (fun h hH hF => ?_) | refine ah_last d_Mo_makeLengths_162 hH hF 18 rfl rfl (by omega) (by omega) (by omega) (by omega) (fun h hH hF => ?_)
                refine az_iinc d_Mo_makeLengths_163 rfl (by decide) rfl ?_
                refine ax_goto 136 d_Mo_makeLengths_166 (by decide) ?_
                refine ih (k + 1) (upA ar3 21 (up (ar3 21) k (hv (wS ss) j k / 2 + 1))) h (by omega) hH hF (ka.up 21 _ rfl) (fun q hq => ?_)
                show up (ar3 21) k (hv (wS ss) j k / 2 + 1) q = _
                by_cases e : q = k
                · rw [e, up_at, if_pos (by omega)]
                  rfl
                · rw [up_ne e, hw q hq]
                  by_cases e2 : q < k
                  · rw [if_pos e2, if_pos (by omega)]
                  · rw [if_neg e2, if_neg (by omega)]
        -- are they good?
        have good : ∀ (g k : Nat) (b : Bool), k + g = n → (b = true ↔ ∀ q : Nat, q < k → lenH (hv (wS ss) j) n q ≤ 12) →
            ax_W m_Mo_makeLengths 2 104 [some (.ref 47), some (.int (iv n)), some (.int (iv (bz b))), some (.int (iv k))] [] h1 (fun r0 h1 => r0 = none ∧ (∃ ar1, MoH h1 iz ar1 ∧ KA [16, 17, 18, 19, 20, 21] ar ar1 ∧ (∀ k : Nat, k < n → ar1 16 k = lgT ss n k) ∧ (∀ k : Nat, k < n → ar1 17 k = codeV (lgT ss n) n k) ∧ okLg (lgT ss n) n) ∧ Fr MOS h0 h1) := by
          intro g
          induction g with
          | zero =>
            intro k b he hb
            have hk : k = n := by omega
            subst hk
            refine ax_iload_n d_Mo_makeLengths_104 rfl ?_
            refine ax_iload_n d_Mo_makeLengths_105 rfl ?_
            refine az_icmp_ge 134 d_Mo_makeLengths_106 (by decide) (by omega) (by omega) (fun hc => ?_) (fun hc => ?_)
            · refine az_iconst d_Mo_makeLengths_134 ?_
              refine ax_istore_n d_Mo_makeLengths_135 (by decide) rfl ?_
              cases b with
              | true =>
                have hgd : gd (wS ss) k j := hb.mp rfl
                have hjT := jT_eq (show j < 12 by omega) hgd hmin
                have hlT : ∀ q : Nat, q < k → ar2 16 q = lgT ss k q := fun q hq => by rw [h16 q hq, lgT, hjT]
                have hok : okLg (lgT ss k) k := fun q hq => by
                  rw [← hlT q hq, h16 q hq]
                  exact ⟨len_pos hn2 hp hq, hgd q hq⟩
                have eb : bz true = 1 := rfl
                rw [eb]
                refine ax_iload_n d_Mo_makeLengths_136 rfl ?_
                refine ax_iload_n d_Mo_makeLengths_137 rfl ?_
                refine az_icmp_ge 169 d_Mo_makeLengths_138 (by decide) (by omega) (by omega) (fun hc => ?_) (fun hc => ?_)
                · exfalso
                  omega
                · refine ax_iload_n d_Mo_makeLengths_141 rfl ?_
                  refine az_if_ne 169 d_Mo_makeLengths_142 (by decide) (by first | exact bz_in _ | omega) (fun hc => ?_) (fun hc => ?_)
                  · refine ax_goto 91 d_Mo_makeLengths_169 (by decide) ?_
                    refine ax_iload_n d_Mo_makeLengths_91 rfl ?_
                    refine az_if_ne 172 d_Mo_makeLengths_92 (by decide) (by first | exact bz_in _ | omega) (fun hc => ?_) (fun hc => ?_)
                    · refine ax_aload_n d_Mo_makeLengths_172 rfl ?_
                      refine ax_iload_n d_Mo_makeLengths_173 rfl ?_
                      refine ax_cV1 d_Mo_makeLengths_174 v_Mo_makeCodes lk_Mo_154 (by first | assumption | exact hH.g 0 rfl | exact hH.g 1 rfl | exact hH.g 2 rfl | exact hH.g 3 rfl | exact hH.g 4 rfl | exact hH.g 5 rfl | exact hH.g 6 rfl | exact hH.g 7 rfl | exact hH.g 8 rfl | exact hH.g 9 rfl | exact hH.g 10 rfl | exact hH.g 11 rfl | exact hH.g 12 rfl | exact hH.g 13 rfl | exact hH.g 14 rfl | exact hH.g 15 rfl | exact hH.g 16 rfl | exact hH.g 17 rfl | exact hH.g 18 rfl) (by decide) (Nat.le_of_ble_eq_true rfl) (cm_v (c_Mo_makeCodes hH hn hlT hok) (fun h5 hq => ?_))
                      obtain ⟨⟨ar5, hH5, ka5, h17⟩, hF5⟩ := hq
                      refine ax_vret d_Mo_makeLengths_177 rfl ?_
                      exact ⟨rfl, ⟨ar5, hH5, ka12.tr (ka5.wide rfl), fun q hq => by rw [ka5 16 rfl]; exact hlT q hq, h17, hok⟩, hF12.tr hF5⟩
                    · exfalso
                      omega
                  · exfalso
                    omega
              | false =>
                have hng : ¬ gd (wS ss) k j := fun w => by
                  have := hb.mpr w
                  cases this
                have eb : bz false = 0 := rfl
                rw [eb]
                exact half hng k 0 ar2 h1 (by omega) hH hF12 ka12 (fun q hq => by rw [if_neg (by omega)]; exact h21' q hq)
            · exfalso
              omega
          | succ g ih =>
            intro k b he hb
            have er : ar2 16 ((k : Int).toNat) = lenH (hv (wS ss) j) n k := h16 k (by omega)
            have lp := len_pos hn2 hp (show k < n by omega)
            have lu : lenH (hv (wS ss) j) n k ≤ 1000 := len_bd hn k
            have fin : ∀ c : Bool, (c = true ↔ lenH (hv (wS ss) j) n k ≤ 12) → ax_W m_Mo_makeLengths 2 126 [some (.ref 47), some (.int (iv n)), some (.int (iv (bz b))), some (.int (iv k))] [.int (iv (bz c)), .int (iv (bz b))] h1 (fun r0 h1 => r0 = none ∧ (∃ ar1, MoH h1 iz ar1 ∧ KA [16, 17, 18, 19, 20, 21] ar ar1 ∧ (∀ k : Nat, k < n → ar1 16 k = lgT ss n k) ∧ (∀ k : Nat, k < n → ar1 17 k = codeV (lgT ss n) n k) ∧ okLg (lgT ss n) n) ∧ Fr MOS h0 h1) := by
              intro c hc
              refine az_iand d_Mo_makeLengths_126 ?_
              rw [zand_bz]
              refine ax_istore_n d_Mo_makeLengths_127 (by decide) rfl ?_
              refine az_iinc d_Mo_makeLengths_128 rfl (by decide) rfl ?_
              refine ax_goto 104 d_Mo_makeLengths_131 (by decide) ?_
              refine ih (k + 1) (b && c) (by omega) ?_
              rw [Bool.and_eq_true, hb, hc]
              constructor
              · rintro ⟨q1, q2⟩ q hq
                by_cases e : q = k
                · rw [e]; exact q2
                · exact q1 q (by omega)
              · intro q1
                exact ⟨fun q hq => q1 q (by omega), q1 k (by omega)⟩
            refine ax_iload_n d_Mo_makeLengths_104 rfl ?_
            refine ax_iload_n d_Mo_makeLengths_105 rfl ?_
            refine az_icmp_ge 134 d_Mo_makeLengths_106 (by decide) (by omega) (by omega) (fun hc => ?_) (fun hc => ?_)
            · exfalso
              omega
            · refine ax_iload_n d_Mo_makeLengths_109 rfl ?_
              refine ax_aload_n d_Mo_makeLengths_110 rfl ?_
              refine ax_get d_Mo_makeLengths_111 fg_Mo_37 (by first | assumption | exact hH.g 0 rfl | exact hH.g 1 rfl | exact hH.g 2 rfl | exact hH.g 3 rfl | exact hH.g 4 rfl | exact hH.g 5 rfl | exact hH.g 6 rfl | exact hH.g 7 rfl | exact hH.g 8 rfl | exact hH.g 9 rfl | exact hH.g 10 rfl | exact hH.g 11 rfl | exact hH.g 12 rfl | exact hH.g 13 rfl | exact hH.g 14 rfl | exact hH.g 15 rfl | exact hH.g 16 rfl | exact hH.g 17 rfl | exact hH.g 18 rfl) (by rfl) ?_
              refine ax_iload_n d_Mo_makeLengths_114 rfl ?_
              refine az_iald d_Mo_makeLengths_115 (by first | assumption | exact hH.g 0 rfl | exact hH.g 1 rfl | exact hH.g 2 rfl | exact hH.g 3 rfl | exact hH.g 4 rfl | exact hH.g 5 rfl | exact hH.g 6 rfl | exact hH.g 7 rfl | exact hH.g 8 rfl | exact hH.g 9 rfl | exact hH.g 10 rfl | exact hH.g 11 rfl | exact hH.g 12 rfl | exact hH.g 13 rfl | exact hH.g 14 rfl | exact hH.g 15 rfl | exact hH.g 16 rfl | exact hH.g 17 rfl | exact hH.g 18 rfl) (by omega) (by omega) (by omega) ?_
              rw [er]
              refine az_bipush _ d_Mo_makeLengths_116 (by decide) ?_
              refine az_icmp_gt 125 d_Mo_makeLengths_118 (by decide) (by omega) (by omega) (fun hgt => ?_) (fun hgt => ?_)
              · refine az_iconst d_Mo_makeLengths_125 ?_
                exact fin false ⟨fun q => (by cases q), fun q => by omega⟩
              · refine az_iconst d_Mo_makeLengths_121 ?_
                refine ax_goto 126 d_Mo_makeLengths_122 (by decide) ?_
                exact fin true ⟨fun q => by omega, fun q => rfl⟩
        refine az_iconst d_Mo_makeLengths_100 ?_
        refine ax_istore_n d_Mo_makeLengths_101 (by decide) rfl ?_
        refine az_iconst d_Mo_makeLengths_102 ?_
        refine ax_istore_n d_Mo_makeLengths_103 (by decide) rfl ?_
        exact good n 0 true (by omega) ⟨fun _ q hq => by omega, fun _ => rfl⟩
    intro f
    induction f with
    | zero =>
      intro j ar1 h he hH hF ka h21 hmin v3
      exact body j ar1 h (by omega) hH hF ka h21 hmin (fun _ _ _ hj => by omega) v3
    | succ f ih =>
      intro j ar1 h he hH hF ka h21 hmin v3
      exact body j ar1 h (by omega) hH hF ka h21 hmin (fun ar1 h v3 hj hH hF ka h21 hmin => ih (j + 1) ar1 h (by omega) hH hF ka h21 hmin v3) v3
  -- no weight is nought
  have ones : ∀ (f k : Nat) (ar1 : Nat → Nat → Int) (h : ax_H), k + f = n → MoH h iz ar1 → Fr MOS h0 h → KA [16, 17, 18, 19, 20, 21] ar ar1 → (∀ q : Nat, q < n → ar1 21 q = if q < k then wS ss q else (cE ss ss.length q : Int)) →
      ax_W m_Mo_makeLengths 2 60 [some (.ref 47), some (.int (iv n)), some (.int (iv k)), none] [] h (fun r0 h1 => r0 = none ∧ (∃ ar1, MoH h1 iz ar1 ∧ KA [16, 17, 18, 19, 20, 21] ar ar1 ∧ (∀ k : Nat, k < n → ar1 16 k = lgT ss n k) ∧ (∀ k : Nat, k < n → ar1 17 k = codeV (lgT ss n) n k) ∧ okLg (lgT ss n) n) ∧ Fr MOS h0 h1) := by
    intro f
    induction f with
    | zero =>
      intro k ar1 h he hH hF ka hw
      refine ax_iload_n d_Mo_makeLengths_60 rfl ?_
      refine ax_iload_n d_Mo_makeLengths_61 rfl ?_
      refine az_icmp_ge 89 d_Mo_makeLengths_62 (by decide) (by omega) (by omega) (fun hc => ?_) (fun hc => ?_)
      · refine az_iconst d_Mo_makeLengths_89 ?_
        refine ax_istore_n d_Mo_makeLengths_90 (by decide) rfl ?_
        exact outer 11 0 ar1 h (by omega) hH hF ka (fun q hq => by rw [hw q hq, if_pos (by omega)]; rfl) (fun i hi => by omega) _
      · exfalso
        omega
    | succ f ih =>
      intro k ar1 h he hH hF ka hw
      have hwk : ar1 21 ((k : Int).toNat) = (cE ss ss.length k : Int) := by
        rw [show ((k : Nat) : Int).toNat = k by omega, hw k (by omega), if_neg (by omega)]
      have hce : cE ss ss.length k ≤ ss.length := cnt_le _ _
      have hcm := cmp3_sp (cE ss ss.length k : Int) 0
      refine ax_iload_n d_Mo_makeLengths_60 rfl ?_
      refine ax_iload_n d_Mo_makeLengths_61 rfl ?_
      refine az_icmp_ge 89 d_Mo_makeLengths_62 (by decide) (by omega) (by omega) (fun hc => ?_) (fun hc => ?_)
      · exfalso
        omega
      · refine ax_aload_n d_Mo_makeLengths_65 rfl ?_
        refine ax_get d_Mo_makeLengths_66 fg_Mo_53 (by first | assumption | exact hH.g 0 rfl | exact hH.g 1 rfl | exact hH.g 2 rfl | exact hH.g 3 rfl | exact hH.g 4 rfl | exact hH.g 5 rfl | exact hH.g 6 rfl | exact hH.g 7 rfl | exact hH.g 8 rfl | exact hH.g 9 rfl | exact hH.g 10 rfl | exact hH.g 11 rfl | exact hH.g 12 rfl | exact hH.g 13 rfl | exact hH.g 14 rfl | exact hH.g 15 rfl | exact hH.g 16 rfl | exact hH.g 17 rfl | exact hH.g 18 rfl) (by rfl) ?_
        refine ax_iload_n d_Mo_makeLengths_69 rfl ?_
        refine aj_lald d_Mo_makeLengths_70 (by first | assumption | exact hH.g 0 rfl | exact hH.g 1 rfl | exact hH.g 2 rfl | exact hH.g 3 rfl | exact hH.g 4 rfl | exact hH.g 5 rfl | exact hH.g 6 rfl | exact hH.g 7 rfl | exact hH.g 8 rfl | exact hH.g 9 rfl | exact hH.g 10 rfl | exact hH.g 11 rfl | exact hH.g 12 rfl | exact hH.g 13 rfl | exact hH.g 14 rfl | exact hH.g 15 rfl | exact hH.g 16 rfl | exact hH.g 17 rfl | exact hH.g 18 rfl) (by omega) (by omega) (by omega) ?_
        rw [hwk]
        refine aj_lconst 0 d_Mo_makeLengths_71 rfl ?_
        refine aj_lcmp d_Mo_makeLengths_72 (by omega) (by omega) ?_
        refine az_if_ne 83 d_Mo_makeLengths_73 (by decide) (by first | exact bz_in _ | omega) (fun hz => ?_) (fun hz => ?_)
        · refine az_iinc d_Mo_makeLengths_83 rfl (by decide) rfl ?_
          refine ax_goto 60 d_Mo_makeLengths_86 (by decide) ?_
          refine ih (k + 1) ar1 h (by omega) hH hF ka (fun q hq => ?_)
          rw [hw q hq]
          by_cases e : q = k
          · rw [e, if_neg (by omega), if_pos (by omega), wS]
            omega
          · by_cases e2 : q < k
            · rw [if_pos e2, if_pos (by omega)]
            · rw [if_neg e2, if_neg (by omega)]
        · refine ax_aload_n d_Mo_makeLengths_76 rfl ?_
          refine ax_get d_Mo_makeLengths_77 fg_Mo_53 (by first | assumption | exact hH.g 0 rfl | exact hH.g 1 rfl | exact hH.g 2 rfl | exact hH.g 3 rfl | exact hH.g 4 rfl | exact hH.g 5 rfl | exact hH.g 6 rfl | exact hH.g 7 rfl | exact hH.g 8 rfl | exact hH.g 9 rfl | exact hH.g 10 rfl | exact hH.g 11 rfl | exact hH.g 12 rfl | exact hH.g 13 rfl | exact hH.g 14 rfl | exact hH.g 15 rfl | exact hH.g 16 rfl | exact hH.g 17 rfl | exact hH.g 18 rfl) (by rfl) ?_
          refine ax_iload_n d_Mo_makeLengths_80 rfl ?_
          refine aj_lconst 1 d_Mo_makeLengths_81 rfl ?_
          first | refine ah_last d_Mo_makeLengths_82 hH hF 0 rfl rfl (by omega) (by omega) (by omega) (by omega) (fun h hH hF => ?_) | refine ah_last d_Mo_makeLengths_82 hH hF 1 rfl rfl (by omega) (by omega) (by omega) (by omega) (fun h hH hF => ?_) | refine ah_last d_Mo_makeLengths_82 hH hF 2 rfl rfl (by omega) (by omega) (by omega) (by omega) (fun h hH hF => ?_) | refine ah_last d_Mo_makeLengths_82 hH hF 3 rfl rfl (by omega) (by omega) (by omega) (by omega) (fun h hH hF => ?_) | refine ah_last d_Mo_makeLengths_82 hH hF 4 rfl rfl (by omega) (by omega) (by omega) (by omega) (fun h hH hF => ?_) | refine ah_last d_Mo_makeLengths_82 hH hF 5 rfl rfl (by omega) (by omega) (by omega) (by omega) (fun h hH hF => ?_) | refine ah_last d_Mo_makeLengths_82 hH hF 6 rfl rfl (by omega) (by omega) (by omega) (by omega) (fun h hH hF => ?_) | refine ah_last d_Mo_makeLengths_82 hH hF 7 rfl rfl (by omega) (by omega) (by omega) (by omega) (fun h hH hF => ?_) | refine ah_last d_Mo_makeLengths_82 hH hF 8 rfl rfl (by omega) (by omega) (by omega) (by omega) (fun h hH hF => ?_) | refine ah_last d_Mo_makeLengths_82 hH hF 9 rfl rfl (by omega) (by omega) (by omega) (by omega) (fun h hH hF => ?_) | refine ah_last d_Mo_makeLengths_82 hH hF 10 rfl rfl (by omega) (by omega) (by omega) (by omega) (fun h hH hF => ?_) | refine ah_last d_Mo_makeLengths_82 hH hF 11 rfl rfl (by omega) (by omega) (by omega) (by omega) (fun h hH hF => ?_) | refine ah_last d_Mo_makeLengths_82 hH hF 12 rfl rfl (by omega) (by omega) (by omega) (by omega) (fun h hH hF => ?_) | refine ah_last d_Mo_makeLengths_82 hH hF 13 rfl rfl (by omega) (by omega) (by omega) (by omega) (fun h hH hF => ?_) | refine ah_last d_Mo_makeLengths_82 hH hF 14 rfl rfl (by omega) (by omega) (by omega) (by omega) (fun h hH hF => ?_) | refine ah_last d_Mo_makeLengths_82 hH hF 15 rfl rfl (by omega) (by omega) (by omega) (by omega) (fun h hH hF => ?_) | refine ah_last d_Mo_makeLengths_82 hH hF 16 rfl rfl (by omega) (by omega) (by omega) (by omega) (fun h hH hF => ?_) | refine ah_last d_Mo_makeLengths_82 hH hF 17 rfl rfl (by omega) (by omega) (by omega) (by omega) (fun h hH hF => ?_) | refine ah_last d_Mo_makeLengths_82 hH hF 18 rfl rfl (by omega) (by omega) (by omega) (by omega) (fun h hH hF => ?_)
          refine az_iinc d_Mo_makeLengths_83 rfl (by decide) rfl ?_
          refine ax_goto 60 d_Mo_makeLengths_86 (by decide) ?_
          refine ih (k + 1) (upA ar1 21 (up (ar1 21) k 1)) h (by omega) hH hF (ka.up 21 _ rfl) (fun q hq => ?_)
          show up (ar1 21) k 1 q = _
          by_cases e : q = k
          · rw [e, up_at, if_pos (by omega), wS]
            omega
          · rw [up_ne e, hw q hq]
            by_cases e2 : q < k
            · rw [if_pos e2, if_pos (by omega)]
            · rw [if_neg e2, if_neg (by omega)]
  -- counting
  have count : ∀ (f i : Nat) (ar1 : Nat → Nat → Int) (h : ax_H), i + f = ss.length → MoH h iz ar1 → Fr MOS h0 h → KA [16, 17, 18, 19, 20, 21] ar ar1 → (∀ q : Nat, q < n → ar1 21 q = (cE ss i q : Int)) →
      ax_W m_Mo_makeLengths 2 29 [some (.ref 47), some (.int (iv n)), some (.int (iv i)), none] [] h (fun r0 h1 => r0 = none ∧ (∃ ar1, MoH h1 iz ar1 ∧ KA [16, 17, 18, 19, 20, 21] ar ar1 ∧ (∀ k : Nat, k < n → ar1 16 k = lgT ss n k) ∧ (∀ k : Nat, k < n → ar1 17 k = codeV (lgT ss n) n k) ∧ okLg (lgT ss n) n) ∧ Fr MOS h0 h1) := by
    intro f
    induction f with
    | zero =>
      intro i ar1 h he hH hF ka hw
      refine ax_iload_n d_Mo_makeLengths_29 rfl ?_
      refine ax_aload_n d_Mo_makeLengths_30 rfl ?_
      refine ax_get d_Mo_makeLengths_31 fg_Mo_135 (by first | assumption | exact hH.g 0 rfl | exact hH.g 1 rfl | exact hH.g 2 rfl | exact hH.g 3 rfl | exact hH.g 4 rfl | exact hH.g 5 rfl | exact hH.g 6 rfl | exact hH.g 7 rfl | exact hH.g 8 rfl | exact hH.g 9 rfl | exact hH.g 10 rfl | exact hH.g 11 rfl | exact hH.g 12 rfl | exact hH.g 13 rfl | exact hH.g 14 rfl | exact hH.g 15 rfl | exact hH.g 16 rfl | exact hH.g 17 rfl | exact hH.g 18 rfl) (by rfl) ?_
      refine az_icmp_ge 58 d_Mo_makeLengths_34 (by decide) (by omega) (by omega) (fun hc => ?_) (fun hc => ?_)
      · refine az_iconst d_Mo_makeLengths_58 ?_
        refine ax_istore_n d_Mo_makeLengths_59 (by decide) rfl ?_
        exact ones n 0 ar1 h (by omega) hH hF ka (fun q hq => by rw [hw q hq, if_neg (by omega), show i = ss.length by omega])
      · exfalso
        omega
    | succ f ih =>
      intro i ar1 h he hH hF ka hw
      have a15 := ka 15 rfl
      have es : ar1 15 ((i : Int).toNat) = gx ss i := by rw [a15]; exact hs i (by omega)
      have hsi := hin (gx ss i) (inL_mem ⟨i, by omega, rfl⟩)
      obtain ⟨c, hcc⟩ := Int.eq_ofNat_of_zero_le hsi.1
      have hcs := cE_succ ss i
      have hwc : ar1 21 ((c : Int).toNat) = (cE ss i c : Int) := hw c (by omega)
      refine ax_iload_n d_Mo_makeLengths_29 rfl ?_
      refine ax_aload_n d_Mo_makeLengths_30 rfl ?_
      refine ax_get d_Mo_makeLengths_31 fg_Mo_135 (by first | assumption | exact hH.g 0 rfl | exact hH.g 1 rfl | exact hH.g 2 rfl | exact hH.g 3 rfl | exact hH.g 4 rfl | exact hH.g 5 rfl | exact hH.g 6 rfl | exact hH.g 7 rfl | exact hH.g 8 rfl | exact hH.g 9 rfl | exact hH.g 10 rfl | exact hH.g 11 rfl | exact hH.g 12 rfl | exact hH.g 13 rfl | exact hH.g 14 rfl | exact hH.g 15 rfl | exact hH.g 16 rfl | exact hH.g 17 rfl | exact hH.g 18 rfl) (by rfl) ?_
      refine az_icmp_ge 58 d_Mo_makeLengths_34 (by decide) (by omega) (by omega) (fun hc => ?_) (fun hc => ?_)
      · exfalso
        omega
      · refine ax_aload_n d_Mo_makeLengths_37 rfl ?_
        refine ax_get d_Mo_makeLengths_38 fg_Mo_53 (by first | assumption | exact hH.g 0 rfl | exact hH.g 1 rfl | exact hH.g 2 rfl | exact hH.g 3 rfl | exact hH.g 4 rfl | exact hH.g 5 rfl | exact hH.g 6 rfl | exact hH.g 7 rfl | exact hH.g 8 rfl | exact hH.g 9 rfl | exact hH.g 10 rfl | exact hH.g 11 rfl | exact hH.g 12 rfl | exact hH.g 13 rfl | exact hH.g 14 rfl | exact hH.g 15 rfl | exact hH.g 16 rfl | exact hH.g 17 rfl | exact hH.g 18 rfl) (by rfl) ?_
        refine ax_aload_n d_Mo_makeLengths_41 rfl ?_
        refine ax_get d_Mo_makeLengths_42 fg_Mo_34 (by first | assumption | exact hH.g 0 rfl | exact hH.g 1 rfl | exact hH.g 2 rfl | exact hH.g 3 rfl | exact hH.g 4 rfl | exact hH.g 5 rfl | exact hH.g 6 rfl | exact hH.g 7 rfl | exact hH.g 8 rfl | exact hH.g 9 rfl | exact hH.g 10 rfl | exact hH.g 11 rfl | exact hH.g 12 rfl | exact hH.g 13 rfl | exact hH.g 14 rfl | exact hH.g 15 rfl | exact hH.g 16 rfl | exact hH.g 17 rfl | exact hH.g 18 rfl) (by rfl) ?_
        refine ax_iload_n d_Mo_makeLengths_45 rfl ?_
        refine az_iald d_Mo_makeLengths_46 (by first | assumption | exact hH.g 0 rfl | exact hH.g 1 rfl | exact hH.g 2 rfl | exact hH.g 3 rfl | exact hH.g 4 rfl | exact hH.g 5 rfl | exact hH.g 6 rfl | exact hH.g 7 rfl | exact hH.g 8 rfl | exact hH.g 9 rfl | exact hH.g 10 rfl | exact hH.g 11 rfl | exact hH.g 12 rfl | exact hH.g 13 rfl | exact hH.g 14 rfl | exact hH.g 15 rfl | exact hH.g 16 rfl | exact hH.g 17 rfl | exact hH.g 18 rfl) (by omega) (by omega) (by omega) ?_
        rw [es, hcc]
        refine ax_dup2 d_Mo_makeLengths_47 rfl rfl ?_
        refine aj_lald d_Mo_makeLengths_48 (by first | assumption | exact hH.g 0 rfl | exact hH.g 1 rfl | exact hH.g 2 rfl | exact hH.g 3 rfl | exact hH.g 4 rfl | exact hH.g 5 rfl | exact hH.g 6 rfl | exact hH.g 7 rfl | exact hH.g 8 rfl | exact hH.g 9 rfl | exact hH.g 10 rfl | exact hH.g 11 rfl | exact hH.g 12 rfl | exact hH.g 13 rfl | exact hH.g 14 rfl | exact hH.g 15 rfl | exact hH.g 16 rfl | exact hH.g 17 rfl | exact hH.g 18 rfl) (by omega) (by omega) (by omega) ?_
        rw [hwc]
        refine aj_lconst 1 d_Mo_makeLengths_49 rfl ?_
        refine aj_ladd d_Mo_makeLengths_50 ?_
        first | refine ah_last d_Mo_makeLengths_51 hH hF 0 rfl rfl (by omega) (by omega) (by omega) (by omega) (fun h hH hF => ?_) | refine ah_last d_Mo_makeLengths_51 hH hF 1 rfl rfl (by omega) (by omega) (by omega) (by omega) (fun h hH hF => ?_) | refine ah_last d_Mo_makeLengths_51 hH hF 2 rfl rfl (by omega) (by omega) (by omega) (by omega) (fun h hH hF => ?_) | refine ah_last d_Mo_makeLengths_51 hH hF 3 rfl rfl (by omega) (by omega) (by omega) (by omega) (fun h hH hF => ?_) | refine ah_last d_Mo_makeLengths_51 hH hF 4 rfl rfl (by omega) (by omega) (by omega) (by omega) (fun h hH hF => ?_) | refine ah_last d_Mo_makeLengths_51 hH hF 5 rfl rfl (by omega) (by omega) (by omega) (by omega) (fun h hH hF => ?_) | refine ah_last d_Mo_makeLengths_51 hH hF 6 rfl rfl (by omega) (by omega) (by omega) (by omega) (fun h hH hF => ?_) | refine ah_last d_Mo_makeLengths_51 hH hF 7 rfl rfl (by omega) (by omega) (by omega) (by omega) (fun h hH hF => ?_) | refine ah_last d_Mo_makeLengths_51 hH hF 8 rfl rfl (by omega) (by omega) (by omega) (by omega) (fun h hH hF => ?_) | refine ah_last d_Mo_makeLengths_51 hH hF 9 rfl rfl (by omega) (by omega) (by omega) (by omega) (fun h hH hF => ?_) | refine ah_last d_Mo_makeLengths_51 hH hF 10 rfl rfl (by omega) (by omega) (by omega) (by omega) (fun h hH hF => ?_) | refine ah_last d_Mo_makeLengths_51 hH hF 11 rfl rfl (by omega) (by omega) (by omega) (by omega) (fun h hH hF => ?_) | refine ah_last d_Mo_makeLengths_51 hH hF 12 rfl rfl (by omega) (by omega) (by omega) (by omega) (fun h hH hF => ?_) | refine ah_last d_Mo_makeLengths_51 hH hF 13 rfl rfl (by omega) (by omega) (by omega) (by omega) (fun h hH hF => ?_) | refine ah_last d_Mo_makeLengths_51 hH hF 14 rfl rfl (by omega) (by omega) (by omega) (by omega) (fun h hH hF => ?_) | refine ah_last d_Mo_makeLengths_51 hH hF 15 rfl rfl (by omega) (by omega) (by omega) (by omega) (fun h hH hF => ?_) | refine ah_last d_Mo_makeLengths_51 hH hF 16 rfl rfl (by omega) (by omega) (by omega) (by omega) (fun h hH hF => ?_) | refine ah_last d_Mo_makeLengths_51 hH hF 17 rfl rfl (by omega) (by omega) (by omega) (by omega) (fun h hH hF => ?_) | refine ah_last d_Mo_makeLengths_51 hH hF 18 rfl rfl (by omega) (by omega) (by omega) (by omega) (fun h hH hF => ?_)
        refine az_iinc d_Mo_makeLengths_52 rfl (by decide) rfl ?_
        refine ax_goto 29 d_Mo_makeLengths_55 (by decide) ?_
        refine ih (i + 1) (upA ar1 21 (up (ar1 21) c ((cE ss i c : Int) + 1))) h (by omega) hH hF (ka.up 21 _ rfl) (fun q hq => ?_)
        show up (ar1 21) c ((cE ss i c : Int) + 1) q = _
        rw [hcs]
        by_cases e : q = c
        · rw [e, up_at, if_pos hcc]
          omega
        · rw [up_ne e, hw q hq, if_neg (by omega)]
          rfl
  have zero : ∀ (f k : Nat) (ar1 : Nat → Nat → Int) (h : ax_H), k + f = n → MoH h iz ar1 → Fr MOS h0 h → KA [16, 17, 18, 19, 20, 21] ar ar1 → (∀ q : Nat, q < k → ar1 21 q = 0) →
      ax_W m_Mo_makeLengths 2 9 [some (.ref 47), some (.int (iv n)), some (.int (iv k)), none] [] h (fun r0 h1 => r0 = none ∧ (∃ ar1, MoH h1 iz ar1 ∧ KA [16, 17, 18, 19, 20, 21] ar ar1 ∧ (∀ k : Nat, k < n → ar1 16 k = lgT ss n k) ∧ (∀ k : Nat, k < n → ar1 17 k = codeV (lgT ss n) n k) ∧ okLg (lgT ss n) n) ∧ Fr MOS h0 h1) := by
    intro f
    induction f with
    | zero =>
      intro k ar1 h he hH hF ka hw
      refine ax_iload_n d_Mo_makeLengths_9 rfl ?_
      refine ax_iload_n d_Mo_makeLengths_10 rfl ?_
      refine az_icmp_ge 27 d_Mo_makeLengths_11 (by decide) (by omega) (by omega) (fun hc => ?_) (fun hc => ?_)
      · refine az_iconst d_Mo_makeLengths_27 ?_
        refine ax_istore_n d_Mo_makeLengths_28 (by decide) rfl ?_
        exact count ss.length 0 ar1 h (by omega) hH hF ka (fun q hq => by rw [hw q (by omega)]; rfl)
      · exfalso
        omega
    | succ f ih =>
      intro k ar1 h he hH hF ka hw
      refine ax_iload_n d_Mo_makeLengths_9 rfl ?_
      refine ax_iload_n d_Mo_makeLengths_10 rfl ?_
      refine az_icmp_ge 27 d_Mo_makeLengths_11 (by decide) (by omega) (by omega) (fun hc => ?_) (fun hc => ?_)
      · exfalso
        omega
      · refine ax_aload_n d_Mo_makeLengths_14 rfl ?_
        refine ax_get d_Mo_makeLengths_15 fg_Mo_53 (by first | assumption | exact hH.g 0 rfl | exact hH.g 1 rfl | exact hH.g 2 rfl | exact hH.g 3 rfl | exact hH.g 4 rfl | exact hH.g 5 rfl | exact hH.g 6 rfl | exact hH.g 7 rfl | exact hH.g 8 rfl | exact hH.g 9 rfl | exact hH.g 10 rfl | exact hH.g 11 rfl | exact hH.g 12 rfl | exact hH.g 13 rfl | exact hH.g 14 rfl | exact hH.g 15 rfl | exact hH.g 16 rfl | exact hH.g 17 rfl | exact hH.g 18 rfl) (by rfl) ?_
        refine ax_iload_n d_Mo_makeLengths_18 rfl ?_
        refine aj_lconst 0 d_Mo_makeLengths_19 rfl ?_
        first | refine ah_last d_Mo_makeLengths_20 hH hF 0 rfl rfl (by omega) (by omega) (by omega) (by omega) (fun h hH hF => ?_) | refine ah_last d_Mo_makeLengths_20 hH hF 1 rfl rfl (by omega) (by omega) (by omega) (by omega) (fun h hH hF => ?_) | refine ah_last d_Mo_makeLengths_20 hH hF 2 rfl rfl (by omega) (by omega) (by omega) (by omega) (fun h hH hF => ?_) | refine ah_last d_Mo_makeLengths_20 hH hF 3 rfl rfl (by omega) (by omega) (by omega) (by omega) (fun h hH hF => ?_) | refine ah_last d_Mo_makeLengths_20 hH hF 4 rfl rfl (by omega) (by omega) (by omega) (by omega) (fun h hH hF => ?_) | refine ah_last d_Mo_makeLengths_20 hH hF 5 rfl rfl (by omega) (by omega) (by omega) (by omega) (fun h hH hF => ?_) | refine ah_last d_Mo_makeLengths_20 hH hF 6 rfl rfl (by omega) (by omega) (by omega) (by omega) (fun h hH hF => ?_) | refine ah_last d_Mo_makeLengths_20 hH hF 7 rfl rfl (by omega) (by omega) (by omega) (by omega) (fun h hH hF => ?_) | refine ah_last d_Mo_makeLengths_20 hH hF 8 rfl rfl (by omega) (by omega) (by omega) (by omega) (fun h hH hF => ?_) | refine ah_last d_Mo_makeLengths_20 hH hF 9 rfl rfl (by omega) (by omega) (by omega) (by omega) (fun h hH hF => ?_) | refine ah_last d_Mo_makeLengths_20 hH hF 10 rfl rfl (by omega) (by omega) (by omega) (by omega) (fun h hH hF => ?_) | refine ah_last d_Mo_makeLengths_20 hH hF 11 rfl rfl (by omega) (by omega) (by omega) (by omega) (fun h hH hF => ?_) | refine ah_last d_Mo_makeLengths_20 hH hF 12 rfl rfl (by omega) (by omega) (by omega) (by omega) (fun h hH hF => ?_) | refine ah_last d_Mo_makeLengths_20 hH hF 13 rfl rfl (by omega) (by omega) (by omega) (by omega) (fun h hH hF => ?_) | refine ah_last d_Mo_makeLengths_20 hH hF 14 rfl rfl (by omega) (by omega) (by omega) (by omega) (fun h hH hF => ?_) | refine ah_last d_Mo_makeLengths_20 hH hF 15 rfl rfl (by omega) (by omega) (by omega) (by omega) (fun h hH hF => ?_) | refine ah_last d_Mo_makeLengths_20 hH hF 16 rfl rfl (by omega) (by omega) (by omega) (by omega) (fun h hH hF => ?_) | refine ah_last d_Mo_makeLengths_20 hH hF 17 rfl rfl (by omega) (by omega) (by omega) (by omega) (fun h hH hF => ?_) | refine ah_last d_Mo_makeLengths_20 hH hF 18 rfl rfl (by omega) (by omega) (by omega) (by omega) (fun h hH hF => ?_)
        refine az_iinc d_Mo_makeLengths_21 rfl (by decide) rfl ?_
        refine ax_goto 9 d_Mo_makeLengths_24 (by decide) ?_
        refine ih (k + 1) (upA ar1 21 (up (ar1 21) k 0)) h (by omega) hH hF (ka.up 21 _ rfl) (fun q hq => ?_)
        show up (ar1 21) k 0 q = _
        by_cases e : q = k
        · rw [e, up_at]
        · rw [up_ne e]; exact hw q (by omega)
  exact zero n 0 ar h0 (by omega) hH hF KA.rf (fun q hq => by omega)
/-- the row's symbols and codes are made -/
def CodS (iz : Nat → Int) (ar : Nat → Nat → Int) (xs : List Int) : Prop := iz 12 = (lst xs).length ∧ iz 14 = (sy xs).length ∧ la (ar 15) (sy xs) ∧ (∀ k : Nat, k < nT xs → ar 16 k = lgR xs k) ∧ (∀ k : Nat, k < nT xs → ar 17 k = vlR xs k) ∧ okLg (lgR xs) (nT xs)
set_option maxRecDepth 100000 in
theorem c_Mo_symbol {h0 : ax_H} {xs T out : List Int} {fp : Int} (hM : MoI h0 xs T out fp) {i : Int} (hi : -2147483648 ≤ i ∧ i < 2147483648) : ax_Ci m_Mo_symbol 2 [.ref 47, .int (iv i)] h0 (fun z h1 => z = rAt (sy xs) i ∧ MoI h1 xs T out fp ∧ Fr MOS h0 h1) := by
  obtain ⟨iz, ar, hH, hQ⟩ := hM
  obtain ⟨q0, q1, q2, q3, -⟩ := id hQ
  have hsl := sy_len xs
  unfold rAt
  refine ax_enter [some (.ref 47), some (.int (iv i))] rfl (Nat.le_of_ble_eq_true rfl) (by decide) ?_
  refine ax_aload_n d_Mo_symbol_0 rfl ?_
  refine ax_cV0 d_Mo_symbol_1 v_Mo_takeBlock lk_Mo_101 (by first | assumption | exact hH.g 0 rfl | exact hH.g 1 rfl | exact hH.g 2 rfl | exact hH.g 3 rfl | exact hH.g 4 rfl | exact hH.g 5 rfl | exact hH.g 6 rfl | exact hH.g 7 rfl | exact hH.g 8 rfl | exact hH.g 9 rfl | exact hH.g 10 rfl | exact hH.g 11 rfl | exact hH.g 12 rfl | exact hH.g 13 rfl | exact hH.g 14 rfl | exact hH.g 15 rfl | exact hH.g 16 rfl | exact hH.g 17 rfl | exact hH.g 18 rfl) (by decide) (Nat.le_of_ble_eq_true rfl) (cm_v (c_Mo_takeBlock hH q0 q1 q2) (fun h1 hq => ?_))
  obtain ⟨⟨iz1, ar1, hH1, ki1, ka1, e2, hl1⟩, hF1⟩ := hq
  have hH := hH1
  have hR1 : RwS iz1 ar1 xs := ⟨e2, by omega, hl1, q3⟩
  refine ax_aload_n d_Mo_symbol_4 rfl ?_
  refine ax_cV0 d_Mo_symbol_5 v_Mo_makeSymbols lk_Mo_160 (by first | assumption | exact hH.g 0 rfl | exact hH.g 1 rfl | exact hH.g 2 rfl | exact hH.g 3 rfl | exact hH.g 4 rfl | exact hH.g 5 rfl | exact hH.g 6 rfl | exact hH.g 7 rfl | exact hH.g 8 rfl | exact hH.g 9 rfl | exact hH.g 10 rfl | exact hH.g 11 rfl | exact hH.g 12 rfl | exact hH.g 13 rfl | exact hH.g 14 rfl | exact hH.g 15 rfl | exact hH.g 16 rfl | exact hH.g 17 rfl | exact hH.g 18 rfl) (by decide) (Nat.le_of_ble_eq_true rfl) (cm_v (c_Mo_makeSymbols hH hR1) (fun h2 hq => ?_))
  obtain ⟨⟨iz2, ar2, hH2, ki2, ka2, e12, e14, hss⟩, hF2⟩ := hq
  have hH := hH2
  have hM2 : MoI h2 xs T out fp := ⟨iz2, ar2, hH2, hQ.fr (K := [2, 12, 14]) (K' := [3, 13, 15]) ((ki1.wide rfl).tr (ki2.wide rfl)) ((ka1.wide rfl).tr (ka2.wide rfl)) rfl rfl⟩
  have hF12 := hF1.tr hF2
  refine ax_iload_n d_Mo_symbol_8 rfl ?_
  refine aj_i2l d_Mo_symbol_9 (by omega) ?_
  refine aj_lconst 0 d_Mo_symbol_10 rfl ?_
  refine ax_aload_n d_Mo_symbol_11 rfl ?_
  refine ax_get d_Mo_symbol_12 fg_Mo_135 (by first | assumption | exact hH.g 0 rfl | exact hH.g 1 rfl | exact hH.g 2 rfl | exact hH.g 3 rfl | exact hH.g 4 rfl | exact hH.g 5 rfl | exact hH.g 6 rfl | exact hH.g 7 rfl | exact hH.g 8 rfl | exact hH.g 9 rfl | exact hH.g 10 rfl | exact hH.g 11 rfl | exact hH.g 12 rfl | exact hH.g 13 rfl | exact hH.g 14 rfl | exact hH.g 15 rfl | exact hH.g 16 rfl | exact hH.g 17 rfl | exact hH.g 18 rfl) (by rfl) ?_
  refine az_iconst d_Mo_symbol_15 ?_
  refine az_isub d_Mo_symbol_16 ?_
  refine aj_i2l d_Mo_symbol_17 (by omega) ?_
  refine ax_cS3 d_Mo_symbol_18 s_Mo_isIn lk_Mo_72 (by decide) (Nat.le_of_ble_eq_true rfl) (cm_z (c_Mo_isIn (v := i) (a := 0) (b := iz2 14 - 1) (by omega) (by omega) (by omega)) (fun b h3 hq => ?_))
  obtain ⟨rfl, rfl⟩ := hq
  refine az_if_eq 33 d_Mo_symbol_21 (by decide) (bz_in _) (fun hcb => ?_) (fun hcb => ?_)
  · have hin := of_decide_eq_false (bz_f hcb)
    rw [if_neg (by omega)]
    refine az_bipush _ d_Mo_symbol_33 (by decide) ?_
    refine ax_iret d_Mo_symbol_35 rfl ?_
    exact ⟨_, rfl, rfl, hM2, hF12⟩
  · have hin := of_decide_eq_true (bz_t hcb)
    rw [if_pos (by omega)]
    refine ax_aload_n d_Mo_symbol_24 rfl ?_
    refine ax_get d_Mo_symbol_25 fg_Mo_34 (by first | assumption | exact hH.g 0 rfl | exact hH.g 1 rfl | exact hH.g 2 rfl | exact hH.g 3 rfl | exact hH.g 4 rfl | exact hH.g 5 rfl | exact hH.g 6 rfl | exact hH.g 7 rfl | exact hH.g 8 rfl | exact hH.g 9 rfl | exact hH.g 10 rfl | exact hH.g 11 rfl | exact hH.g 12 rfl | exact hH.g 13 rfl | exact hH.g 14 rfl | exact hH.g 15 rfl | exact hH.g 16 rfl | exact hH.g 17 rfl | exact hH.g 18 rfl) (by rfl) ?_
    refine ax_iload_n d_Mo_symbol_28 rfl ?_
    refine az_iald d_Mo_symbol_29 (by first | assumption | exact hH.g 0 rfl | exact hH.g 1 rfl | exact hH.g 2 rfl | exact hH.g 3 rfl | exact hH.g 4 rfl | exact hH.g 5 rfl | exact hH.g 6 rfl | exact hH.g 7 rfl | exact hH.g 8 rfl | exact hH.g 9 rfl | exact hH.g 10 rfl | exact hH.g 11 rfl | exact hH.g 12 rfl | exact hH.g 13 rfl | exact hH.g 14 rfl | exact hH.g 15 rfl | exact hH.g 16 rfl | exact hH.g 17 rfl | exact hH.g 18 rfl) (by omega) (by omega) (by omega) ?_
    refine ax_goto 35 d_Mo_symbol_30 (by decide) ?_
    refine ax_iret d_Mo_symbol_35 rfl ?_
    exact ⟨_, rfl, hss _ (by omega), hM2, hF12⟩
set_option maxRecDepth 100000 in
theorem c_Mo_code {h0 : ax_H} {xs T out : List Int} {fp : Int} (hM : MoI h0 xs T out fp) {s w : Int} (hs : -2147483648 ≤ s ∧ s < 2147483648) (hw : -2147483648 ≤ w ∧ w < 2147483648) : ax_Ci m_Mo_code 3 [.ref 47, .int (iv s), .int (iv w)] h0 (fun z h1 => z = aCode xs s w ∧ MoI h1 xs T out fp ∧ Fr MOS h0 h1) := by
  obtain ⟨iz, ar, hH, hQ⟩ := hM
  obtain ⟨q0, q1, q2, q3, -⟩ := id hQ
  have hsl := sy_len xs
  have hnT := nT_le xs
  have enT : ((lst xs).length : Int) + 2 = ((nT xs : Nat) : Int) := by unfold nT; omega
  refine ax_enter [some (.ref 47), some (.int (iv s)), some (.int (iv w))] rfl (Nat.le_of_ble_eq_true rfl) (by decide) ?_
  refine ax_aload_n d_Mo_code_0 rfl ?_
  refine ax_cV0 d_Mo_code_1 v_Mo_takeBlock lk_Mo_101 (by first | assumption | exact hH.g 0 rfl | exact hH.g 1 rfl | exact hH.g 2 rfl | exact hH.g 3 rfl | exact hH.g 4 rfl | exact hH.g 5 rfl | exact hH.g 6 rfl | exact hH.g 7 rfl | exact hH.g 8 rfl | exact hH.g 9 rfl | exact hH.g 10 rfl | exact hH.g 11 rfl | exact hH.g 12 rfl | exact hH.g 13 rfl | exact hH.g 14 rfl | exact hH.g 15 rfl | exact hH.g 16 rfl | exact hH.g 17 rfl | exact hH.g 18 rfl) (by decide) (Nat.le_of_ble_eq_true rfl) (cm_v (c_Mo_takeBlock hH q0 q1 q2) (fun h1 hq => ?_))
  obtain ⟨⟨iz1, ar1, hH1, ki1, ka1, e2, hl1⟩, hF1⟩ := hq
  have hH := hH1
  have hR1 : RwS iz1 ar1 xs := ⟨e2, by omega, hl1, q3⟩
  refine ax_aload_n d_Mo_code_4 rfl ?_
  refine ax_cV0 d_Mo_code_5 v_Mo_makeSymbols lk_Mo_160 (by first | assumption | exact hH.g 0 rfl | exact hH.g 1 rfl | exact hH.g 2 rfl | exact hH.g 3 rfl | exact hH.g 4 rfl | exact hH.g 5 rfl | exact hH.g 6 rfl | exact hH.g 7 rfl | exact hH.g 8 rfl | exact hH.g 9 rfl | exact hH.g 10 rfl | exact hH.g 11 rfl | exact hH.g 12 rfl | exact hH.g 13 rfl | exact hH.g 14 rfl | exact hH.g 15 rfl | exact hH.g 16 rfl | exact hH.g 17 rfl | exact hH.g 18 rfl) (by decide) (Nat.le_of_ble_eq_true rfl) (cm_v (c_Mo_makeSymbols hH hR1) (fun h2 hq => ?_))
  obtain ⟨⟨iz2, ar2, hH2, ki2, ka2, e12, e14, hss⟩, hF2⟩ := hq
  have hH := hH2
  have hM2 : MoI h2 xs T out fp := ⟨iz2, ar2, hH2, hQ.fr (K := [2, 12, 14]) (K' := [3, 13, 15]) ((ki1.wide rfl).tr (ki2.wide rfl)) ((ka1.wide rfl).tr (ka2.wide rfl)) rfl rfl⟩
  have hF12 := hF1.tr hF2
  have bad : (¬ (0 ≤ s ∧ s < (nT xs : Int)) ∨ w < 0 ∨ 1 < w) → ax_W m_Mo_code 3 34 [some (.ref 47), some (.int (iv s)), some (.int (iv w))] [] h2 (fun r0 h1 => ∃ z : Int, r0 = some (.int (iv z)) ∧ z = aCode xs s w ∧ MoI h1 xs T out fp ∧ Fr MOS h0 h1) := by
    intro hbad
    refine az_iconst d_Mo_code_34 ?_
    refine ax_iret d_Mo_code_35 rfl ?_
    exact ⟨_, rfl, by rw [aCode, if_pos hbad], hM2, hF12⟩
  refine ax_iload_n d_Mo_code_8 rfl ?_
  refine aj_i2l d_Mo_code_9 (by omega) ?_
  refine aj_lconst 0 d_Mo_code_10 rfl ?_
  refine ax_aload_n d_Mo_code_11 rfl ?_
  refine ax_get d_Mo_code_12 fg_Mo_138 (by first | assumption | exact hH.g 0 rfl | exact hH.g 1 rfl | exact hH.g 2 rfl | exact hH.g 3 rfl | exact hH.g 4 rfl | exact hH.g 5 rfl | exact hH.g 6 rfl | exact hH.g 7 rfl | exact hH.g 8 rfl | exact hH.g 9 rfl | exact hH.g 10 rfl | exact hH.g 11 rfl | exact hH.g 12 rfl | exact hH.g 13 rfl | exact hH.g 14 rfl | exact hH.g 15 rfl | exact hH.g 16 rfl | exact hH.g 17 rfl | exact hH.g 18 rfl) (by rfl) ?_
  refine az_iconst d_Mo_code_15 ?_
  refine az_iadd d_Mo_code_16 ?_
  refine aj_i2l d_Mo_code_17 (by omega) ?_
  refine ax_cS3 d_Mo_code_18 s_Mo_isIn lk_Mo_72 (by decide) (Nat.le_of_ble_eq_true rfl) (cm_z (c_Mo_isIn (v := s) (a := 0) (b := iz2 12 + 1) (by omega) (by omega) (by omega)) (fun b h3 hq => ?_))
  obtain ⟨rfl, rfl⟩ := hq
  refine az_if_eq 34 d_Mo_code_21 (by decide) (bz_in _) (fun hcb => ?_) (fun hcb => ?_)
  · have hin := of_decide_eq_false (bz_f hcb)
    exact bad (by omega)
  · have hin := of_decide_eq_true (bz_t hcb)
    refine ax_iload_n d_Mo_code_24 rfl ?_
    refine aj_i2l d_Mo_code_25 (by omega) ?_
    refine aj_lconst 0 d_Mo_code_26 rfl ?_
    refine aj_lconst 1 d_Mo_code_27 rfl ?_
    refine ax_cS3 d_Mo_code_28 s_Mo_isIn lk_Mo_72 (by decide) (Nat.le_of_ble_eq_true rfl) (cm_z (c_Mo_isIn (v := w) (a := 0) (b := 1) (by omega) (by omega) (by omega)) (fun b h3 hq => ?_))
    obtain ⟨rfl, rfl⟩ := hq
    refine az_if_ne 36 d_Mo_code_31 (by decide) (bz_in _) (fun hcb => ?_) (fun hcb => ?_)
    · have hin2 := of_decide_eq_true (bz_t hcb)
      have ea : aCode xs s w = if w = 0 then lgR xs s.toNat else vlR xs s.toNat := by
        unfold aCode
        rw [if_neg (by omega)]
      rw [ea]
      refine ax_aload_n d_Mo_code_36 rfl ?_
      refine ax_cV0 d_Mo_code_37 v_Mo_makeLengths lk_Mo_163 (by first | assumption | exact hH.g 0 rfl | exact hH.g 1 rfl | exact hH.g 2 rfl | exact hH.g 3 rfl | exact hH.g 4 rfl | exact hH.g 5 rfl | exact hH.g 6 rfl | exact hH.g 7 rfl | exact hH.g 8 rfl | exact hH.g 9 rfl | exact hH.g 10 rfl | exact hH.g 11 rfl | exact hH.g 12 rfl | exact hH.g 13 rfl | exact hH.g 14 rfl | exact hH.g 15 rfl | exact hH.g 16 rfl | exact hH.g 17 rfl | exact hH.g 18 rfl) (by decide) (Nat.le_of_ble_eq_true rfl) (cm_v (c_Mo_makeLengths hH (n := nT xs) hnT.2 hnT.1 (by omega) e14 (by omega) hss (sy_in q3)) (fun h4 hq => ?_))
      obtain ⟨⟨ar3, hH3, ka3, g16, g17, hok⟩, hF3⟩ := hq
      have hH := hH3
      have hM3 : MoI h4 xs T out fp := ⟨iz2, ar3, hH3, hQ.fr (K := [2, 12, 14]) (K' := [3, 13, 15, 16, 17, 18, 19, 20, 21]) ((ki1.wide rfl).tr (ki2.wide rfl)) (((ka1.wide rfl).tr (ka2.wide rfl)).tr (ka3.wide rfl)) rfl rfl⟩
      have hF123 := hF12.tr hF3
      refine ax_iload_n d_Mo_code_40 rfl ?_
      refine az_if_ne 53 d_Mo_code_41 (by decide) (by first | exact bz_in _ | omega) (fun hw0 => ?_) (fun hw0 => ?_)
      · rw [if_neg hw0]
        refine ax_aload_n d_Mo_code_53 rfl ?_
        refine ax_get d_Mo_code_54 fg_Mo_40 (by first | assumption | exact hH.g 0 rfl | exact hH.g 1 rfl | exact hH.g 2 rfl | exact hH.g 3 rfl | exact hH.g 4 rfl | exact hH.g 5 rfl | exact hH.g 6 rfl | exact hH.g 7 rfl | exact hH.g 8 rfl | exact hH.g 9 rfl | exact hH.g 10 rfl | exact hH.g 11 rfl | exact hH.g 12 rfl | exact hH.g 13 rfl | exact hH.g 14 rfl | exact hH.g 15 rfl | exact hH.g 16 rfl | exact hH.g 17 rfl | exact hH.g 18 rfl) (by rfl) ?_
        refine ax_iload_n d_Mo_code_57 rfl ?_
        refine az_iald d_Mo_code_58 (by first | assumption | exact hH.g 0 rfl | exact hH.g 1 rfl | exact hH.g 2 rfl | exact hH.g 3 rfl | exact hH.g 4 rfl | exact hH.g 5 rfl | exact hH.g 6 rfl | exact hH.g 7 rfl | exact hH.g 8 rfl | exact hH.g 9 rfl | exact hH.g 10 rfl | exact hH.g 11 rfl | exact hH.g 12 rfl | exact hH.g 13 rfl | exact hH.g 14 rfl | exact hH.g 15 rfl | exact hH.g 16 rfl | exact hH.g 17 rfl | exact hH.g 18 rfl) (by omega) (by omega) (by omega) ?_
        refine ax_iret d_Mo_code_59 rfl ?_
        exact ⟨_, rfl, g17 _ (by omega), hM3, hF123⟩
      · rw [if_pos hw0]
        refine ax_aload_n d_Mo_code_44 rfl ?_
        refine ax_get d_Mo_code_45 fg_Mo_37 (by first | assumption | exact hH.g 0 rfl | exact hH.g 1 rfl | exact hH.g 2 rfl | exact hH.g 3 rfl | exact hH.g 4 rfl | exact hH.g 5 rfl | exact hH.g 6 rfl | exact hH.g 7 rfl | exact hH.g 8 rfl | exact hH.g 9 rfl | exact hH.g 10 rfl | exact hH.g 11 rfl | exact hH.g 12 rfl | exact hH.g 13 rfl | exact hH.g 14 rfl | exact hH.g 15 rfl | exact hH.g 16 rfl | exact hH.g 17 rfl | exact hH.g 18 rfl) (by rfl) ?_
        refine ax_iload_n d_Mo_code_48 rfl ?_
        refine az_iald d_Mo_code_49 (by first | assumption | exact hH.g 0 rfl | exact hH.g 1 rfl | exact hH.g 2 rfl | exact hH.g 3 rfl | exact hH.g 4 rfl | exact hH.g 5 rfl | exact hH.g 6 rfl | exact hH.g 7 rfl | exact hH.g 8 rfl | exact hH.g 9 rfl | exact hH.g 10 rfl | exact hH.g 11 rfl | exact hH.g 12 rfl | exact hH.g 13 rfl | exact hH.g 14 rfl | exact hH.g 15 rfl | exact hH.g 16 rfl | exact hH.g 17 rfl | exact hH.g 18 rfl) (by omega) (by omega) (by omega) ?_
        refine ax_goto 59 d_Mo_code_50 (by decide) ?_
        refine ax_iret d_Mo_code_59 rfl ?_
        exact ⟨_, rfl, g16 _ (by omega), hM3, hF123⟩
    · have hin2 := of_decide_eq_false (bz_f hcb)
      exact bad (by omega)
set_option maxRecDepth 100000 in
set_option maxHeartbeats 4000000 in
theorem c_Mo_bits {h0 : ax_H} {xs T out : List Int} {fp : Int} (hM : MoI h0 xs T out fp) : ax_Ci m_Mo_bits 3 [.ref 47] h0 (fun z h1 => z = lsum (lgR xs) (sy xs) ∧ MoI h1 xs T out fp ∧ Fr MOS h0 h1) := by
  obtain ⟨iz, ar, hH, hQ⟩ := hM
  obtain ⟨q0, q1, q2, q3, -⟩ := id hQ
  have hsl := sy_len xs
  have hnT := nT_le xs
  have enT : ((lst xs).length : Int) + 2 = ((nT xs : Nat) : Int) := by unfold nT; omega
  refine ax_enter [some (.ref 47), none, none] rfl (Nat.le_of_ble_eq_true rfl) (by decide) ?_
  refine ax_aload_n d_Mo_bits_0 rfl ?_
  refine ax_cV0 d_Mo_bits_1 v_Mo_takeBlock lk_Mo_101 (by first | assumption | exact hH.g 0 rfl | exact hH.g 1 rfl | exact hH.g 2 rfl | exact hH.g 3 rfl | exact hH.g 4 rfl | exact hH.g 5 rfl | exact hH.g 6 rfl | exact hH.g 7 rfl | exact hH.g 8 rfl | exact hH.g 9 rfl | exact hH.g 10 rfl | exact hH.g 11 rfl | exact hH.g 12 rfl | exact hH.g 13 rfl | exact hH.g 14 rfl | exact hH.g 15 rfl | exact hH.g 16 rfl | exact hH.g 17 rfl | exact hH.g 18 rfl) (by decide) (Nat.le_of_ble_eq_true rfl) (cm_v (c_Mo_takeBlock hH q0 q1 q2) (fun h1 hq => ?_))
  obtain ⟨⟨iz1, ar1, hH1, ki1, ka1, e2, hl1⟩, hF1⟩ := hq
  have hH := hH1
  have hR1 : RwS iz1 ar1 xs := ⟨e2, by omega, hl1, q3⟩
  refine ax_aload_n d_Mo_bits_4 rfl ?_
  refine ax_cV0 d_Mo_bits_5 v_Mo_makeSymbols lk_Mo_160 (by first | assumption | exact hH.g 0 rfl | exact hH.g 1 rfl | exact hH.g 2 rfl | exact hH.g 3 rfl | exact hH.g 4 rfl | exact hH.g 5 rfl | exact hH.g 6 rfl | exact hH.g 7 rfl | exact hH.g 8 rfl | exact hH.g 9 rfl | exact hH.g 10 rfl | exact hH.g 11 rfl | exact hH.g 12 rfl | exact hH.g 13 rfl | exact hH.g 14 rfl | exact hH.g 15 rfl | exact hH.g 16 rfl | exact hH.g 17 rfl | exact hH.g 18 rfl) (by decide) (Nat.le_of_ble_eq_true rfl) (cm_v (c_Mo_makeSymbols hH hR1) (fun h2 hq => ?_))
  obtain ⟨⟨iz2, ar2, hH2, ki2, ka2, e12, e14, hss⟩, hF2⟩ := hq
  have hH := hH2
  refine ax_aload_n d_Mo_bits_8 rfl ?_
  refine ax_cV0 d_Mo_bits_9 v_Mo_makeLengths lk_Mo_163 (by first | assumption | exact hH.g 0 rfl | exact hH.g 1 rfl | exact hH.g 2 rfl | exact hH.g 3 rfl | exact hH.g 4 rfl | exact hH.g 5 rfl | exact hH.g 6 rfl | exact hH.g 7 rfl | exact hH.g 8 rfl | exact hH.g 9 rfl | exact hH.g 10 rfl | exact hH.g 11 rfl | exact hH.g 12 rfl | exact hH.g 13 rfl | exact hH.g 14 rfl | exact hH.g 15 rfl | exact hH.g 16 rfl | exact hH.g 17 rfl | exact hH.g 18 rfl) (by decide) (Nat.le_of_ble_eq_true rfl) (cm_v (c_Mo_makeLengths hH (n := nT xs) hnT.2 hnT.1 (by omega) e14 (by omega) hss (sy_in q3)) (fun h4 hq => ?_))
  obtain ⟨⟨ar3, hH3, ka3, g16, g17, hok⟩, hF3⟩ := hq
  have hH := hH3
  have hM3 : MoI h4 xs T out fp := ⟨iz2, ar3, hH3, hQ.fr (K := [2, 12, 14]) (K' := [3, 13, 15, 16, 17, 18, 19, 20, 21]) ((ki1.wide rfl).tr (ki2.wide rfl)) (((ka1.wide rfl).tr (ka2.wide rfl)).tr (ka3.wide rfl)) rfl rfl⟩
  have hF123 := (hF1.tr hF2).tr hF3
  have hss3 : la (ar3 15) (sy xs) := by rw [ka3 15 rfl]; exact hss
  refine az_iconst d_Mo_bits_12 ?_
  refine ax_istore_n d_Mo_bits_13 (by decide) rfl ?_
  refine az_iconst d_Mo_bits_14 ?_
  refine ax_istore_n d_Mo_bits_15 (by decide) rfl ?_
  have key : ∀ (g i : Nat), i + g = (sy xs).length → ax_W m_Mo_bits 3 16 [some (.ref 47), some (.int (iv (lsum (lgR xs) ((sy xs).take i)))), some (.int (iv i))] [] h4 (fun r0 h2 => ∃ z : Int, r0 = some (.int (iv z)) ∧ z = lsum (lgR xs) (sy xs) ∧ MoI h2 xs T out fp ∧ Fr MOS h0 h2) := by
    intro g
    induction g with
    | zero =>
      intro i he
      refine ax_iload_n d_Mo_bits_16 rfl ?_
      refine ax_aload_n d_Mo_bits_17 rfl ?_
      refine ax_get d_Mo_bits_18 fg_Mo_135 (by first | assumption | exact hH.g 0 rfl | exact hH.g 1 rfl | exact hH.g 2 rfl | exact hH.g 3 rfl | exact hH.g 4 rfl | exact hH.g 5 rfl | exact hH.g 6 rfl | exact hH.g 7 rfl | exact hH.g 8 rfl | exact hH.g 9 rfl | exact hH.g 10 rfl | exact hH.g 11 rfl | exact hH.g 12 rfl | exact hH.g 13 rfl | exact hH.g 14 rfl | exact hH.g 15 rfl | exact hH.g 16 rfl | exact hH.g 17 rfl | exact hH.g 18 rfl) (by rfl) ?_
      refine az_icmp_ge 44 d_Mo_bits_21 (by decide) (by omega) (by omega) (fun hc => ?_) (fun hc => ?_)
      · refine ax_iload_n d_Mo_bits_44 rfl ?_
        refine ax_iret d_Mo_bits_45 rfl ?_
        exact ⟨_, rfl, by rw [List.take_of_length_le (by omega)], hM3, hF123⟩
      · exfalso
        omega
    | succ g ih =>
      intro i he
      have ih1 := ih (i + 1) (by omega)
      have hsi := sy_in q3 (gx (sy xs) i) (inL_mem ⟨i, by omega, rfl⟩)
      have hsi : 0 ≤ gx (sy xs) i ∧ gx (sy xs) i < ((nT xs : Nat) : Int) := hsi
      have es : ar3 15 ((i : Int).toNat) = gx (sy xs) i := hss3 i (by omega)
      have el : ar3 16 (gx (sy xs) i).toNat = lgR xs (gx (sy xs) i).toNat := g16 _ (by omega)
      have et : lsum (lgR xs) ((sy xs).take (i + 1)) = lsum (lgR xs) ((sy xs).take i) + lgR xs (gx (sy xs) i).toNat := by
        rw [← take_succ_getD (sy xs) (by omega), lsum_snoc]
      rw [et] at ih1
      refine ax_iload_n d_Mo_bits_16 rfl ?_
      refine ax_aload_n d_Mo_bits_17 rfl ?_
      refine ax_get d_Mo_bits_18 fg_Mo_135 (by first | assumption | exact hH.g 0 rfl | exact hH.g 1 rfl | exact hH.g 2 rfl | exact hH.g 3 rfl | exact hH.g 4 rfl | exact hH.g 5 rfl | exact hH.g 6 rfl | exact hH.g 7 rfl | exact hH.g 8 rfl | exact hH.g 9 rfl | exact hH.g 10 rfl | exact hH.g 11 rfl | exact hH.g 12 rfl | exact hH.g 13 rfl | exact hH.g 14 rfl | exact hH.g 15 rfl | exact hH.g 16 rfl | exact hH.g 17 rfl | exact hH.g 18 rfl) (by rfl) ?_
      refine az_icmp_ge 44 d_Mo_bits_21 (by decide) (by omega) (by omega) (fun hc => ?_) (fun hc => ?_)
      · exfalso
        omega
      · refine ax_iload_n d_Mo_bits_24 rfl ?_
        refine ax_aload_n d_Mo_bits_25 rfl ?_
        refine ax_get d_Mo_bits_26 fg_Mo_37 (by first | assumption | exact hH.g 0 rfl | exact hH.g 1 rfl | exact hH.g 2 rfl | exact hH.g 3 rfl | exact hH.g 4 rfl | exact hH.g 5 rfl | exact hH.g 6 rfl | exact hH.g 7 rfl | exact hH.g 8 rfl | exact hH.g 9 rfl | exact hH.g 10 rfl | exact hH.g 11 rfl | exact hH.g 12 rfl | exact hH.g 13 rfl | exact hH.g 14 rfl | exact hH.g 15 rfl | exact hH.g 16 rfl | exact hH.g 17 rfl | exact hH.g 18 rfl) (by rfl) ?_
        refine ax_aload_n d_Mo_bits_29 rfl ?_
        refine ax_get d_Mo_bits_30 fg_Mo_34 (by first | assumption | exact hH.g 0 rfl | exact hH.g 1 rfl | exact hH.g 2 rfl | exact hH.g 3 rfl | exact hH.g 4 rfl | exact hH.g 5 rfl | exact hH.g 6 rfl | exact hH.g 7 rfl | exact hH.g 8 rfl | exact hH.g 9 rfl | exact hH.g 10 rfl | exact hH.g 11 rfl | exact hH.g 12 rfl | exact hH.g 13 rfl | exact hH.g 14 rfl | exact hH.g 15 rfl | exact hH.g 16 rfl | exact hH.g 17 rfl | exact hH.g 18 rfl) (by rfl) ?_
        refine ax_iload_n d_Mo_bits_33 rfl ?_
        refine az_iald d_Mo_bits_34 (by first | assumption | exact hH.g 0 rfl | exact hH.g 1 rfl | exact hH.g 2 rfl | exact hH.g 3 rfl | exact hH.g 4 rfl | exact hH.g 5 rfl | exact hH.g 6 rfl | exact hH.g 7 rfl | exact hH.g 8 rfl | exact hH.g 9 rfl | exact hH.g 10 rfl | exact hH.g 11 rfl | exact hH.g 12 rfl | exact hH.g 13 rfl | exact hH.g 14 rfl | exact hH.g 15 rfl | exact hH.g 16 rfl | exact hH.g 17 rfl | exact hH.g 18 rfl) (by omega) (by omega) (by omega) ?_
        rw [es]
        refine az_iald d_Mo_bits_35 (by first | assumption | exact hH.g 0 rfl | exact hH.g 1 rfl | exact hH.g 2 rfl | exact hH.g 3 rfl | exact hH.g 4 rfl | exact hH.g 5 rfl | exact hH.g 6 rfl | exact hH.g 7 rfl | exact hH.g 8 rfl | exact hH.g 9 rfl | exact hH.g 10 rfl | exact hH.g 11 rfl | exact hH.g 12 rfl | exact hH.g 13 rfl | exact hH.g 14 rfl | exact hH.g 15 rfl | exact hH.g 16 rfl | exact hH.g 17 rfl | exact hH.g 18 rfl) (by omega) (by omega) (by omega) ?_
        rw [el]
        refine az_iadd d_Mo_bits_36 ?_
        refine ax_istore_n d_Mo_bits_37 (by decide) rfl ?_
        refine az_iinc d_Mo_bits_38 rfl (by decide) rfl ?_
        refine ax_goto 16 d_Mo_bits_41 (by decide) ?_
        exact ih1
  exact key (sy xs).length 0 (by omega)
