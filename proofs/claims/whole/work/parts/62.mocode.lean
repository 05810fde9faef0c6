/-! the reference: makeCodes, lightest, join -/
set_option maxRecDepth 100000 in
set_option maxHeartbeats 8000000 in
theorem c_Mo_makeCodes {h0 : ax_H} {iz : Nat → Int} {ar : Nat → Nat → Int} {lg : Nat → Int} {n : Nat} (hH : MoH h0 iz ar) (hn : n ≤ 258) (hlg : ∀ k : Nat, k < n → ar 16 k = lg k) (hok : okLg lg n) : ax_Cv m_Mo_makeCodes 0 [.ref 47, .int (iv n)] h0 (fun h1 => (∃ ar1, MoH h1 iz ar1 ∧ KA [17] ar ar1 ∧ ∀ s : Nat, s < n → ar1 17 s = codeV lg n s) ∧ Fr MOS h0 h1) := by
  have hF : Fr MOS h0 h0 := Fr.rf
  have p12 : ∀ l : Nat, l ≤ 12 → vb lg n l ≤ 516 * 4096 := by
    intro l hl
    have h1 := vb_le lg n hn l
    have h2 : 2 ^ l ≤ 2 ^ 12 := Nat.pow_le_pow_right (by decide) hl
    have h3 : (2 : Nat) ^ 12 = 4096 := by decide
    have h4 : 516 * 2 ^ l ≤ 516 * 4096 := by omega
    omega
  refine ax_enter [some (.ref 47), some (.int (iv n)), none, none, none, none] rfl (Nat.le_of_ble_eq_true rfl) (by decide) ?_
  refine az_iconst d_Mo_makeCodes_0 ?_
  refine ax_istore_n d_Mo_makeCodes_1 (by decide) rfl ?_
  refine az_iconst d_Mo_makeCodes_2 ?_
  refine ax_istore_n d_Mo_makeCodes_3 (by decide) rfl ?_
  refine az_iconst d_Mo_makeCodes_4 ?_
  refine ax_istore d_Mo_makeCodes_5 (by decide) rfl ?_
  have outer : ∀ (f l c L : Nat) (ar1 : Nat → Nat → Int) (h : ax_H), l + f = 13 → 1 ≤ l → c ≤ 3000000 → (L = 0 ∧ c = 0 ∧ vb lg n l = 0 ∨ 0 < L ∧ L ≤ l ∧ (c + 1) * 2 ^ (l - L) = vb lg n l) → MoH h iz ar1 → Fr MOS h0 h → KA [17] ar ar1 → (∀ s : Nat, s < n → lg s < l → ar1 17 s = codeV lg n s) → ∀ v5 : Option Value,
      ax_W m_Mo_makeCodes 0 7 [some (.ref 47), some (.int (iv n)), some (.int (iv c)), some (.int (iv L)), some (.int (iv l)), v5] [] h (fun r0 h1 => r0 = none ∧ (∃ ar1, MoH h1 iz ar1 ∧ KA [17] ar ar1 ∧ ∀ s : Nat, s < n → ar1 17 s = codeV lg n s) ∧ Fr MOS h0 h1) := by
    intro f
    induction f with
    | zero =>
      intro l c L ar1 h he hl hc3 hv hH hF ka hd v5
      refine ax_iload d_Mo_makeCodes_7 rfl ?_
      refine az_bipush _ d_Mo_makeCodes_9 (by decide) ?_
      refine az_icmp_gt 74 d_Mo_makeCodes_11 (by decide) (by omega) (by omega) (fun hc => ?_) (fun hc => ?_)
      · refine ax_vret d_Mo_makeCodes_74 rfl ?_
        exact ⟨rfl, ⟨ar1, hH, ka, fun s hs => hd s hs (by have := hok s hs; omega)⟩, hF⟩
      · exfalso
        omega
    | succ f ih =>
      intro l c L ar1 h he hl hc3 hv hH hF ka hd v5
      have hvb := p12 l (by omega)
      have inner : ∀ (g k c L : Nat) (ar1 : Nat → Nat → Int) (h : ax_H), k + g = n → c ≤ 3000000 → (L = 0 ∧ c = 0 ∧ vb lg n l + nlc lg k l = 0 ∨ 0 < L ∧ L ≤ l ∧ (c + 1) * 2 ^ (l - L) = vb lg n l + nlc lg k l) → MoH h iz ar1 → Fr MOS h0 h → KA [17] ar ar1 → (∀ s : Nat, s < n → (lg s < l ∨ (lg s = l ∧ s < k)) → ar1 17 s = codeV lg n s) →
          ax_W m_Mo_makeCodes 0 17 [some (.ref 47), some (.int (iv n)), some (.int (iv c)), some (.int (iv L)), some (.int (iv l)), some (.int (iv k))] [] h (fun r0 h1 => r0 = none ∧ (∃ ar1, MoH h1 iz ar1 ∧ KA [17] ar ar1 ∧ ∀ s : Nat, s < n → ar1 17 s = codeV lg n s) ∧ Fr MOS h0 h1) := by
        intro g
        induction g with
        | zero =>
          intro k c L ar1 h he2 hc3 hv hH hF ka hd
          have hk : k = n := by omega
          subst hk
          refine ax_iload d_Mo_makeCodes_17 rfl ?_
          refine ax_iload_n d_Mo_makeCodes_19 rfl ?_
          refine az_icmp_ge 68 d_Mo_makeCodes_20 (by decide) (by omega) (by omega) (fun hc => ?_) (fun hc => ?_)
          · refine az_iinc d_Mo_makeCodes_68 rfl (by decide) rfl ?_
            refine ax_goto 7 d_Mo_makeCodes_71 (by decide) ?_
            refine ih (l + 1) c L ar1 h (by omega) (by omega) hc3 ?_ hH hF ka (fun s hs hlt => hd s hs (by omega)) _
            rw [vb]
            rcases hv with ⟨q1, q2, q3⟩ | ⟨q1, q2, q3⟩
            · exact Or.inl ⟨q1, q2, by omega⟩
            · refine Or.inr ⟨q1, by omega, ?_⟩
              rw [show l + 1 - L = l - L + 1 by omega, Nat.pow_succ, ← Nat.mul_assoc, q3]
              omega
          · exfalso
            omega
        | succ g ih2 =>
          intro k c L ar1 h he2 hc3 hv hH hF ka hd
          have hlk := hok k (by omega)
          have hs := nlc_succ lg k l
          have hcle : nlc lg k l ≤ k := cnt_le _ _
          have a16 := ka 16 rfl
          have er : ar1 16 ((k : Int).toNat) = lg k := by rw [a16]; exact hlg k (by omega)
          refine ax_iload d_Mo_makeCodes_17 rfl ?_
          refine ax_iload_n d_Mo_makeCodes_19 rfl ?_
          refine az_icmp_ge 68 d_Mo_makeCodes_20 (by decide) (by omega) (by omega) (fun hc => ?_) (fun hc => ?_)
          · exfalso
            omega
          · refine ax_aload_n d_Mo_makeCodes_23 rfl ?_
            refine ax_get d_Mo_makeCodes_24 fg_Mo_37 (by first | assumption | exact hH.g 0 rfl | exact hH.g 1 rfl | exact hH.g 2 rfl | exact hH.g 3 rfl | exact hH.g 4 rfl | exact hH.g 5 rfl | exact hH.g 6 rfl | exact hH.g 7 rfl | exact hH.g 8 rfl | exact hH.g 9 rfl | exact hH.g 10 rfl | exact hH.g 11 rfl | exact hH.g 12 rfl | exact hH.g 13 rfl | exact hH.g 14 rfl | exact hH.g 15 rfl | exact hH.g 16 rfl | exact hH.g 17 rfl | exact hH.g 18 rfl) (by rfl) ?_
            refine ax_iload d_Mo_makeCodes_27 rfl ?_
            refine az_iald d_Mo_makeCodes_29 (by first | assumption | exact hH.g 0 rfl | exact hH.g 1 rfl | exact hH.g 2 rfl | exact hH.g 3 rfl | exact hH.g 4 rfl | exact hH.g 5 rfl | exact hH.g 6 rfl | exact hH.g 7 rfl | exact hH.g 8 rfl | exact hH.g 9 rfl | exact hH.g 10 rfl | exact hH.g 11 rfl | exact hH.g 12 rfl | exact hH.g 13 rfl | exact hH.g 14 rfl | exact hH.g 15 rfl | exact hH.g 16 rfl | exact hH.g 17 rfl | exact hH.g 18 rfl) (by omega) (by omega) (by omega) ?_
            rw [er]
            refine ax_iload d_Mo_makeCodes_30 rfl ?_
            refine az_icmp_eq 38 d_Mo_makeCodes_32 (by decide) (by omega) (by omega) (fun heq => ?_) (fun heq => ?_)
            · rw [if_pos heq] at hs
              -- the code is known
              have put : ∀ v3 : Option Value, ax_W m_Mo_makeCodes 0 51 [some (.ref 47), some (.int (iv n)), some (.int (iv ((vb lg n l + nlc lg k l : Nat) : Int))), some (.int (iv L)), some (.int (iv l)), some (.int (iv k))] [] h (fun r0 h1 => r0 = none ∧ (∃ ar1, MoH h1 iz ar1 ∧ KA [17] ar ar1 ∧ ∀ s : Nat, s < n → ar1 17 s = codeV lg n s) ∧ Fr MOS h0 h1) := by
                intro v3
                refine ax_iload d_Mo_makeCodes_51 rfl ?_
                refine ax_istore_n d_Mo_makeCodes_53 (by decide) rfl ?_
                refine ax_aload_n d_Mo_makeCodes_54 rfl ?_
                refine ax_get d_Mo_makeCodes_55 fg_Mo_40 (by first | assumption | exact hH.g 0 rfl | exact hH.g 1 rfl | exact hH.g 2 rfl | exact hH.g 3 rfl | exact hH.g 4 rfl | exact hH.g 5 rfl | exact hH.g 6 rfl | exact hH.g 7 rfl | exact hH.g 8 rfl | exact hH.g 9 rfl | exact hH.g 10 rfl | exact hH.g 11 rfl | exact hH.g 12 rfl | exact hH.g 13 rfl | exact hH.g 14 rfl | exact hH.g 15 rfl | exact hH.g 16 rfl | exact hH.g 17 rfl | exact hH.g 18 rfl) (by rfl) ?_
                refine ax_iload d_Mo_makeCodes_58 rfl ?_
                refine ax_iload_n d_Mo_makeCodes_60 rfl ?_
                first | refine ah_iast d_Mo_makeCodes_61 hH hF 0 rfl rfl (by omega) (by omega) (by omega) (by omega) (fun h hH hF => ?_) | refine ah_iast d_Mo_makeCodes_61 hH hF 1 rfl rfl (by omega) (by omega) (by omega) (by omega) (fun h hH hF => ?_) | refine ah_iast d_Mo_makeCodes_61 hH hF 2 rfl rfl (by omega) (by omega) (by omega) (by omega) (fun h hH hF => ?_) | refine ah_iast d_Mo_makeCodes_61 hH hF 3 rfl rfl (by omega) (by omega) (by omega) (by omega) (fun h hH hF => ?_) | refine ah_iast d_Mo_makeCodes_61 hH hF 4 rfl rfl (by omega) (by omega) (by omega) (by omega) (fun h hH hF => ?_) | refine ah_iast d_Mo_makeCodes_61 hH hF 5 rfl rfl (by omega) (by omega) (by omega) (by omega) (fun h hH hF => ?_) | refine ah_iast d_Mo_makeCodes_61 hH hF 6 rfl rfl (by omega) (by omega) (by omega) (by omega) (fun h hH hF => ?_) | refine ah_iast d_Mo_makeCodes_61 hH hF 7 rfl rfl (by omega) (by omega) (by omega) (by omega) (fun h hH hF => ?_) | refine ah_iast d_Mo_makeCodes_61 hH hF 8 rfl rfl (by omega) (by omega) (by omega) (by omega) (fun h hH hF => ?_) | refine ah_iast d_Mo_makeCodes_61 hH hF 9 rfl rfl (by omega) (by omega) (by omega) (by omega) (fun h hH hF => ?_) | refine ah_iast d_Mo_makeCodes_61 hH hF 10 rfl rfl (by omega) (by omega) (by omega) (by omega) (fun h hH hF => ?_) | refine ah_iast d_Mo_makeCodes_61 hH hF 11 rfl rfl (by omega) (by omega) (by omega) (by omega) (fun h hH hF => ?_) | refine ah_iast d_Mo_makeCodes_61 hH hF 12 rfl rfl (by omega) (by omega) (by omega) (by omega) (fun h hH hF => ?_) | refine ah_iast d_Mo_makeCodes_61 hH hF 13 rfl rfl (by omega) (by omega) (by omega) (by omega) (fun h hH hF => ?_) | refine ah_iast d_Mo_makeCodes_61 hH hF 14 rfl rfl (by omega) (by omega) (by omega) (by omega) (fun h hH hF => ?_) | refine ah_iast d_Mo_makeCodes_61 hH hF 15 rfl rfl (by omega) (by omega) (by omega) (by omega) (fun h hH hF => ?_) | refine ah_iast d_Mo_makeCodes_61 hH hF 16 rfl rfl (by omega) (by omega) (by omega) (by omega) (fun h hH hF => ?_) | refine ah_iast d_Mo_makeCodes_61 hH hF 17 rfl rfl (by omega) (by omega) (by omega) (by omega) (fun h hH hF => ?_) | refine ah_iast d_Mo_makeCodes_61 hH hF 18 rfl rfl (by omega) (by omega) (by omega) (by omega) (fun h hH hF => ?_)
                refine az_iinc d_Mo_makeCodes_62 rfl (by decide) rfl ?_
                refine ax_goto 17 d_Mo_makeCodes_65 (by decide) ?_
                refine ih2 (k + 1) (vb lg n l + nlc lg k l) l (upA ar1 17 (up (ar1 17) k ((vb lg n l + nlc lg k l : Nat) : Int))) h (by omega) (by omega) (Or.inr ⟨by omega, Nat.le_refl _, ?_⟩) hH hF (ka.up 17 _ rfl) (fun s h1 h2 => ?_)
                · rw [Nat.sub_self, Nat.pow_zero, Nat.mul_one, hs]
                  omega
                · show up (ar1 17) k _ s = _
                  by_cases e : s = k
                  · rw [e, up_at, codeV, heq, Int.toNat_natCast]
                  · rw [up_ne e]
                    exact hd s h1 (by omega)
              refine ax_iload_n d_Mo_makeCodes_38 rfl ?_
              refine az_if_le 51 d_Mo_makeCodes_39 (by decide) (by first | exact bz_in _ | omega) (fun hL => ?_) (fun hL => ?_)
              · rcases hv with ⟨q1, q2, q3⟩ | ⟨q1, q2, q3⟩
                · have e5 : (c : Int) = ((vb lg n l + nlc lg k l : Nat) : Int) := by omega
                  rw [e5]
                  exact put none
                · exfalso
                  omega
              · rcases hv with ⟨q1, q2, q3⟩ | ⟨q1, q2, q3⟩
                · exfalso
                  omega
                · have ez : zshl ((c : Int) + 1) ((l : Int) - (L : Int)) = ((vb lg n l + nlc lg k l : Nat) : Int) := by
                    rw [show (c : Int) + 1 = ((c + 1 : Nat) : Int) by omega, show (l : Int) - (L : Int) = ((l - L : Nat) : Int) by omega, zshl_pow (by omega) (by rw [q3]; omega), q3]
                  refine ax_iload_n d_Mo_makeCodes_42 rfl ?_
                  refine az_iconst d_Mo_makeCodes_43 ?_
                  refine az_iadd d_Mo_makeCodes_44 ?_
                  refine ax_iload d_Mo_makeCodes_45 rfl ?_
                  refine ax_iload_n d_Mo_makeCodes_47 rfl ?_
                  refine az_isub d_Mo_makeCodes_48 ?_
                  refine az_ishl d_Mo_makeCodes_49 ?_
                  rw [ez]
                  refine ax_istore_n d_Mo_makeCodes_50 (by decide) rfl ?_
                  exact put none
            · rw [if_neg heq, Nat.add_zero] at hs
              refine ax_goto 62 d_Mo_makeCodes_35 (by decide) ?_
              refine az_iinc d_Mo_makeCodes_62 rfl (by decide) rfl ?_
              refine ax_goto 17 d_Mo_makeCodes_65 (by decide) ?_
              refine ih2 (k + 1) c L ar1 h (by omega) hc3 (by rw [hs]; exact hv) hH hF ka (fun s h1 h2 => hd s h1 ?_)
              rcases h2 with h2 | ⟨h2, h3⟩
              · exact Or.inl h2
              · refine Or.inr ⟨h2, ?_⟩
                have : s ≠ k := fun w => heq (by rw [← w]; exact h2)
                omega
      refine ax_iload d_Mo_makeCodes_7 rfl ?_
      refine az_bipush _ d_Mo_makeCodes_9 (by decide) ?_
      refine az_icmp_gt 74 d_Mo_makeCodes_11 (by decide) (by omega) (by omega) (fun hc => ?_) (fun hc => ?_)
      · exfalso
        omega
      · refine az_iconst d_Mo_makeCodes_14 ?_
        refine ax_istore d_Mo_makeCodes_15 (by decide) rfl ?_
        exact inner n 0 c L ar1 h (by omega) hc3 (by rw [show nlc lg 0 l = 0 from rfl, Nat.add_zero]; exact hv) hH hF ka (fun s h1 h2 => hd s h1 (by omega))
  have h10 : nlc lg n ((0 : Nat) : Int) = 0 := cnt_false (fun q hq => decide_eq_false (by have := hok q hq; omega))
  exact outer 12 1 0 0 ar h0 (by omega) (by omega) (by omega) (Or.inl ⟨rfl, rfl, by rw [vb, vb, h10]⟩) hH hF KA.rf (fun s hs h1 => by have := hok s hs; omega) none
set_option maxRecDepth 100000 in
set_option maxHeartbeats 8000000 in
theorem c_Mo_lightest {h0 : ax_H} {iz : Nat → Int} {ar : Nat → Nat → Int} {st : HSt} {all : Nat} {nt : Int} (hH : MoH h0 iz ar) (ha : all ≤ 515) (hnt : -1 ≤ nt ∧ nt < 1000) (e1 : ∀ k : Nat, k < all → ar 18 k = st.1 k) (e2 : ∀ k : Nat, k < all → ar 19 k = st.2.1 k) (e3 : ∀ k : Nat, k < all → ar 20 k = st.2.2 k) (b1 : ∀ k : Nat, k < all → st.2.2 k < 0 → 0 ≤ st.1 k ∧ st.1 k ≤ 1000000) (b2 : ∀ k : Nat, k < all → 0 ≤ st.2.1 k ∧ st.2.1 k ≤ 1000) (b3 : ∀ k : Nat, k < all → -1 ≤ st.2.2 k ∧ st.2.2 k ≤ 1000) : ax_Ci m_Mo_lightest 0 [.ref 47, .int (iv all), .int (iv nt)] h0 (fun z h1 => h1 = h0 ∧ z = lgt st nt all) := by
  refine ax_enter [some (.ref 47), some (.int (iv all)), some (.int (iv nt)), none, none] rfl (Nat.le_of_ble_eq_true rfl) (by decide) ?_
  refine az_iconst d_Mo_lightest_0 ?_
  refine ax_istore_n d_Mo_lightest_1 (by decide) rfl ?_
  refine az_iconst d_Mo_lightest_2 ?_
  refine ax_istore d_Mo_lightest_3 (by decide) rfl ?_
  have key : ∀ (f k : Nat), k + f = all →
      ax_W m_Mo_lightest 0 5 [some (.ref 47), some (.int (iv all)), some (.int (iv nt)), some (.int (iv (lgt st nt k))), some (.int (iv k))] [] h0 (fun r0 h1 => ∃ z : Int, r0 = some (.int (iv z)) ∧ h1 = h0 ∧ z = lgt st nt all) := by
    intro f
    induction f with
    | zero =>
      intro k he
      have hk : k = all := by omega
      subst hk
      refine ax_iload d_Mo_lightest_5 rfl ?_
      refine ax_iload_n d_Mo_lightest_7 rfl ?_
      refine az_icmp_ge 93 d_Mo_lightest_8 (by decide) (by omega) (by omega) (fun hc => ?_) (fun hc => ?_)
      · refine ax_iload_n d_Mo_lightest_93 rfl ?_
        refine ax_iret d_Mo_lightest_94 rfl ?_
        exact ⟨_, rfl, rfl, rfl⟩
      · exfalso
        omega
    | succ f ih =>
      intro k he
      have ih1 := ih (k + 1) (by omega)
      rw [lgt] at ih1
      have r3 : ar 20 ((k : Int).toNat) = st.2.2 k := e3 k (by omega)
      have r1 : ar 18 ((k : Int).toNat) = st.1 k := e1 k (by omega)
      have r2 : ar 19 ((k : Int).toNat) = st.2.1 k := e2 k (by omega)
      have c3 := b3 k (by omega)
      have c2 := b2 k (by omega)
      have hlk := lgt_ok st nt k
      -- this one is lighter
      have take : ¬ (0 ≤ st.2.2 k ∨ (k : Int) = nt) → (lgt st nt k < 0 ∨ st.1 k < st.1 (lgt st nt k).toNat ∨ (st.1 k = st.1 (lgt st nt k).toNat ∧ st.2.1 k < st.2.1 (lgt st nt k).toNat)) → ax_W m_Mo_lightest 0 84 [some (.ref 47), some (.int (iv all)), some (.int (iv nt)), some (.int (iv (lgt st nt k))), some (.int (iv k))] [] h0 (fun r0 h1 => ∃ z : Int, r0 = some (.int (iv z)) ∧ h1 = h0 ∧ z = lgt st nt all) := by
        intro h1 h2
        rw [if_neg h1, if_pos h2] at ih1
        refine ax_iload d_Mo_lightest_84 rfl ?_
        refine ax_istore_n d_Mo_lightest_86 (by decide) rfl ?_
        refine az_iinc d_Mo_lightest_87 rfl (by decide) rfl ?_
        refine ax_goto 5 d_Mo_lightest_90 (by decide) ?_
        exact ih1
      have skip : (0 ≤ st.2.2 k ∨ (k : Int) = nt) ∨ ¬ (lgt st nt k < 0 ∨ st.1 k < st.1 (lgt st nt k).toNat ∨ (st.1 k = st.1 (lgt st nt k).toNat ∧ st.2.1 k < st.2.1 (lgt st nt k).toNat)) → ax_W m_Mo_lightest 0 87 [some (.ref 47), some (.int (iv all)), some (.int (iv nt)), some (.int (iv (lgt st nt k))), some (.int (iv k))] [] h0 (fun r0 h1 => ∃ z : Int, r0 = some (.int (iv z)) ∧ h1 = h0 ∧ z = lgt st nt all) := by
        intro h1
        have ih2 : ax_W m_Mo_lightest 0 5 [some (.ref 47), some (.int (iv all)), some (.int (iv nt)), some (.int (iv (lgt st nt k))), some (.int (iv ((k + 1 : Nat) : Int)))] [] h0 (fun r0 h1 => ∃ z : Int, r0 = some (.int (iv z)) ∧ h1 = h0 ∧ z = lgt st nt all) := by
          rcases h1 with h1 | h1
          · rw [if_pos h1] at ih1
            exact ih1
          · rw [if_neg h1, ite_self] at ih1
            exact ih1
        refine az_iinc d_Mo_lightest_87 rfl (by decide) rfl ?_
        refine ax_goto 5 d_Mo_lightest_90 (by decide) ?_
        exact ih2
      refine ax_iload d_Mo_lightest_5 rfl ?_
      refine ax_iload_n d_Mo_lightest_7 rfl ?_
      refine az_icmp_ge 93 d_Mo_lightest_8 (by decide) (by omega) (by omega) (fun hc => ?_) (fun hc => ?_)
      · exfalso
        omega
      · refine ax_aload_n d_Mo_lightest_11 rfl ?_
        refine ax_get d_Mo_lightest_12 fg_Mo_50 (by first | assumption | exact hH.g 0 rfl | exact hH.g 1 rfl | exact hH.g 2 rfl | exact hH.g 3 rfl | exact hH.g 4 rfl | exact hH.g 5 rfl | exact hH.g 6 rfl | exact hH.g 7 rfl | exact hH.g 8 rfl | exact hH.g 9 rfl | exact hH.g 10 rfl | exact hH.g 11 rfl | exact hH.g 12 rfl | exact hH.g 13 rfl | exact hH.g 14 rfl | exact hH.g 15 rfl | exact hH.g 16 rfl | exact hH.g 17 rfl | exact hH.g 18 rfl) (by rfl) ?_
        refine ax_iload d_Mo_lightest_15 rfl ?_
        refine az_iald d_Mo_lightest_17 (by first | assumption | exact hH.g 0 rfl | exact hH.g 1 rfl | exact hH.g 2 rfl | exact hH.g 3 rfl | exact hH.g 4 rfl | exact hH.g 5 rfl | exact hH.g 6 rfl | exact hH.g 7 rfl | exact hH.g 8 rfl | exact hH.g 9 rfl | exact hH.g 10 rfl | exact hH.g 11 rfl | exact hH.g 12 rfl | exact hH.g 13 rfl | exact hH.g 14 rfl | exact hH.g 15 rfl | exact hH.g 16 rfl | exact hH.g 17 rfl | exact hH.g 18 rfl) (by omega) (by omega) (by omega) ?_
        rw [r3]
        refine az_if_ge 87 d_Mo_lightest_18 (by decide) (by first | exact bz_in _ | omega) (fun hab => ?_) (fun hab => ?_)
        · exact skip (Or.inl (Or.inl hab))
        · refine ax_iload d_Mo_lightest_21 rfl ?_
          refine ax_iload_n d_Mo_lightest_23 rfl ?_
          refine az_icmp_ne 30 d_Mo_lightest_24 (by decide) (by omega) (by omega) (fun hnk => ?_) (fun hnk => ?_)
          · have hno : ¬ (0 ≤ st.2.2 k ∨ (k : Int) = nt) := by omega
            have c1 := b1 k (by omega) (by omega)
            rcases hlk with ⟨hl, -⟩ | ⟨b, hb, hl, hub, -⟩
            · have tk := take hno (Or.inl (by omega))
              rw [hl] at tk ⊢
              refine ax_iload_n d_Mo_lightest_30 rfl ?_
              refine az_if_lt 84 d_Mo_lightest_31 (by decide) (by first | exact bz_in _ | omega) (fun hc => ?_) (fun hc => ?_)
              · exact tk
              · exfalso
                omega
            · rw [hl] at take skip ⊢
              have s1 : ar 18 ((b : Int).toNat) = st.1 b := e1 b (by omega)
              have s2 : ar 19 ((b : Int).toNat) = st.2.1 b := e2 b (by omega)
              have d1 := b1 b (by omega) hub
              have d2 := b2 b (by omega)
              have hcm := cmp3_sp (st.1 k) (st.1 b)
              have eb : ((b : Nat) : Int).toNat = b := by omega
              rw [eb] at take skip
              refine ax_iload_n d_Mo_lightest_30 rfl ?_
              refine az_if_lt 84 d_Mo_lightest_31 (by decide) (by first | exact bz_in _ | omega) (fun hc => ?_) (fun hc => ?_)
              · exfalso
                omega
              · refine ax_aload_n d_Mo_lightest_34 rfl ?_
                refine ax_get d_Mo_lightest_35 fg_Mo_43 (by first | assumption | exact hH.g 0 rfl | exact hH.g 1 rfl | exact hH.g 2 rfl | exact hH.g 3 rfl | exact hH.g 4 rfl | exact hH.g 5 rfl | exact hH.g 6 rfl | exact hH.g 7 rfl | exact hH.g 8 rfl | exact hH.g 9 rfl | exact hH.g 10 rfl | exact hH.g 11 rfl | exact hH.g 12 rfl | exact hH.g 13 rfl | exact hH.g 14 rfl | exact hH.g 15 rfl | exact hH.g 16 rfl | exact hH.g 17 rfl | exact hH.g 18 rfl) (by rfl) ?_
                refine ax_iload d_Mo_lightest_38 rfl ?_
                refine aj_lald d_Mo_lightest_40 (by first | assumption | exact hH.g 0 rfl | exact hH.g 1 rfl | exact hH.g 2 rfl | exact hH.g 3 rfl | exact hH.g 4 rfl | exact hH.g 5 rfl | exact hH.g 6 rfl | exact hH.g 7 rfl | exact hH.g 8 rfl | exact hH.g 9 rfl | exact hH.g 10 rfl | exact hH.g 11 rfl | exact hH.g 12 rfl | exact hH.g 13 rfl | exact hH.g 14 rfl | exact hH.g 15 rfl | exact hH.g 16 rfl | exact hH.g 17 rfl | exact hH.g 18 rfl) (by omega) (by omega) (by omega) ?_
                rw [r1]
                refine ax_aload_n d_Mo_lightest_41 rfl ?_
                refine ax_get d_Mo_lightest_42 fg_Mo_43 (by first | assumption | exact hH.g 0 rfl | exact hH.g 1 rfl | exact hH.g 2 rfl | exact hH.g 3 rfl | exact hH.g 4 rfl | exact hH.g 5 rfl | exact hH.g 6 rfl | exact hH.g 7 rfl | exact hH.g 8 rfl | exact hH.g 9 rfl | exact hH.g 10 rfl | exact hH.g 11 rfl | exact hH.g 12 rfl | exact hH.g 13 rfl | exact hH.g 14 rfl | exact hH.g 15 rfl | exact hH.g 16 rfl | exact hH.g 17 rfl | exact hH.g 18 rfl) (by rfl) ?_
                refine ax_iload_n d_Mo_lightest_45 rfl ?_
                refine aj_lald d_Mo_lightest_46 (by first | assumption | exact hH.g 0 rfl | exact hH.g 1 rfl | exact hH.g 2 rfl | exact hH.g 3 rfl | exact hH.g 4 rfl | exact hH.g 5 rfl | exact hH.g 6 rfl | exact hH.g 7 rfl | exact hH.g 8 rfl | exact hH.g 9 rfl | exact hH.g 10 rfl | exact hH.g 11 rfl | exact hH.g 12 rfl | exact hH.g 13 rfl | exact hH.g 14 rfl | exact hH.g 15 rfl | exact hH.g 16 rfl | exact hH.g 17 rfl | exact hH.g 18 rfl) (by omega) (by omega) (by omega) ?_
                rw [s1]
                refine aj_lcmp d_Mo_lightest_47 (by omega) (by omega) ?_
                refine az_if_lt 84 d_Mo_lightest_48 (by decide) (by first | exact bz_in _ | omega) (fun hlt => ?_) (fun hlt => ?_)
                · exact take hno (Or.inr (Or.inl (by omega)))
                · refine ax_aload_n d_Mo_lightest_51 rfl ?_
                  refine ax_get d_Mo_lightest_52 fg_Mo_43 (by first | assumption | exact hH.g 0 rfl | exact hH.g 1 rfl | exact hH.g 2 rfl | exact hH.g 3 rfl | exact hH.g 4 rfl | exact hH.g 5 rfl | exact hH.g 6 rfl | exact hH.g 7 rfl | exact hH.g 8 rfl | exact hH.g 9 rfl | exact hH.g 10 rfl | exact hH.g 11 rfl | exact hH.g 12 rfl | exact hH.g 13 rfl | exact hH.g 14 rfl | exact hH.g 15 rfl | exact hH.g 16 rfl | exact hH.g 17 rfl | exact hH.g 18 rfl) (by rfl) ?_
                  refine ax_iload d_Mo_lightest_55 rfl ?_
                  refine aj_lald d_Mo_lightest_57 (by first | assumption | exact hH.g 0 rfl | exact hH.g 1 rfl | exact hH.g 2 rfl | exact hH.g 3 rfl | exact hH.g 4 rfl | exact hH.g 5 rfl | exact hH.g 6 rfl | exact hH.g 7 rfl | exact hH.g 8 rfl | exact hH.g 9 rfl | exact hH.g 10 rfl | exact hH.g 11 rfl | exact hH.g 12 rfl | exact hH.g 13 rfl | exact hH.g 14 rfl | exact hH.g 15 rfl | exact hH.g 16 rfl | exact hH.g 17 rfl | exact hH.g 18 rfl) (by omega) (by omega) (by omega) ?_
                  rw [r1]
                  refine ax_aload_n d_Mo_lightest_58 rfl ?_
                  refine ax_get d_Mo_lightest_59 fg_Mo_43 (by first | assumption | exact hH.g 0 rfl | exact hH.g 1 rfl | exact hH.g 2 rfl | exact hH.g 3 rfl | exact hH.g 4 rfl | exact hH.g 5 rfl | exact hH.g 6 rfl | exact hH.g 7 rfl | exact hH.g 8 rfl | exact hH.g 9 rfl | exact hH.g 10 rfl | exact hH.g 11 rfl | exact hH.g 12 rfl | exact hH.g 13 rfl | exact hH.g 14 rfl | exact hH.g 15 rfl | exact hH.g 16 rfl | exact hH.g 17 rfl | exact hH.g 18 rfl) (by rfl) ?_
                  refine ax_iload_n d_Mo_lightest_62 rfl ?_
                  refine aj_lald d_Mo_lightest_63 (by first | assumption | exact hH.g 0 rfl | exact hH.g 1 rfl | exact hH.g 2 rfl | exact hH.g 3 rfl | exact hH.g 4 rfl | exact hH.g 5 rfl | exact hH.g 6 rfl | exact hH.g 7 rfl | exact hH.g 8 rfl | exact hH.g 9 rfl | exact hH.g 10 rfl | exact hH.g 11 rfl | exact hH.g 12 rfl | exact hH.g 13 rfl | exact hH.g 14 rfl | exact hH.g 15 rfl | exact hH.g 16 rfl | exact hH.g 17 rfl | exact hH.g 18 rfl) (by omega) (by omega) (by omega) ?_
                  rw [s1]
                  refine aj_lcmp d_Mo_lightest_64 (by omega) (by omega) ?_
                  refine az_if_ne 87 d_Mo_lightest_65 (by decide) (by first | exact bz_in _ | omega) (fun hne => ?_) (fun hne => ?_)
                  · exact skip (Or.inr (by omega))
                  · refine ax_aload_n d_Mo_lightest_68 rfl ?_
                    refine ax_get d_Mo_lightest_69 fg_Mo_47 (by first | assumption | exact hH.g 0 rfl | exact hH.g 1 rfl | exact hH.g 2 rfl | exact hH.g 3 rfl | exact hH.g 4 rfl | exact hH.g 5 rfl | exact hH.g 6 rfl | exact hH.g 7 rfl | exact hH.g 8 rfl | exact hH.g 9 rfl | exact hH.g 10 rfl | exact hH.g 11 rfl | exact hH.g 12 rfl | exact hH.g 13 rfl | exact hH.g 14 rfl | exact hH.g 15 rfl | exact hH.g 16 rfl | exact hH.g 17 rfl | exact hH.g 18 rfl) (by rfl) ?_
                    refine ax_iload d_Mo_lightest_72 rfl ?_
                    refine az_iald d_Mo_lightest_74 (by first | assumption | exact hH.g 0 rfl | exact hH.g 1 rfl | exact hH.g 2 rfl | exact hH.g 3 rfl | exact hH.g 4 rfl | exact hH.g 5 rfl | exact hH.g 6 rfl | exact hH.g 7 rfl | exact hH.g 8 rfl | exact hH.g 9 rfl | exact hH.g 10 rfl | exact hH.g 11 rfl | exact hH.g 12 rfl | exact hH.g 13 rfl | exact hH.g 14 rfl | exact hH.g 15 rfl | exact hH.g 16 rfl | exact hH.g 17 rfl | exact hH.g 18 rfl) (by omega) (by omega) (by omega) ?_
                    rw [r2]
                    refine ax_aload_n d_Mo_lightest_75 rfl ?_
                    refine ax_get d_Mo_lightest_76 fg_Mo_47 (by first | assumption | exact hH.g 0 rfl | exact hH.g 1 rfl | exact hH.g 2 rfl | exact hH.g 3 rfl | exact hH.g 4 rfl | exact hH.g 5 rfl | exact hH.g 6 rfl | exact hH.g 7 rfl | exact hH.g 8 rfl | exact hH.g 9 rfl | exact hH.g 10 rfl | exact hH.g 11 rfl | exact hH.g 12 rfl | exact hH.g 13 rfl | exact hH.g 14 rfl | exact hH.g 15 rfl | exact hH.g 16 rfl | exact hH.g 17 rfl | exact hH.g 18 rfl) (by rfl) ?_
                    refine ax_iload_n d_Mo_lightest_79 rfl ?_
                    refine az_iald d_Mo_lightest_80 (by first | assumption | exact hH.g 0 rfl | exact hH.g 1 rfl | exact hH.g 2 rfl | exact hH.g 3 rfl | exact hH.g 4 rfl | exact hH.g 5 rfl | exact hH.g 6 rfl | exact hH.g 7 rfl | exact hH.g 8 rfl | exact hH.g 9 rfl | exact hH.g 10 rfl | exact hH.g 11 rfl | exact hH.g 12 rfl | exact hH.g 13 rfl | exact hH.g 14 rfl | exact hH.g 15 rfl | exact hH.g 16 rfl | exact hH.g 17 rfl | exact hH.g 18 rfl) (by omega) (by omega) (by omega) ?_
                    rw [s2]
                    refine az_icmp_ge 87 d_Mo_lightest_81 (by decide) (by omega) (by omega) (fun hge => ?_) (fun hge => ?_)
                    · exact skip (Or.inr (by omega))
                    · exact take hno (Or.inr (Or.inr (by omega)))
          · refine ax_goto 87 d_Mo_lightest_27 (by decide) ?_
            exact skip (Or.inl (Or.inr hnk))
  exact key all 0 (by omega)
