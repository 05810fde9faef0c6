/-! the reference: putInOrder -/
theorem blk_le {q' q w : Nat} (h : q' < q) : q' * (2 * w) + 2 * w ≤ q * (2 * w) := by
  have := Nat.mul_le_mul_right (2 * w) (show q' + 1 ≤ q from h)
  rw [Nat.add_mul, Nat.one_mul] at this
  exact this
theorem blk_lt {q' q w n : Nat} (h1 : q' * (2 * w) < n) (h2 : n ≤ q * (2 * w)) : q' < q := by
  apply Classical.byContradiction
  intro h
  have := Nat.mul_le_mul_right (2 * w) (show q ≤ q' by omega)
  omega
def PW (xs : List Int) (o : Nat → Int) (w : Nat) : Prop := ∀ q : Nat, q * w < xs.length → srtd (ltT xs) o (q * w) (min (q * w + w) xs.length)
set_option maxRecDepth 100000 in
set_option maxHeartbeats 16000000 in
theorem c_Mo_putInOrder {h0 : ax_H} {iz : Nat → Int} {ar : Nat → Nat → Int} {xs : List Int} (hH : MoH h0 iz ar) (hR : RwS iz ar xs) : ax_Cv m_Mo_putInOrder 2 [.ref 47] h0 (fun h1 => (∃ ar1, MoH h1 iz ar1 ∧ KA [4, 5] ar ar1 ∧ ∀ k : Nat, k < xs.length → ar1 4 k = ordT xs k) ∧ Fr MOS h0 h1) := by
  have hR0 := hR
  obtain ⟨e2, hn, -, -⟩ := hR
  have hok := ltT_ok xs
  have hF : Fr MOS h0 h0 := Fr.rf
  refine ax_enter [some (.ref 47), none, none, none, none, none, none, none, none] rfl (Nat.le_of_ble_eq_true rfl) (by decide) ?_
  refine az_iconst d_Mo_putInOrder_0 ?_
  refine ax_istore_n d_Mo_putInOrder_1 (by decide) rfl ?_
  have outer : ∀ (f w : Nat) (ar1 : Nat → Nat → Int) (h : ax_H), xs.length ≤ w + f → 1 ≤ w → w ≤ 2000 → MoH h iz ar1 → Fr MOS h0 h → KA [4, 5] ar ar1 → PW xs (ar1 4) w → ∀ v2 v3 v4 v5 v6 v7 v8 : Option Value,
      ax_W m_Mo_putInOrder 2 25 [some (.ref 47), some (.int (iv w)), v2, v3, v4, v5, v6, v7, v8] [] h (fun r0 h1 => r0 = none ∧ (∃ ar1, MoH h1 iz ar1 ∧ KA [4, 5] ar ar1 ∧ ∀ k : Nat, k < xs.length → ar1 4 k = ordT xs k) ∧ Fr MOS h0 h1) := by
    intro f
    induction f with
    | zero =>
      intro w ar1 h hf hw1 hw2 hH hF hka hpw v2 v3 v4 v5 v6 v7 v8
      refine ax_iload_n d_Mo_putInOrder_25 rfl ?_
      refine ax_aload_n d_Mo_putInOrder_26 rfl ?_
      refine ax_get d_Mo_putInOrder_27 fg_Mo_87 (by first | assumption | exact hH.g 0 rfl | exact hH.g 1 rfl | exact hH.g 2 rfl | exact hH.g 3 rfl | exact hH.g 4 rfl | exact hH.g 5 rfl | exact hH.g 6 rfl | exact hH.g 7 rfl | exact hH.g 8 rfl | exact hH.g 9 rfl | exact hH.g 10 rfl | exact hH.g 11 rfl | exact hH.g 12 rfl | exact hH.g 13 rfl | exact hH.g 14 rfl | exact hH.g 15 rfl | exact hH.g 16 rfl | exact hH.g 17 rfl | exact hH.g 18 rfl) (by rfl) ?_
      refine az_icmp_ge 229 d_Mo_putInOrder_30 (by decide) (by omega) (by omega) (fun hc => ?_) (fun hc => ?_)
      · refine ax_vret d_Mo_putInOrder_229 rfl ?_
        refine ⟨rfl, ⟨ar1, hH, hka, fun k hk => ?_⟩, hF⟩
        have h0 := hpw 0 (by omega)
        rw [Nat.zero_mul, Nat.zero_add, Nat.min_eq_right (by omega)] at h0
        exact srtd_ord h0 hk
      · exfalso
        omega
    | succ f ih =>
      intro w ar1 h hf hw1 hw2 hH hF hka hpw v2 v3 v4 v5 v6 v7 v8
      refine ax_iload_n d_Mo_putInOrder_25 rfl ?_
      refine ax_aload_n d_Mo_putInOrder_26 rfl ?_
      refine ax_get d_Mo_putInOrder_27 fg_Mo_87 (by first | assumption | exact hH.g 0 rfl | exact hH.g 1 rfl | exact hH.g 2 rfl | exact hH.g 3 rfl | exact hH.g 4 rfl | exact hH.g 5 rfl | exact hH.g 6 rfl | exact hH.g 7 rfl | exact hH.g 8 rfl | exact hH.g 9 rfl | exact hH.g 10 rfl | exact hH.g 11 rfl | exact hH.g 12 rfl | exact hH.g 13 rfl | exact hH.g 14 rfl | exact hH.g 15 rfl | exact hH.g 16 rfl | exact hH.g 17 rfl | exact hH.g 18 rfl) (by rfl) ?_
      refine az_icmp_ge 229 d_Mo_putInOrder_30 (by decide) (by omega) (by omega) (fun hwn => ?_) (fun hwn => ?_)
      · refine ax_vret d_Mo_putInOrder_229 rfl ?_
        refine ⟨rfl, ⟨ar1, hH, hka, fun k hk => ?_⟩, hF⟩
        have h0 := hpw 0 (by omega)
        rw [Nat.zero_mul, Nat.zero_add, Nat.min_eq_right (by omega)] at h0
        exact srtd_ord h0 hk
      · refine az_iconst d_Mo_putInOrder_33 ?_
        refine ax_istore_n d_Mo_putInOrder_34 (by decide) rfl ?_
        -- what is merged is copied
        have copy : ∀ (g j : Nat) (ar2 : Nat → Nat → Int) (h : ax_H), j + g = xs.length → MoH h iz ar2 → Fr MOS h0 h → KA [4, 5] ar ar2 → PW xs (ar2 5) (2 * w) → (∀ k : Nat, k < j → ar2 4 k = ar2 5 k) → ∀ v3 v4 v5 v6 v7 v8 : Option Value,
            ax_W m_Mo_putInOrder 2 196 [some (.ref 47), some (.int (iv w)), some (.int (iv j)), v3, v4, v5, v6, v7, v8] [] h (fun r0 h1 => r0 = none ∧ (∃ ar1, MoH h1 iz ar1 ∧ KA [4, 5] ar ar1 ∧ ∀ k : Nat, k < xs.length → ar1 4 k = ordT xs k) ∧ Fr MOS h0 h1) := by
          intro g
          induction g with
          | zero =>
            intro j ar2 h hj hH hF hka hpw2 hcp v3 v4 v5 v6 v7 v8
            refine ax_iload_n d_Mo_putInOrder_196 rfl ?_
            refine ax_aload_n d_Mo_putInOrder_197 rfl ?_
            refine ax_get d_Mo_putInOrder_198 fg_Mo_87 (by first | assumption | exact hH.g 0 rfl | exact hH.g 1 rfl | exact hH.g 2 rfl | exact hH.g 3 rfl | exact hH.g 4 rfl | exact hH.g 5 rfl | exact hH.g 6 rfl | exact hH.g 7 rfl | exact hH.g 8 rfl | exact hH.g 9 rfl | exact hH.g 10 rfl | exact hH.g 11 rfl | exact hH.g 12 rfl | exact hH.g 13 rfl | exact hH.g 14 rfl | exact hH.g 15 rfl | exact hH.g 16 rfl | exact hH.g 17 rfl | exact hH.g 18 rfl) (by rfl) ?_
            refine az_icmp_ge 222 d_Mo_putInOrder_201 (by decide) (by omega) (by omega) (fun hc => ?_) (fun hc => ?_)
            · refine ax_iload_n d_Mo_putInOrder_222 rfl ?_
              refine az_iconst d_Mo_putInOrder_223 ?_
              refine az_imul d_Mo_putInOrder_224 ?_
              refine ax_istore_n d_Mo_putInOrder_225 (by decide) rfl ?_
              refine ax_goto 25 d_Mo_putInOrder_226 (by decide) ?_
              have ew : (w : Int) * 2 = ((2 * w : Nat) : Int) := by omega
              rw [ew]
              refine ih (2 * w) ar2 h (by omega) (by omega) (by omega) hH hF hka (fun q hq => ?_) _ _ _ _ _ _ _
              exact srtd_cg (hpw2 q hq) (fun k h1 h2 => hcp k (by omega))
            · exfalso
              omega
          | succ g ih2 =>
            intro j ar2 h hj hH hF hka hpw2 hcp v3 v4 v5 v6 v7 v8
            refine ax_iload_n d_Mo_putInOrder_196 rfl ?_
            refine ax_aload_n d_Mo_putInOrder_197 rfl ?_
            refine ax_get d_Mo_putInOrder_198 fg_Mo_87 (by first | assumption | exact hH.g 0 rfl | exact hH.g 1 rfl | exact hH.g 2 rfl | exact hH.g 3 rfl | exact hH.g 4 rfl | exact hH.g 5 rfl | exact hH.g 6 rfl | exact hH.g 7 rfl | exact hH.g 8 rfl | exact hH.g 9 rfl | exact hH.g 10 rfl | exact hH.g 11 rfl | exact hH.g 12 rfl | exact hH.g 13 rfl | exact hH.g 14 rfl | exact hH.g 15 rfl | exact hH.g 16 rfl | exact hH.g 17 rfl | exact hH.g 18 rfl) (by rfl) ?_
            refine az_icmp_ge 222 d_Mo_putInOrder_201 (by decide) (by omega) (by omega) (fun hc => ?_) (fun hc => ?_)
            · exfalso
              omega
            · refine ax_aload_n d_Mo_putInOrder_204 rfl ?_
              refine ax_get d_Mo_putInOrder_205 fg_Mo_16 (by first | assumption | exact hH.g 0 rfl | exact hH.g 1 rfl | exact hH.g 2 rfl | exact hH.g 3 rfl | exact hH.g 4 rfl | exact hH.g 5 rfl | exact hH.g 6 rfl | exact hH.g 7 rfl | exact hH.g 8 rfl | exact hH.g 9 rfl | exact hH.g 10 rfl | exact hH.g 11 rfl | exact hH.g 12 rfl | exact hH.g 13 rfl | exact hH.g 14 rfl | exact hH.g 15 rfl | exact hH.g 16 rfl | exact hH.g 17 rfl | exact hH.g 18 rfl) (by rfl) ?_
              refine ax_iload_n d_Mo_putInOrder_208 rfl ?_
              refine ax_aload_n d_Mo_putInOrder_209 rfl ?_
              refine ax_get d_Mo_putInOrder_210 fg_Mo_19 (by first | assumption | exact hH.g 0 rfl | exact hH.g 1 rfl | exact hH.g 2 rfl | exact hH.g 3 rfl | exact hH.g 4 rfl | exact hH.g 5 rfl | exact hH.g 6 rfl | exact hH.g 7 rfl | exact hH.g 8 rfl | exact hH.g 9 rfl | exact hH.g 10 rfl | exact hH.g 11 rfl | exact hH.g 12 rfl | exact hH.g 13 rfl | exact hH.g 14 rfl | exact hH.g 15 rfl | exact hH.g 16 rfl | exact hH.g 17 rfl | exact hH.g 18 rfl) (by rfl) ?_
              refine ax_iload_n d_Mo_putInOrder_213 rfl ?_
              refine az_iald d_Mo_putInOrder_214 (by first | assumption | exact hH.g 0 rfl | exact hH.g 1 rfl | exact hH.g 2 rfl | exact hH.g 3 rfl | exact hH.g 4 rfl | exact hH.g 5 rfl | exact hH.g 6 rfl | exact hH.g 7 rfl | exact hH.g 8 rfl | exact hH.g 9 rfl | exact hH.g 10 rfl | exact hH.g 11 rfl | exact hH.g 12 rfl | exact hH.g 13 rfl | exact hH.g 14 rfl | exact hH.g 15 rfl | exact hH.g 16 rfl | exact hH.g 17 rfl | exact hH.g 18 rfl) (by omega) (by omega) (by omega) ?_
              first | refine ah_iast d_Mo_putInOrder_215 hH hF 0 rfl rfl (by omega) (by omega) (by omega) (by omega) (fun h hH hF => ?_) | refine ah_iast d_Mo_putInOrder_215 hH hF 1 rfl rfl (by omega) (by omega) (by omega) (by omega) (fun h hH hF => ?_) | refine ah_iast d_Mo_putInOrder_215 hH hF 2 rfl rfl (by omega) (by omega) (by omega) (by omega) (fun h hH hF => ?_) | refine ah_iast d_Mo_putInOrder_215 hH hF 3 rfl rfl (by omega) (by omega) (by omega) (by omega) (fun h hH hF => ?_) | refine ah_iast d_Mo_putInOrder_215 hH hF 4 rfl rfl (by omega) (by omega) (by omega) (by omega) (fun h hH hF => ?_) | refine ah_iast d_Mo_putInOrder_215 hH hF 5 rfl rfl (by omega) (by omega) (by omega) (by omega) (fun h hH hF => ?_) | refine ah_iast d_Mo_putInOrder_215 hH hF 6 rfl rfl (by omega) (by omega) (by omega) (by omega) (fun h hH hF => ?_) | refine ah_iast d_Mo_putInOrder_215 hH hF 7 rfl rfl (by omega) (by omega) (by omega) (by omega) (fun h hH hF => ?_) | refine ah_iast d_Mo_putInOrder_215 hH hF 8 rfl rfl (by omega) (by omega) (by omega) (by omega) (fun h hH hF => ?_) | refine ah_iast d_Mo_putInOrder_215 hH hF 9 rfl rfl (by omega) (by omega) (by omega) (by omega) (fun h hH hF => ?_) | refine ah_iast d_Mo_putInOrder_215 hH hF 10 rfl rfl (by omega) (by omega) (by omega) (by omega) (fun h hH hF => ?_) | refine ah_iast d_Mo_putInOrder_215 hH hF 11 rfl rfl (by omega) (by omega) (by omega) (by omega) (fun h hH hF => ?_) | refine ah_iast d_Mo_putInOrder_215 hH hF 12 rfl rfl (by omega) (by omega) (by omega) (by omega) (fun h hH hF => ?_) | refine ah_iast d_Mo_putInOrder_215 hH hF 13 rfl rfl (by omega) (by omega) (by omega) (by omega) (fun h hH hF => ?_) | refine ah_iast d_Mo_putInOrder_215 hH hF 14 rfl rfl (by omega) (by omega) (by omega) (by omega) (fun h hH hF => ?_) | refine ah_iast d_Mo_putInOrder_215 hH hF 15 rfl rfl (by omega) (by omega) (by omega) (by omega) (fun h hH hF => ?_) | refine ah_iast d_Mo_putInOrder_215 hH hF 16 rfl rfl (by omega) (by omega) (by omega) (by omega) (fun h hH hF => ?_) | refine ah_iast d_Mo_putInOrder_215 hH hF 17 rfl rfl (by omega) (by omega) (by omega) (by omega) (fun h hH hF => ?_) | refine ah_iast d_Mo_putInOrder_215 hH hF 18 rfl rfl (by omega) (by omega) (by omega) (by omega) (fun h hH hF => ?_)
              refine az_iinc d_Mo_putInOrder_216 rfl (by decide) rfl ?_
              refine ax_goto 196 d_Mo_putInOrder_219 (by decide) ?_
              refine ih2 (j + 1) (upA ar2 4 (up (ar2 4) j (ar2 5 j))) h (by omega) hH hF (hka.up 4 _ rfl) hpw2 (fun k hk => ?_) _ _ _ _ _ _
              show up (ar2 4) j (ar2 5 j) k = ar2 5 k
              by_cases e : k = j
              · subst e; rw [up_at]
              · rw [up_ne e]; exact hcp k (by omega)
        -- one pass
        have pass : ∀ (g q P : Nat) (ar2 : Nat → Nat → Int) (h : ax_H), P = q * w → xs.length ≤ 2 * P + g → 2 * P ≤ xs.length + 4000 → MoH h iz ar2 → Fr MOS h0 h → KA [4, 5] ar ar2 → ar2 4 = ar1 4 → (∀ q' : Nat, q' < q → srtd (ltT xs) (ar2 5) (q' * (2 * w)) (min (q' * (2 * w) + 2 * w) xs.length)) → ∀ v3 v4 v5 v6 v7 v8 : Option Value,
            ax_W m_Mo_putInOrder 2 35 [some (.ref 47), some (.int (iv w)), some (.int (iv ((2 * P : Nat) : Int))), v3, v4, v5, v6, v7, v8] [] h (fun r0 h1 => r0 = none ∧ (∃ ar1, MoH h1 iz ar1 ∧ KA [4, 5] ar ar1 ∧ ∀ k : Nat, k < xs.length → ar1 4 k = ordT xs k) ∧ Fr MOS h0 h1) := by
          intro g
          induction g with
          | zero =>
            intro q P ar2 h hP hg hP2 hH hF hka he4 hD v3 v4 v5 v6 v7 v8
            refine ax_iload_n d_Mo_putInOrder_35 rfl ?_
            refine ax_aload_n d_Mo_putInOrder_36 rfl ?_
            refine ax_get d_Mo_putInOrder_37 fg_Mo_87 (by first | assumption | exact hH.g 0 rfl | exact hH.g 1 rfl | exact hH.g 2 rfl | exact hH.g 3 rfl | exact hH.g 4 rfl | exact hH.g 5 rfl | exact hH.g 6 rfl | exact hH.g 7 rfl | exact hH.g 8 rfl | exact hH.g 9 rfl | exact hH.g 10 rfl | exact hH.g 11 rfl | exact hH.g 12 rfl | exact hH.g 13 rfl | exact hH.g 14 rfl | exact hH.g 15 rfl | exact hH.g 16 rfl | exact hH.g 17 rfl | exact hH.g 18 rfl) (by rfl) ?_
            refine az_icmp_ge 194 d_Mo_putInOrder_40 (by decide) (by omega) (by omega) (fun hc => ?_) (fun hc => ?_)
            · refine az_iconst d_Mo_putInOrder_194 ?_
              refine ax_istore_n d_Mo_putInOrder_195 (by decide) rfl ?_
              refine copy xs.length 0 ar2 h (by omega) hH hF hka (fun q' hq' => ?_) (fun k hk => by omega) _ _ _ _ _ _
              exact hD q' (blk_lt hq' (by rw [Nat.mul_left_comm, ← hP]; omega))
            · exfalso
              omega
          | succ g ih2 =>
            intro q P ar2 h hP hg hP2 hH hF hka he4 hD v3 v4 v5 v6 v7 v8
            refine ax_iload_n d_Mo_putInOrder_35 rfl ?_
            refine ax_aload_n d_Mo_putInOrder_36 rfl ?_
            refine ax_get d_Mo_putInOrder_37 fg_Mo_87 (by first | assumption | exact hH.g 0 rfl | exact hH.g 1 rfl | exact hH.g 2 rfl | exact hH.g 3 rfl | exact hH.g 4 rfl | exact hH.g 5 rfl | exact hH.g 6 rfl | exact hH.g 7 rfl | exact hH.g 8 rfl | exact hH.g 9 rfl | exact hH.g 10 rfl | exact hH.g 11 rfl | exact hH.g 12 rfl | exact hH.g 13 rfl | exact hH.g 14 rfl | exact hH.g 15 rfl | exact hH.g 16 rfl | exact hH.g 17 rfl | exact hH.g 18 rfl) (by rfl) ?_
            refine az_icmp_ge 194 d_Mo_putInOrder_40 (by decide) (by omega) (by omega) (fun hfn => ?_) (fun hfn => ?_)
            · refine az_iconst d_Mo_putInOrder_194 ?_
              refine ax_istore_n d_Mo_putInOrder_195 (by decide) rfl ?_
              refine copy xs.length 0 ar2 h (by omega) hH hF hka (fun q' hq' => ?_) (fun k hk => by omega) _ _ _ _ _ _
              exact hD q' (blk_lt hq' (by rw [Nat.mul_left_comm, ← hP]; omega))
            · have hR2 : RwS iz ar2 xs := hR0.fr (KI.rf (K := [])) hka rfl rfl
              -- the two parts
              have e2q : 2 * q * w = 2 * P := by rw [Nat.mul_assoc, ← hP]
              have e2q1 : (2 * q + 1) * w = 2 * P + w := by rw [Nat.add_mul, Nat.one_mul, e2q]
              have hleft := hpw (2 * q) (by rw [e2q]; omega)
              rw [e2q, ← he4] at hleft
              have inner : ∀ (mid en : Nat), mid = min (2 * P + w) xs.length → en = min (mid + w) xs.length → ∀ (r a b : Nat) (ar3 : Nat → Nat → Int) (h : ax_H) (v8 : Option Value), a + (b - mid) + r = en → 2 * P ≤ a → a ≤ mid → mid ≤ b → b ≤ en → MoH h iz ar3 → Fr MOS h0 h → KA [4, 5] ar ar3 → ar3 4 = ar1 4 → mrg (ltT xs) (ar3 4) (ar3 5) (2 * P) a mid b en → (∀ q' : Nat, q' < q → srtd (ltT xs) (ar3 5) (q' * (2 * w)) (min (q' * (2 * w) + 2 * w) xs.length)) →
                  ax_W m_Mo_putInOrder 2 98 [some (.ref 47), some (.int (iv w)), some (.int (iv ((2 * P : Nat) : Int))), some (.int (iv a)), some (.int (iv mid)), some (.int (iv b)), some (.int (iv en)), some (.int (iv ((a + (b - mid) : Nat) : Int))), v8] [] h (fun r0 h1 => r0 = none ∧ (∃ ar1, MoH h1 iz ar1 ∧ KA [4, 5] ar ar1 ∧ ∀ k : Nat, k < xs.length → ar1 4 k = ordT xs k) ∧ Fr MOS h0 h1) := by
                intro mid en hmid hen r
                have hright : srtd (ltT xs) (ar1 4) mid en := by
                  by_cases w1 : 2 * P + w < xs.length
                  · have := hpw (2 * q + 1) (by rw [e2q1]; omega)
                    rw [e2q1] at this
                    have em : mid = 2 * P + w := by omega
                    have ee : en = min (2 * P + w + w) xs.length := by omega
                    rw [em, ee]
                    exact this
                  · have em : mid = xs.length := by omega
                    have ee : en = xs.length := by omega
                    rw [em, ee]
                    exact ⟨fun k h1 h2 => by omega, fun j k h1 h2 h3 => by omega⟩
                rw [← hmid, he4] at hleft
                induction r with
                | zero =>
                  intro a b ar3 h v8 hr ha1 ha2 hb1 hb2 hH hF hka he4' hmg hD
                  have ha : a = mid := by omega
                  have hb : b = en := by omega
                  subst ha
                  subst hb
                  refine ax_iload d_Mo_putInOrder_98 rfl ?_
                  refine ax_iload d_Mo_putInOrder_100 rfl ?_
                  refine az_icmp_ge 185 d_Mo_putInOrder_102 (by decide) (by omega) (by omega) (fun hc => ?_) (fun hc => ?_)
                  · refine ax_iload_n d_Mo_putInOrder_185 rfl ?_
                    refine az_iconst d_Mo_putInOrder_186 ?_
                    refine ax_iload_n d_Mo_putInOrder_187 rfl ?_
                    refine az_imul d_Mo_putInOrder_188 ?_
                    refine az_iadd d_Mo_putInOrder_189 ?_
                    refine ax_istore_n d_Mo_putInOrder_190 (by decide) rfl ?_
                    refine ax_goto 35 d_Mo_putInOrder_191 (by decide) ?_
                    have ef : ((2 * P : Nat) : Int) + 2 * (w : Int) = ((2 * (P + w) : Nat) : Int) := by omega
                    rw [ef]
                    refine ih2 (q + 1) (P + w) ar3 h (by rw [Nat.add_mul, Nat.one_mul, hP]) (by omega) (by omega) hH hF hka he4' (fun q' hq' => ?_) _ _ _ _ _ _
                    by_cases e : q' = q
                    · subst e
                      have e3 : q' * (2 * w) = 2 * P := by rw [Nat.mul_left_comm, ← hP]
                      have e4 : min (2 * P + 2 * w) xs.length = b := by omega
                      rw [e3, e4]
                      have e5 : a + (b - a) = b := by omega
                      obtain ⟨g1, g2, -, -⟩ := hmg
                      rw [e5] at g1 g2
                      exact ⟨g1, g2⟩
                    · exact hD q' (by omega)
                  · exfalso
                    omega
                | succ r ih3 =>
                  intro a b ar3 h v8 hr ha1 ha2 hb1 hb2 hH hF hka he4' hmg hD
                  have hR3 : RwS iz ar3 xs := hR0.fr (KI.rf (K := [])) hka rfl rfl
                  have hnew : ∀ x : Int, ∀ q' : Nat, q' < q → srtd (ltT xs) (up (ar3 5) (a + (b - mid)) x) (q' * (2 * w)) (min (q' * (2 * w) + 2 * w) xs.length) := by
                    intro x q' hq'
                    have hb := blk_le (w := w) hq'
                    rw [Nat.mul_left_comm q, ← hP] at hb
                    exact srtd_cg (hD q' hq') (fun k h1 h2 => up_ne (by omega))
                  have takeL : a < mid → (b < en → ltT xs (ar3 4 a).toNat (ar3 4 b).toNat = true) → ax_W m_Mo_putInOrder 2 143 [some (.ref 47), some (.int (iv w)), some (.int (iv ((2 * P : Nat) : Int))), some (.int (iv a)), some (.int (iv mid)), some (.int (iv b)), some (.int (iv en)), some (.int (iv ((a + (b - mid) : Nat) : Int))), v8] [.int (iv 1)] h (fun r0 h1 => r0 = none ∧ (∃ ar1, MoH h1 iz ar1 ∧ KA [4, 5] ar ar1 ∧ ∀ k : Nat, k < xs.length → ar1 4 k = ordT xs k) ∧ Fr MOS h0 h1) := by
                    intro hlt hab
                    have hm2 := mrg_left hok (by omega) (by rw [he4']; exact hleft) (by rw [he4']; exact hright) hmg ha1 hlt hb1 hb2 hab
                    refine ax_istore d_Mo_putInOrder_143 (by decide) rfl ?_
                    refine ax_aload_n d_Mo_putInOrder_145 rfl ?_
                    refine ax_get d_Mo_putInOrder_146 fg_Mo_19 (by first | assumption | exact hH.g 0 rfl | exact hH.g 1 rfl | exact hH.g 2 rfl | exact hH.g 3 rfl | exact hH.g 4 rfl | exact hH.g 5 rfl | exact hH.g 6 rfl | exact hH.g 7 rfl | exact hH.g 8 rfl | exact hH.g 9 rfl | exact hH.g 10 rfl | exact hH.g 11 rfl | exact hH.g 12 rfl | exact hH.g 13 rfl | exact hH.g 14 rfl | exact hH.g 15 rfl | exact hH.g 16 rfl | exact hH.g 17 rfl | exact hH.g 18 rfl) (by rfl) ?_
                    refine ax_iload d_Mo_putInOrder_149 rfl ?_
                    refine ax_iload d_Mo_putInOrder_151 rfl ?_
                    refine az_if_eq 168 d_Mo_putInOrder_153 (by decide) (by first | exact bz_in _ | omega) (fun hz => ?_) (fun hz => ?_)
                    · exfalso
                      omega
                    · refine ax_aload_n d_Mo_putInOrder_156 rfl ?_
                      refine ax_get d_Mo_putInOrder_157 fg_Mo_16 (by first | assumption | exact hH.g 0 rfl | exact hH.g 1 rfl | exact hH.g 2 rfl | exact hH.g 3 rfl | exact hH.g 4 rfl | exact hH.g 5 rfl | exact hH.g 6 rfl | exact hH.g 7 rfl | exact hH.g 8 rfl | exact hH.g 9 rfl | exact hH.g 10 rfl | exact hH.g 11 rfl | exact hH.g 12 rfl | exact hH.g 13 rfl | exact hH.g 14 rfl | exact hH.g 15 rfl | exact hH.g 16 rfl | exact hH.g 17 rfl | exact hH.g 18 rfl) (by rfl) ?_
                      refine ax_iload_n d_Mo_putInOrder_160 rfl ?_
                      refine az_iinc d_Mo_putInOrder_161 rfl (by decide) rfl ?_
                      refine az_iald d_Mo_putInOrder_164 (by first | assumption | exact hH.g 0 rfl | exact hH.g 1 rfl | exact hH.g 2 rfl | exact hH.g 3 rfl | exact hH.g 4 rfl | exact hH.g 5 rfl | exact hH.g 6 rfl | exact hH.g 7 rfl | exact hH.g 8 rfl | exact hH.g 9 rfl | exact hH.g 10 rfl | exact hH.g 11 rfl | exact hH.g 12 rfl | exact hH.g 13 rfl | exact hH.g 14 rfl | exact hH.g 15 rfl | exact hH.g 16 rfl | exact hH.g 17 rfl | exact hH.g 18 rfl) (by omega) (by omega) (by omega) ?_
                      refine ax_goto 178 d_Mo_putInOrder_165 (by decide) ?_
                      first | refine ah_iast d_Mo_putInOrder_178 hH hF 0 rfl rfl (by omega) (by omega) (by omega) (by omega) (fun h hH hF => ?_) | refine ah_iast d_Mo_putInOrder_178 hH hF 1 rfl rfl (by omega) (by omega) (by omega) (by omega) (fun h hH hF => ?_) | refine ah_iast d_Mo_putInOrder_178 hH hF 2 rfl rfl (by omega) (by omega) (by omega) (by omega) (fun h hH hF => ?_) | refine ah_iast d_Mo_putInOrder_178 hH hF 3 rfl rfl (by omega) (by omega) (by omega) (by omega) (fun h hH hF => ?_) | refine ah_iast d_Mo_putInOrder_178 hH hF 4 rfl rfl (by omega) (by omega) (by omega) (by omega) (fun h hH hF => ?_) | refine ah_iast d_Mo_putInOrder_178 hH hF 5 rfl rfl (by omega) (by omega) (by omega) (by omega) (fun h hH hF => ?_) | refine ah_iast d_Mo_putInOrder_178 hH hF 6 rfl rfl (by omega) (by omega) (by omega) (by omega) (fun h hH hF => ?_) | refine ah_iast d_Mo_putInOrder_178 hH hF 7 rfl rfl (by omega) (by omega) (by omega) (by omega) (fun h hH hF => ?_) | refine ah_iast d_Mo_putInOrder_178 hH hF 8 rfl rfl (by omega) (by omega) (by omega) (by omega) (fun h hH hF => ?_) | refine ah_iast d_Mo_putInOrder_178 hH hF 9 rfl rfl (by omega) (by omega) (by omega) (by omega) (fun h hH hF => ?_) | refine ah_iast d_Mo_putInOrder_178 hH hF 10 rfl rfl (by omega) (by omega) (by omega) (by omega) (fun h hH hF => ?_) | refine ah_iast d_Mo_putInOrder_178 hH hF 11 rfl rfl (by omega) (by omega) (by omega) (by omega) (fun h hH hF => ?_) | refine ah_iast d_Mo_putInOrder_178 hH hF 12 rfl rfl (by omega) (by omega) (by omega) (by omega) (fun h hH hF => ?_) | refine ah_iast d_Mo_putInOrder_178 hH hF 13 rfl rfl (by omega) (by omega) (by omega) (by omega) (fun h hH hF => ?_) | refine ah_iast d_Mo_putInOrder_178 hH hF 14 rfl rfl (by omega) (by omega) (by omega) (by omega) (fun h hH hF => ?_) | refine ah_iast d_Mo_putInOrder_178 hH hF 15 rfl rfl (by omega) (by omega) (by omega) (by omega) (fun h hH hF => ?_) | refine ah_iast d_Mo_putInOrder_178 hH hF 16 rfl rfl (by omega) (by omega) (by omega) (by omega) (fun h hH hF => ?_) | refine ah_iast d_Mo_putInOrder_178 hH hF 17 rfl rfl (by omega) (by omega) (by omega) (by omega) (fun h hH hF => ?_) | refine ah_iast d_Mo_putInOrder_178 hH hF 18 rfl rfl (by omega) (by omega) (by omega) (by omega) (fun h hH hF => ?_)
                      refine az_iinc d_Mo_putInOrder_179 rfl (by decide) rfl ?_
                      refine ax_goto 98 d_Mo_putInOrder_182 (by decide) ?_
                      have e1 : ((a + (b - mid) : Nat) : Int) + 1 = ((a + 1 + (b - mid) : Nat) : Int) := by omega
                      have e3 : (a : Int) + 1 = ((a + 1 : Nat) : Int) := by omega
                      rw [e1, e3]
                      exact ih3 (a + 1) b (upA ar3 5 (up (ar3 5) (a + (b - mid)) (ar3 4 a))) h _ (by omega) (by omega) (by omega) hb1 hb2 hH hF (hka.up 5 _ rfl) he4' hm2 (hnew _)
                  have takeR : b < en → (a < mid → ltT xs (ar3 4 b).toNat (ar3 4 a).toNat = true) → ax_W m_Mo_putInOrder 2 143 [some (.ref 47), some (.int (iv w)), some (.int (iv ((2 * P : Nat) : Int))), some (.int (iv a)), some (.int (iv mid)), some (.int (iv b)), some (.int (iv en)), some (.int (iv ((a + (b - mid) : Nat) : Int))), v8] [.int (iv 0)] h (fun r0 h1 => r0 = none ∧ (∃ ar1, MoH h1 iz ar1 ∧ KA [4, 5] ar ar1 ∧ ∀ k : Nat, k < xs.length → ar1 4 k = ordT xs k) ∧ Fr MOS h0 h1) := by
                    intro hlt hab
                    have hm2 := mrg_right hok (by omega) (by rw [he4']; exact hleft) (by rw [he4']; exact hright) hmg ha1 ha2 hb1 hlt hab
                    refine ax_istore d_Mo_putInOrder_143 (by decide) rfl ?_
                    refine ax_aload_n d_Mo_putInOrder_145 rfl ?_
                    refine ax_get d_Mo_putInOrder_146 fg_Mo_19 (by first | assumption | exact hH.g 0 rfl | exact hH.g 1 rfl | exact hH.g 2 rfl | exact hH.g 3 rfl | exact hH.g 4 rfl | exact hH.g 5 rfl | exact hH.g 6 rfl | exact hH.g 7 rfl | exact hH.g 8 rfl | exact hH.g 9 rfl | exact hH.g 10 rfl | exact hH.g 11 rfl | exact hH.g 12 rfl | exact hH.g 13 rfl | exact hH.g 14 rfl | exact hH.g 15 rfl | exact hH.g 16 rfl | exact hH.g 17 rfl | exact hH.g 18 rfl) (by rfl) ?_
                    refine ax_iload d_Mo_putInOrder_149 rfl ?_
                    refine ax_iload d_Mo_putInOrder_151 rfl ?_
                    refine az_if_eq 168 d_Mo_putInOrder_153 (by decide) (by first | exact bz_in _ | omega) (fun hz => ?_) (fun hz => ?_)
                    · refine ax_aload_n d_Mo_putInOrder_168 rfl ?_
                      refine ax_get d_Mo_putInOrder_169 fg_Mo_16 (by first | assumption | exact hH.g 0 rfl | exact hH.g 1 rfl | exact hH.g 2 rfl | exact hH.g 3 rfl | exact hH.g 4 rfl | exact hH.g 5 rfl | exact hH.g 6 rfl | exact hH.g 7 rfl | exact hH.g 8 rfl | exact hH.g 9 rfl | exact hH.g 10 rfl | exact hH.g 11 rfl | exact hH.g 12 rfl | exact hH.g 13 rfl | exact hH.g 14 rfl | exact hH.g 15 rfl | exact hH.g 16 rfl | exact hH.g 17 rfl | exact hH.g 18 rfl) (by rfl) ?_
                      refine ax_iload d_Mo_putInOrder_172 rfl ?_
                      refine az_iinc d_Mo_putInOrder_174 rfl (by decide) rfl ?_
                      refine az_iald d_Mo_putInOrder_177 (by first | assumption | exact hH.g 0 rfl | exact hH.g 1 rfl | exact hH.g 2 rfl | exact hH.g 3 rfl | exact hH.g 4 rfl | exact hH.g 5 rfl | exact hH.g 6 rfl | exact hH.g 7 rfl | exact hH.g 8 rfl | exact hH.g 9 rfl | exact hH.g 10 rfl | exact hH.g 11 rfl | exact hH.g 12 rfl | exact hH.g 13 rfl | exact hH.g 14 rfl | exact hH.g 15 rfl | exact hH.g 16 rfl | exact hH.g 17 rfl | exact hH.g 18 rfl) (by omega) (by omega) (by omega) ?_
                      first | refine ah_iast d_Mo_putInOrder_178 hH hF 0 rfl rfl (by omega) (by omega) (by omega) (by omega) (fun h hH hF => ?_) | refine ah_iast d_Mo_putInOrder_178 hH hF 1 rfl rfl (by omega) (by omega) (by omega) (by omega) (fun h hH hF => ?_) | refine ah_iast d_Mo_putInOrder_178 hH hF 2 rfl rfl (by omega) (by omega) (by omega) (by omega) (fun h hH hF => ?_) | refine ah_iast d_Mo_putInOrder_178 hH hF 3 rfl rfl (by omega) (by omega) (by omega) (by omega) (fun h hH hF => ?_) | refine ah_iast d_Mo_putInOrder_178 hH hF 4 rfl rfl (by omega) (by omega) (by omega) (by omega) (fun h hH hF => ?_) | refine ah_iast d_Mo_putInOrder_178 hH hF 5 rfl rfl (by omega) (by omega) (by omega) (by omega) (fun h hH hF => ?_) | refine ah_iast d_Mo_putInOrder_178 hH hF 6 rfl rfl (by omega) (by omega) (by omega) (by omega) (fun h hH hF => ?_) | refine ah_iast d_Mo_putInOrder_178 hH hF 7 rfl rfl (by omega) (by omega) (by omega) (by omega) (fun h hH hF => ?_) | refine ah_iast d_Mo_putInOrder_178 hH hF 8 rfl rfl (by omega) (by omega) (by omega) (by omega) (fun h hH hF => ?_) | refine ah_iast d_Mo_putInOrder_178 hH hF 9 rfl rfl (by omega) (by omega) (by omega) (by omega) (fun h hH hF => ?_) | refine ah_iast d_Mo_putInOrder_178 hH hF 10 rfl rfl (by omega) (by omega) (by omega) (by omega) (fun h hH hF => ?_) | refine ah_iast d_Mo_putInOrder_178 hH hF 11 rfl rfl (by omega) (by omega) (by omega) (by omega) (fun h hH hF => ?_) | refine ah_iast d_Mo_putInOrder_178 hH hF 12 rfl rfl (by omega) (by omega) (by omega) (by omega) (fun h hH hF => ?_) | refine ah_iast d_Mo_putInOrder_178 hH hF 13 rfl rfl (by omega) (by omega) (by omega) (by omega) (fun h hH hF => ?_) | refine ah_iast d_Mo_putInOrder_178 hH hF 14 rfl rfl (by omega) (by omega) (by omega) (by omega) (fun h hH hF => ?_) | refine ah_iast d_Mo_putInOrder_178 hH hF 15 rfl rfl (by omega) (by omega) (by omega) (by omega) (fun h hH hF => ?_) | refine ah_iast d_Mo_putInOrder_178 hH hF 16 rfl rfl (by omega) (by omega) (by omega) (by omega) (fun h hH hF => ?_) | refine ah_iast d_Mo_putInOrder_178 hH hF 17 rfl rfl (by omega) (by omega) (by omega) (by omega) (fun h hH hF => ?_) | refine ah_iast d_Mo_putInOrder_178 hH hF 18 rfl rfl (by omega) (by omega) (by omega) (by omega) (fun h hH hF => ?_)
                      refine az_iinc d_Mo_putInOrder_179 rfl (by decide) rfl ?_
                      refine ax_goto 98 d_Mo_putInOrder_182 (by decide) ?_
                      have e1 : ((a + (b - mid) : Nat) : Int) + 1 = ((a + (b + 1 - mid) : Nat) : Int) := by omega
                      have e3 : (b : Int) + 1 = ((b + 1 : Nat) : Int) := by omega
                      rw [e1, e3]
                      exact ih3 a (b + 1) (upA ar3 5 (up (ar3 5) (a + (b - mid)) (ar3 4 b))) h _ (by omega) ha1 ha2 (by omega) (by omega) hH hF (hka.up 5 _ rfl) he4' hm2 (hnew _)
                    · exfalso
                      omega
                  refine ax_iload d_Mo_putInOrder_98 rfl ?_
                  refine ax_iload d_Mo_putInOrder_100 rfl ?_
                  refine az_icmp_ge 185 d_Mo_putInOrder_102 (by decide) (by omega) (by omega) (fun hc => ?_) (fun hc => ?_)
                  · exfalso
                    omega
                  · refine ax_iload_n d_Mo_putInOrder_105 rfl ?_
                    refine ax_iload d_Mo_putInOrder_106 rfl ?_
                    refine az_icmp_ge 142 d_Mo_putInOrder_108 (by decide) (by omega) (by omega) (fun hc1 => ?_) (fun hc1 => ?_)
                    · refine az_iconst d_Mo_putInOrder_142 ?_
                      exact takeR (by omega) (fun q => by omega)
                    · refine ax_iload d_Mo_putInOrder_111 rfl ?_
                      refine ax_iload d_Mo_putInOrder_113 rfl ?_
                      refine az_icmp_ge 138 d_Mo_putInOrder_115 (by decide) (by omega) (by omega) (fun hc2 => ?_) (fun hc2 => ?_)
                      · refine az_iconst d_Mo_putInOrder_138 ?_
                        refine ax_goto 143 d_Mo_putInOrder_139 (by decide) ?_
                        exact takeL (by omega) (fun q => by omega)
                      · have ra := hleft.1 a ha1 (by omega)
                        have rb := hright.1 b hb1 (by omega)
                        rw [← he4'] at ra rb
                        have ea : ar3 4 a = ((ar3 4 a).toNat : Int) := by omega
                        have eb : ar3 4 b = ((ar3 4 b).toNat : Int) := by omega
                        refine ax_aload_n d_Mo_putInOrder_118 rfl ?_
                        refine ax_aload_n d_Mo_putInOrder_119 rfl ?_
                        refine ax_get d_Mo_putInOrder_120 fg_Mo_16 (by first | assumption | exact hH.g 0 rfl | exact hH.g 1 rfl | exact hH.g 2 rfl | exact hH.g 3 rfl | exact hH.g 4 rfl | exact hH.g 5 rfl | exact hH.g 6 rfl | exact hH.g 7 rfl | exact hH.g 8 rfl | exact hH.g 9 rfl | exact hH.g 10 rfl | exact hH.g 11 rfl | exact hH.g 12 rfl | exact hH.g 13 rfl | exact hH.g 14 rfl | exact hH.g 15 rfl | exact hH.g 16 rfl | exact hH.g 17 rfl | exact hH.g 18 rfl) (by rfl) ?_
                        refine ax_iload_n d_Mo_putInOrder_123 rfl ?_
                        refine az_iald d_Mo_putInOrder_124 (by first | assumption | exact hH.g 0 rfl | exact hH.g 1 rfl | exact hH.g 2 rfl | exact hH.g 3 rfl | exact hH.g 4 rfl | exact hH.g 5 rfl | exact hH.g 6 rfl | exact hH.g 7 rfl | exact hH.g 8 rfl | exact hH.g 9 rfl | exact hH.g 10 rfl | exact hH.g 11 rfl | exact hH.g 12 rfl | exact hH.g 13 rfl | exact hH.g 14 rfl | exact hH.g 15 rfl | exact hH.g 16 rfl | exact hH.g 17 rfl | exact hH.g 18 rfl) (by omega) (by omega) (by omega) ?_
                        refine ax_aload_n d_Mo_putInOrder_125 rfl ?_
                        refine ax_get d_Mo_putInOrder_126 fg_Mo_16 (by first | assumption | exact hH.g 0 rfl | exact hH.g 1 rfl | exact hH.g 2 rfl | exact hH.g 3 rfl | exact hH.g 4 rfl | exact hH.g 5 rfl | exact hH.g 6 rfl | exact hH.g 7 rfl | exact hH.g 8 rfl | exact hH.g 9 rfl | exact hH.g 10 rfl | exact hH.g 11 rfl | exact hH.g 12 rfl | exact hH.g 13 rfl | exact hH.g 14 rfl | exact hH.g 15 rfl | exact hH.g 16 rfl | exact hH.g 17 rfl | exact hH.g 18 rfl) (by rfl) ?_
                        refine ax_iload d_Mo_putInOrder_129 rfl ?_
                        refine az_iald d_Mo_putInOrder_131 (by first | assumption | exact hH.g 0 rfl | exact hH.g 1 rfl | exact hH.g 2 rfl | exact hH.g 3 rfl | exact hH.g 4 rfl | exact hH.g 5 rfl | exact hH.g 6 rfl | exact hH.g 7 rfl | exact hH.g 8 rfl | exact hH.g 9 rfl | exact hH.g 10 rfl | exact hH.g 11 rfl | exact hH.g 12 rfl | exact hH.g 13 rfl | exact hH.g 14 rfl | exact hH.g 15 rfl | exact hH.g 16 rfl | exact hH.g 17 rfl | exact hH.g 18 rfl) (by omega) (by omega) (by omega) ?_
                        have ea' : ar3 4 (((a : Nat) : Int).toNat) = ((ar3 4 a).toNat : Int) := ea
                        have eb' : ar3 4 (((b : Nat) : Int).toNat) = ((ar3 4 b).toNat : Int) := eb
                        rw [ea', eb']
                        refine ax_cV2 d_Mo_putInOrder_132 v_Mo_isAbove lk_Mo_97 (by first | assumption | exact hH.g 0 rfl | exact hH.g 1 rfl | exact hH.g 2 rfl | exact hH.g 3 rfl | exact hH.g 4 rfl | exact hH.g 5 rfl | exact hH.g 6 rfl | exact hH.g 7 rfl | exact hH.g 8 rfl | exact hH.g 9 rfl | exact hH.g 10 rfl | exact hH.g 11 rfl | exact hH.g 12 rfl | exact hH.g 13 rfl | exact hH.g 14 rfl | exact hH.g 15 rfl | exact hH.g 16 rfl | exact hH.g 17 rfl | exact hH.g 18 rfl) (by decide) (Nat.le_of_ble_eq_true rfl) (cm_z (c_Mo_isAbove hH hR3 (a := (ar3 4 a).toNat) (b := (ar3 4 b).toNat) (by omega) (by omega)) (fun z h5 hq => ?_))
                        obtain ⟨rfl, rfl⟩ := hq
                        refine az_if_ne 142 d_Mo_putInOrder_135 (by decide) (bz_in _) (fun hcb => ?_) (fun hcb => ?_)
                        · have hab := of_decide_eq_true (bz_t hcb)
                          refine az_iconst d_Mo_putInOrder_142 ?_
                          exact takeR (by omega) (fun _ => ltT_gt hab)
                        · have hab := of_decide_eq_false (bz_f hcb)
                          refine az_iconst d_Mo_putInOrder_138 ?_
                          refine ax_goto 143 d_Mo_putInOrder_139 (by decide) ?_
                          refine takeL (by omega) (fun _ => ?_)
                          rw [ltT_lt (by omega)]
                          exact decide_eq_true hab
              -- middle and end
              have fin : ∀ (mid : Nat), mid = min (2 * P + w) xs.length → ax_W m_Mo_putInOrder 2 65 [some (.ref 47), some (.int (iv w)), some (.int (iv ((2 * P : Nat) : Int))), some (.int (iv ((2 * P : Nat) : Int))), v4, v5, v6, v7, v8] [.int (iv mid)] h (fun r0 h1 => r0 = none ∧ (∃ ar1, MoH h1 iz ar1 ∧ KA [4, 5] ar ar1 ∧ ∀ k : Nat, k < xs.length → ar1 4 k = ordT xs k) ∧ Fr MOS h0 h1) := by
                intro mid hmid
                have fin2 : ∀ (en : Nat), en = min (mid + w) xs.length → ax_W m_Mo_putInOrder 2 93 [some (.ref 47), some (.int (iv w)), some (.int (iv ((2 * P : Nat) : Int))), some (.int (iv ((2 * P : Nat) : Int))), some (.int (iv mid)), some (.int (iv mid)), v6, v7, v8] [.int (iv en)] h (fun r0 h1 => r0 = none ∧ (∃ ar1, MoH h1 iz ar1 ∧ KA [4, 5] ar ar1 ∧ ∀ k : Nat, k < xs.length → ar1 4 k = ordT xs k) ∧ Fr MOS h0 h1) := by
                  intro en hen
                  refine ax_istore d_Mo_putInOrder_93 (by decide) rfl ?_
                  refine ax_iload_n d_Mo_putInOrder_95 rfl ?_
                  refine ax_istore d_Mo_putInOrder_96 (by decide) rfl ?_
                  have := inner mid en hmid hen (en - 2 * P) (2 * P) mid ar2 h v8 (by omega) (Nat.le_refl _) (by omega) (Nat.le_refl _) (by omega) hH hF hka he4 (mrg_0 (by omega)) hD
                  rw [Nat.sub_self, Nat.add_zero] at this
                  exact this
                refine ax_istore d_Mo_putInOrder_65 (by decide) rfl ?_
                refine ax_iload d_Mo_putInOrder_67 rfl ?_
                refine ax_istore d_Mo_putInOrder_69 (by decide) rfl ?_
                refine ax_iload d_Mo_putInOrder_71 rfl ?_
                refine ax_iload_n d_Mo_putInOrder_73 rfl ?_
                refine az_iadd d_Mo_putInOrder_74 ?_
                refine ax_aload_n d_Mo_putInOrder_75 rfl ?_
                refine ax_get d_Mo_putInOrder_76 fg_Mo_87 (by first | assumption | exact hH.g 0 rfl | exact hH.g 1 rfl | exact hH.g 2 rfl | exact hH.g 3 rfl | exact hH.g 4 rfl | exact hH.g 5 rfl | exact hH.g 6 rfl | exact hH.g 7 rfl | exact hH.g 8 rfl | exact hH.g 9 rfl | exact hH.g 10 rfl | exact hH.g 11 rfl | exact hH.g 12 rfl | exact hH.g 13 rfl | exact hH.g 14 rfl | exact hH.g 15 rfl | exact hH.g 16 rfl | exact hH.g 17 rfl | exact hH.g 18 rfl) (by rfl) ?_
                refine az_icmp_ge 89 d_Mo_putInOrder_79 (by decide) (by omega) (by omega) (fun hme => ?_) (fun hme => ?_)
                · refine ax_aload_n d_Mo_putInOrder_89 rfl ?_
                  refine ax_get d_Mo_putInOrder_90 fg_Mo_87 (by first | assumption | exact hH.g 0 rfl | exact hH.g 1 rfl | exact hH.g 2 rfl | exact hH.g 3 rfl | exact hH.g 4 rfl | exact hH.g 5 rfl | exact hH.g 6 rfl | exact hH.g 7 rfl | exact hH.g 8 rfl | exact hH.g 9 rfl | exact hH.g 10 rfl | exact hH.g 11 rfl | exact hH.g 12 rfl | exact hH.g 13 rfl | exact hH.g 14 rfl | exact hH.g 15 rfl | exact hH.g 16 rfl | exact hH.g 17 rfl | exact hH.g 18 rfl) (by rfl) ?_
                  rw [e2]
                  exact fin2 xs.length (by omega)
                · refine ax_iload d_Mo_putInOrder_82 rfl ?_
                  refine ax_iload_n d_Mo_putInOrder_84 rfl ?_
                  refine az_iadd d_Mo_putInOrder_85 ?_
                  refine ax_goto 93 d_Mo_putInOrder_86 (by decide) ?_
                  have e9 : (mid : Int) + (w : Int) = ((mid + w : Nat) : Int) := by omega
                  rw [e9]
                  exact fin2 (mid + w) (by omega)
              refine ax_iload_n d_Mo_putInOrder_43 rfl ?_
              refine ax_istore_n d_Mo_putInOrder_44 (by decide) rfl ?_
              refine ax_iload_n d_Mo_putInOrder_45 rfl ?_
              refine ax_iload_n d_Mo_putInOrder_46 rfl ?_
              refine az_iadd d_Mo_putInOrder_47 ?_
              refine ax_aload_n d_Mo_putInOrder_48 rfl ?_
              refine ax_get d_Mo_putInOrder_49 fg_Mo_87 (by first | assumption | exact hH.g 0 rfl | exact hH.g 1 rfl | exact hH.g 2 rfl | exact hH.g 3 rfl | exact hH.g 4 rfl | exact hH.g 5 rfl | exact hH.g 6 rfl | exact hH.g 7 rfl | exact hH.g 8 rfl | exact hH.g 9 rfl | exact hH.g 10 rfl | exact hH.g 11 rfl | exact hH.g 12 rfl | exact hH.g 13 rfl | exact hH.g 14 rfl | exact hH.g 15 rfl | exact hH.g 16 rfl | exact hH.g 17 rfl | exact hH.g 18 rfl) (by rfl) ?_
              refine az_icmp_ge 61 d_Mo_putInOrder_52 (by decide) (by omega) (by omega) (fun hfw => ?_) (fun hfw => ?_)
              · refine ax_aload_n d_Mo_putInOrder_61 rfl ?_
                refine ax_get d_Mo_putInOrder_62 fg_Mo_87 (by first | assumption | exact hH.g 0 rfl | exact hH.g 1 rfl | exact hH.g 2 rfl | exact hH.g 3 rfl | exact hH.g 4 rfl | exact hH.g 5 rfl | exact hH.g 6 rfl | exact hH.g 7 rfl | exact hH.g 8 rfl | exact hH.g 9 rfl | exact hH.g 10 rfl | exact hH.g 11 rfl | exact hH.g 12 rfl | exact hH.g 13 rfl | exact hH.g 14 rfl | exact hH.g 15 rfl | exact hH.g 16 rfl | exact hH.g 17 rfl | exact hH.g 18 rfl) (by rfl) ?_
                rw [e2]
                exact fin xs.length (by omega)
              · refine ax_iload_n d_Mo_putInOrder_55 rfl ?_
                refine ax_iload_n d_Mo_putInOrder_56 rfl ?_
                refine az_iadd d_Mo_putInOrder_57 ?_
                refine ax_goto 65 d_Mo_putInOrder_58 (by decide) ?_
                have e9 : ((2 * P : Nat) : Int) + (w : Int) = ((2 * P + w : Nat) : Int) := by omega
                rw [e9]
                exact fin (2 * P + w) (by omega)
        refine pass xs.length 0 0 ar1 h (by omega) (by omega) (by omega) hH hF hka rfl (fun q' hq' => by omega) _ _ _ _ _ _
  have first : ∀ (f k : Nat) (ar1 : Nat → Nat → Int) (h : ax_H), k + f = xs.length → MoH h iz ar1 → Fr MOS h0 h → KA [4, 5] ar ar1 → (∀ j : Nat, j < k → ar1 4 j = j) →
      ax_W m_Mo_putInOrder 2 2 [some (.ref 47), some (.int (iv k)), none, none, none, none, none, none, none] [] h (fun r0 h1 => r0 = none ∧ (∃ ar1, MoH h1 iz ar1 ∧ KA [4, 5] ar ar1 ∧ ∀ k : Nat, k < xs.length → ar1 4 k = ordT xs k) ∧ Fr MOS h0 h1) := by
    intro f
    induction f with
    | zero =>
      intro k ar1 h he hH hF hka hj
      refine ax_iload_n d_Mo_putInOrder_2 rfl ?_
      refine ax_aload_n d_Mo_putInOrder_3 rfl ?_
      refine ax_get d_Mo_putInOrder_4 fg_Mo_87 (by first | assumption | exact hH.g 0 rfl | exact hH.g 1 rfl | exact hH.g 2 rfl | exact hH.g 3 rfl | exact hH.g 4 rfl | exact hH.g 5 rfl | exact hH.g 6 rfl | exact hH.g 7 rfl | exact hH.g 8 rfl | exact hH.g 9 rfl | exact hH.g 10 rfl | exact hH.g 11 rfl | exact hH.g 12 rfl | exact hH.g 13 rfl | exact hH.g 14 rfl | exact hH.g 15 rfl | exact hH.g 16 rfl | exact hH.g 17 rfl | exact hH.g 18 rfl) (by rfl) ?_
      refine az_icmp_ge 23 d_Mo_putInOrder_7 (by decide) (by omega) (by omega) (fun hc => ?_) (fun hc => ?_)
      · refine az_iconst d_Mo_putInOrder_23 ?_
        refine ax_istore_n d_Mo_putInOrder_24 (by decide) rfl ?_
        refine outer xs.length 1 ar1 h (by omega) (by omega) (by omega) hH hF hka (fun q hq => ?_) _ _ _ _ _ _ _
        rw [Nat.mul_one] at hq ⊢
        rw [Nat.min_eq_left (by omega)]
        refine ⟨fun k h1 h2 => ?_, fun j k h1 h2 h3 => by omega⟩
        rw [hj k (by omega)]
        omega
      · exfalso
        omega
    | succ f ih =>
      intro k ar1 h he hH hF hka hj
      refine ax_iload_n d_Mo_putInOrder_2 rfl ?_
      refine ax_aload_n d_Mo_putInOrder_3 rfl ?_
      refine ax_get d_Mo_putInOrder_4 fg_Mo_87 (by first | assumption | exact hH.g 0 rfl | exact hH.g 1 rfl | exact hH.g 2 rfl | exact hH.g 3 rfl | exact hH.g 4 rfl | exact hH.g 5 rfl | exact hH.g 6 rfl | exact hH.g 7 rfl | exact hH.g 8 rfl | exact hH.g 9 rfl | exact hH.g 10 rfl | exact hH.g 11 rfl | exact hH.g 12 rfl | exact hH.g 13 rfl | exact hH.g 14 rfl | exact hH.g 15 rfl | exact hH.g 16 rfl | exact hH.g 17 rfl | exact hH.g 18 rfl) (by rfl) ?_
      refine az_icmp_ge 23 d_Mo_putInOrder_7 (by decide) (by omega) (by omega) (fun hc => ?_) (fun hc => ?_)
      · exfalso
        omega
      · refine ax_aload_n d_Mo_putInOrder_10 rfl ?_
        refine ax_get d_Mo_putInOrder_11 fg_Mo_16 (by first | assumption | exact hH.g 0 rfl | exact hH.g 1 rfl | exact hH.g 2 rfl | exact hH.g 3 rfl | exact hH.g 4 rfl | exact hH.g 5 rfl | exact hH.g 6 rfl | exact hH.g 7 rfl | exact hH.g 8 rfl | exact hH.g 9 rfl | exact hH.g 10 rfl | exact hH.g 11 rfl | exact hH.g 12 rfl | exact hH.g 13 rfl | exact hH.g 14 rfl | exact hH.g 15 rfl | exact hH.g 16 rfl | exact hH.g 17 rfl | exact hH.g 18 rfl) (by rfl) ?_
        refine ax_iload_n d_Mo_putInOrder_14 rfl ?_
        refine ax_iload_n d_Mo_putInOrder_15 rfl ?_
        first | refine ah_iast d_Mo_putInOrder_16 hH hF 0 rfl rfl (by omega) (by omega) (by omega) (by omega) (fun h hH hF => ?_) | refine ah_iast d_Mo_putInOrder_16 hH hF 1 rfl rfl (by omega) (by omega) (by omega) (by omega) (fun h hH hF => ?_) | refine ah_iast d_Mo_putInOrder_16 hH hF 2 rfl rfl (by omega) (by omega) (by omega) (by omega) (fun h hH hF => ?_) | refine ah_iast d_Mo_putInOrder_16 hH hF 3 rfl rfl (by omega) (by omega) (by omega) (by omega) (fun h hH hF => ?_) | refine ah_iast d_Mo_putInOrder_16 hH hF 4 rfl rfl (by omega) (by omega) (by omega) (by omega) (fun h hH hF => ?_) | refine ah_iast d_Mo_putInOrder_16 hH hF 5 rfl rfl (by omega) (by omega) (by omega) (by omega) (fun h hH hF => ?_) | refine ah_iast d_Mo_putInOrder_16 hH hF 6 rfl rfl (by omega) (by omega) (by omega) (by omega) (fun h hH hF => ?_) | refine ah_iast d_Mo_putInOrder_16 hH hF 7 rfl rfl (by omega) (by omega) (by omega) (by omega) (fun h hH hF => ?_) | refine ah_iast d_Mo_putInOrder_16 hH hF 8 rfl rfl (by omega) (by omega) (by omega) (by omega) (fun h hH hF => ?_) | refine ah_iast d_Mo_putInOrder_16 hH hF 9 rfl rfl (by omega) (by omega) (by omega) (by omega) (fun h hH hF => ?_) | refine ah_iast d_Mo_putInOrder_16 hH hF 10 rfl rfl (by omega) (by omega) (by omega) (by omega) (fun h hH hF => ?_) | refine ah_iast d_Mo_putInOrder_16 hH hF 11 rfl rfl (by omega) (by omega) (by omega) (by omega) (fun h hH hF => ?_) | refine ah_iast d_Mo_putInOrder_16 hH hF 12 rfl rfl (by omega) (by omega) (by omega) (by omega) (fun h hH hF => ?_) | refine ah_iast d_Mo_putInOrder_16 hH hF 13 rfl rfl (by omega) (by omega) (by omega) (by omega) (fun h hH hF => ?_) | refine ah_iast d_Mo_putInOrder_16 hH hF 14 rfl rfl (by omega) (by omega) (by omega) (by omega) (fun h hH hF => ?_) | refine ah_iast d_Mo_putInOrder_16 hH hF 15 rfl rfl (by omega) (by omega) (by omega) (by omega) (fun h hH hF => ?_) | refine ah_iast d_Mo_putInOrder_16 hH hF 16 rfl rfl (by omega) (by omega) (by omega) (by omega) (fun h hH hF => ?_) | refine ah_iast d_Mo_putInOrder_16 hH hF 17 rfl rfl (by omega) (by omega) (by omega) (by omega) (fun h hH hF => ?_) | refine ah_iast d_Mo_putInOrder_16 hH hF 18 rfl rfl (by omega) (by omega) (by omega) (by omega) (fun h hH hF => ?_)
        refine az_iinc d_Mo_putInOrder_17 rfl (by decide) rfl ?_
        refine ax_goto 2 d_Mo_putInOrder_20 (by decide) ?_
        refine ih (k + 1) (upA ar1 4 (up (ar1 4) k k)) h (by omega) hH hF (hka.up 4 _ rfl) (fun j hj2 => ?_)
        show up (ar1 4) k k j = j
        by_cases e : j = k
        · subst e; rw [up_at]
        · rw [up_ne e]; exact hj j (by omega)
  exact first xs.length 0 ar h0 (by omega) hH hF KA.rf (fun j hj => by omega)
