/-! the reference: join, makeLengths -/
theorem lz_div {a b : Int} (ha : 0 ≤ a ∧ a < 9000000000000000000) (hb : 0 < b ∧ b < 9000000000000000000) : lz a / lz b = lz (a / b) := by
  have h1 : a / b ≤ a := Int.ediv_le_self _ ha.1
  have h2 : 0 ≤ a / b := Int.ediv_nonneg ha.1 (by omega)
  apply Int64.toInt_inj.mp
  rw [Int64.toInt_div, lz_toInt (by omega), lz_toInt (by omega), lz_toInt (by omega), Int.tdiv_eq_ediv_of_nonneg ha.1]
  exact Int.bmod_eq_of_le (by omega) (by omega)
theorem lz_ne0 {b : Int} (hb : 0 < b ∧ b < 9000000000000000000) : ¬ lz b = 0 := by
  intro h
  have h1 : (lz b).toInt = (0 : Int64).toInt := by rw [h]
  rw [lz_toInt (by omega)] at h1
  have h2 : (0 : Int64).toInt = 0 := rfl
  omega
theorem aj_ldiv {M : ax_M} {d pc : Nat} {lv : ax_L} {st : List Value} {h : ax_H} {Q : Option Value → ax_H → Prop} {a b : Int} (hd : decode M.2.1 pc = .ok (.ldiv, 1)) (ha : 0 ≤ a ∧ a < 9000000000000000000) (hb : 0 < b ∧ b < 9000000000000000000) (k : ax_W M d (pc + 1) lv (.long (lz (a / b)) :: st) h Q) : ax_W M d pc lv (.long (lz b) :: .long (lz a) :: st) h Q := ax_ldiv hd (lz_ne0 hb) (by rw [lz_div ha hb]; exact k)
theorem ag_up {f g : Nat → Int} {m : Nat} (h : ∀ k : Nat, k < m → f k = g k) (i : Nat) (x : Int) : ∀ k : Nat, k < m → up f i x k = up g i x k := by
  intro k hk
  by_cases e : k = i
  · rw [e, up_at, up_at]
  · rw [up_ne e, up_ne e]; exact h k hk
theorem ag_new {f g : Nat → Int} {m : Nat} (h : ∀ k : Nat, k < m → f k = g k) (x : Int) : ∀ k : Nat, k < m + 1 → up f m x k = up g m x k := by
  intro k hk
  by_cases e : k = m
  · rw [e, up_at, up_at]
  · rw [up_ne e, up_ne e]; exact h k (by omega)
set_option maxRecDepth 100000 in
set_option maxHeartbeats 16000000 in
theorem c_Mo_join {h0 : ax_H} {iz : Nat → Int} {ar : Nat → Nat → Int} {wt : Nat → Int} {n : Nat} (hH : MoH h0 iz ar) (hn2 : 2 ≤ n) (hn : n ≤ 258) (hw : ∀ k : Nat, k < n → ar 21 k = wt k) (hw1 : ∀ k : Nat, k < n → 1 ≤ wt k) (hw2 : ∀ k : Nat, k < n → wt k ≤ 1024) : ax_Cv m_Mo_join 1 [.ref 47, .int (iv n)] h0 (fun h1 => (∃ ar1, MoH h1 iz ar1 ∧ KA [16, 18, 19, 20] ar ar1 ∧ ∀ k : Nat, k < n → ar1 16 k = lenH wt n k) ∧ Fr MOS h0 h1) := by
  have hF : Fr MOS h0 h0 := Fr.rf
  have hT := fsum_bd (f := wt) (B := 1024) (n := n) hw2
  refine ax_enter [some (.ref 47), some (.int (iv n)), none, none, none, none] rfl (Nat.le_of_ble_eq_true rfl) (by decide) ?_
  refine az_iconst d_Mo_join_0 ?_
  refine ax_istore_n d_Mo_join_1 (by decide) rfl ?_
  -- the lengths
  obtain ⟨⟨hU, -⟩, -⟩ := HI_jn hw1 (n - 1) (by omega)
  have third : ∀ (f s : Nat) (ar1 : Nat → Nat → Int) (h : ax_H), s + f = n → MoH h iz ar1 → Fr MOS h0 h → KA [16, 18, 19, 20] ar ar1 → (∀ k : Nat, k < n + (n - 1) → ar1 20 k = (jn wt n (n - 1)).2.2 k) → (∀ k : Nat, k < s → ar1 16 k = lenH wt n k) → ∀ (v2 : Int) (v4 v5 : Option Value),
      ax_W m_Mo_join 1 160 [some (.ref 47), some (.int (iv n)), some (.int (iv v2)), some (.int (iv s)), v4, v5] [] h (fun r0 h1 => r0 = none ∧ (∃ ar1, MoH h1 iz ar1 ∧ KA [16, 18, 19, 20] ar ar1 ∧ ∀ k : Nat, k < n → ar1 16 k = lenH wt n k) ∧ Fr MOS h0 h1) := by
    intro f
    induction f with
    | zero =>
      intro s ar1 h he hH hF ka h20 h16 v2 v4 v5
      refine ax_iload_n d_Mo_join_160 rfl ?_
      refine ax_iload_n d_Mo_join_161 rfl ?_
      refine az_icmp_ge 213 d_Mo_join_162 (by decide) (by omega) (by omega) (fun hc => ?_) (fun hc => ?_)
      · refine ax_vret d_Mo_join_213 rfl ?_
        exact ⟨rfl, ⟨ar1, hH, ka, fun k hk => h16 k (by omega)⟩, hF⟩
      · exfalso
        omega
    | succ f ih =>
      intro s ar1 h he hH hF ka h20 h16 v2 v4 v5
      have climb : ∀ (g p c : Nat) (ar1 : Nat → Nat → Int) (h : ax_H), p < n + (n - 1) → n + (n - 1) ≤ p + g → c + g = n + (n - 1) → (c : Int) + dpt (jn wt n (n - 1)).2.2 g p = lenH wt n s → MoH h iz ar1 → Fr MOS h0 h → KA [16, 18, 19, 20] ar ar1 → (∀ k : Nat, k < n + (n - 1) → ar1 20 k = (jn wt n (n - 1)).2.2 k) → (∀ k : Nat, k < s → ar1 16 k = lenH wt n k) → ar1 16 s = c →
          ax_W m_Mo_join 1 180 [some (.ref 47), some (.int (iv n)), some (.int (iv v2)), some (.int (iv s)), some (.int (iv ((jn wt n (n - 1)).2.2 p))), v5] [] h (fun r0 h1 => r0 = none ∧ (∃ ar1, MoH h1 iz ar1 ∧ KA [16, 18, 19, 20] ar ar1 ∧ ∀ k : Nat, k < n → ar1 16 k = lenH wt n k) ∧ Fr MOS h0 h1) := by
        intro g
        induction g with
        | zero =>
          intro p c ar1 h hp hpg hcg hd hH hF ka h20 h16 hcs
          exfalso
          omega
        | succ g ih2 =>
          intro p c ar1 h hp hpg hcg hd hH hF ka h20 h16 hcs
          have hup := hU p hp
          rw [dpt] at hd
          refine ax_iload d_Mo_join_180 rfl ?_
          refine az_if_lt 207 d_Mo_join_182 (by decide) (by first | exact bz_in _ | omega) (fun hlt => ?_) (fun hlt => ?_)
          · rw [if_pos hlt] at hd
            refine az_iinc d_Mo_join_207 rfl (by decide) rfl ?_
            refine ax_goto 160 d_Mo_join_210 (by decide) ?_
            refine ih (s + 1) ar1 h (by omega) hH hF ka h20 (fun k hk => ?_) _ _ _
            by_cases e : k = s
            · rw [e, hcs]; omega
            · exact h16 k (by omega)
          · rw [if_neg (by omega)] at hd
            obtain ⟨q, hq⟩ := Int.eq_ofNat_of_zero_le (show 0 ≤ (jn wt n (n - 1)).2.2 p by omega)
            rw [hq] at hd hup
            have hcs' : ar1 16 ((s : Int).toNat) = (c : Int) := hcs
            rw [hq]
            refine ax_aload_n d_Mo_join_185 rfl ?_
            refine ax_get d_Mo_join_186 fg_Mo_37 (by first | assumption | exact hH.g 0 rfl | exact hH.g 1 rfl | exact hH.g 2 rfl | exact hH.g 3 rfl | exact hH.g 4 rfl | exact hH.g 5 rfl | exact hH.g 6 rfl | exact hH.g 7 rfl | exact hH.g 8 rfl | exact hH.g 9 rfl | exact hH.g 10 rfl | exact hH.g 11 rfl | exact hH.g 12 rfl | exact hH.g 13 rfl | exact hH.g 14 rfl | exact hH.g 15 rfl | exact hH.g 16 rfl | exact hH.g 17 rfl | exact hH.g 18 rfl) (by rfl) ?_
            refine ax_iload_n d_Mo_join_189 rfl ?_
            refine ax_dup2 d_Mo_join_190 rfl rfl ?_
            refine az_iald d_Mo_join_191 (by first | assumption | exact hH.g 0 rfl | exact hH.g 1 rfl | exact hH.g 2 rfl | exact hH.g 3 rfl | exact hH.g 4 rfl | exact hH.g 5 rfl | exact hH.g 6 rfl | exact hH.g 7 rfl | exact hH.g 8 rfl | exact hH.g 9 rfl | exact hH.g 10 rfl | exact hH.g 11 rfl | exact hH.g 12 rfl | exact hH.g 13 rfl | exact hH.g 14 rfl | exact hH.g 15 rfl | exact hH.g 16 rfl | exact hH.g 17 rfl | exact hH.g 18 rfl) (by omega) (by omega) (by omega) ?_
            rw [hcs']
            refine az_iconst d_Mo_join_192 ?_
            refine az_iadd d_Mo_join_193 ?_
            first | refine ah_iast d_Mo_join_194 hH hF 0 rfl rfl (by omega) (by omega) (by omega) (by omega) (fun h hH hF => ?_) | refine ah_iast d_Mo_join_194 hH hF 1 rfl rfl (by omega) (by omega) (by omega) (by omega) (fun h hH hF => ?_) | refine ah_iast d_Mo_join_194 hH hF 2 rfl rfl (by omega) (by omega) (by omega) (by omega) (fun h hH hF => ?_) | refine ah_iast d_Mo_join_194 hH hF 3 rfl rfl (by omega) (by omega) (by omega) (by omega) (fun h hH hF => ?_) | refine ah_iast d_Mo_join_194 hH hF 4 rfl rfl (by omega) (by omega) (by omega) (by omega) (fun h hH hF => ?_) | refine ah_iast d_Mo_join_194 hH hF 5 rfl rfl (by omega) (by omega) (by omega) (by omega) (fun h hH hF => ?_) | refine ah_iast d_Mo_join_194 hH hF 6 rfl rfl (by omega) (by omega) (by omega) (by omega) (fun h hH hF => ?_) | refine ah_iast d_Mo_join_194 hH hF 7 rfl rfl (by omega) (by omega) (by omega) (by omega) (fun h hH hF => ?_) | refine ah_iast d_Mo_join_194 hH hF 8 rfl rfl (by omega) (by omega) (by omega) (by omega) (fun h hH hF => ?_) | refine ah_iast d_Mo_join_194 hH hF 9 rfl rfl (by omega) (by omega) (by omega) (by omega) (fun h hH hF => ?_) | refine ah_iast d_Mo_join_194 hH hF 10 rfl rfl (by omega) (by omega) (by omega) (by omega) (fun h hH hF => ?_) | refine ah_iast d_Mo_join_194 hH hF 11 rfl rfl (by omega) (by omega) (by omega) (by omega) (fun h hH hF => ?_) | refine ah_iast d_Mo_join_194 hH hF 12 rfl rfl (by omega) (by omega) (by omega) (by omega) (fun h hH hF => ?_) | refine ah_iast d_Mo_join_194 hH hF 13 rfl rfl (by omega) (by omega) (by omega) (by omega) (fun h hH hF => ?_) | refine ah_iast d_Mo_join_194 hH hF 14 rfl rfl (by omega) (by omega) (by omega) (by omega) (fun h hH hF => ?_) | refine ah_iast d_Mo_join_194 hH hF 15 rfl rfl (by omega) (by omega) (by omega) (by omega) (fun h hH hF => ?_) | refine ah_iast d_Mo_join_194 hH hF 16 rfl rfl (by omega) (by omega) (by omega) (by omega) (fun h hH hF => ?_) | refine ah_iast d_Mo_join_194 hH hF 17 rfl rfl (by omega) (by omega) (by omega) (by omega) (fun h hH hF => ?_) | refine ah_iast d_Mo_join_194 hH hF 18 rfl rfl (by omega) (by omega) (by omega) (by omega) (fun h hH hF => ?_)
            have hH : MoH h iz (upA ar1 16 (up (ar1 16) s ((c : Int) + 1))) := hH
            have h20q : (upA ar1 16 (up (ar1 16) s ((c : Int) + 1))) 20 ((q : Int).toNat) = (jn wt n (n - 1)).2.2 q := h20 q (by omega)
            refine ax_aload_n d_Mo_join_195 rfl ?_
            refine ax_get d_Mo_join_196 fg_Mo_50 (by first | assumption | exact hH.g 0 rfl | exact hH.g 1 rfl | exact hH.g 2 rfl | exact hH.g 3 rfl | exact hH.g 4 rfl | exact hH.g 5 rfl | exact hH.g 6 rfl | exact hH.g 7 rfl | exact hH.g 8 rfl | exact hH.g 9 rfl | exact hH.g 10 rfl | exact hH.g 11 rfl | exact hH.g 12 rfl | exact hH.g 13 rfl | exact hH.g 14 rfl | exact hH.g 15 rfl | exact hH.g 16 rfl | exact hH.g 17 rfl | exact hH.g 18 rfl) (by rfl) ?_
            refine ax_iload d_Mo_join_199 rfl ?_
            refine az_iald d_Mo_join_201 (by first | assumption | exact hH.g 0 rfl | exact hH.g 1 rfl | exact hH.g 2 rfl | exact hH.g 3 rfl | exact hH.g 4 rfl | exact hH.g 5 rfl | exact hH.g 6 rfl | exact hH.g 7 rfl | exact hH.g 8 rfl | exact hH.g 9 rfl | exact hH.g 10 rfl | exact hH.g 11 rfl | exact hH.g 12 rfl | exact hH.g 13 rfl | exact hH.g 14 rfl | exact hH.g 15 rfl | exact hH.g 16 rfl | exact hH.g 17 rfl | exact hH.g 18 rfl) (by omega) (by omega) (by omega) ?_
            rw [h20q]
            refine ax_istore d_Mo_join_202 (by decide) rfl ?_
            refine ax_goto 180 d_Mo_join_204 (by decide) ?_
            refine ih2 q (c + 1) (upA ar1 16 (up (ar1 16) s ((c : Int) + 1))) h (by omega) (by omega) (by omega) ?_ hH hF (ka.up 16 _ rfl) h20 (fun k hk => ?_) ?_
            · rw [show ((q : Nat) : Int).toNat = q by omega] at hd
              omega
            · show up (ar1 16) s ((c : Int) + 1) k = _
              rw [up_ne (by omega)]
              exact h16 k hk
            · show up (ar1 16) s ((c : Int) + 1) s = _
              rw [up_at]
              omega
      have hup := hU s (by omega)
      refine ax_iload_n d_Mo_join_160 rfl ?_
      refine ax_iload_n d_Mo_join_161 rfl ?_
      refine az_icmp_ge 213 d_Mo_join_162 (by decide) (by omega) (by omega) (fun hc => ?_) (fun hc => ?_)
      · exfalso
        omega
      · refine ax_aload_n d_Mo_join_165 rfl ?_
        refine ax_get d_Mo_join_166 fg_Mo_37 (by first | assumption | exact hH.g 0 rfl | exact hH.g 1 rfl | exact hH.g 2 rfl | exact hH.g 3 rfl | exact hH.g 4 rfl | exact hH.g 5 rfl | exact hH.g 6 rfl | exact hH.g 7 rfl | exact hH.g 8 rfl | exact hH.g 9 rfl | exact hH.g 10 rfl | exact hH.g 11 rfl | exact hH.g 12 rfl | exact hH.g 13 rfl | exact hH.g 14 rfl | exact hH.g 15 rfl | exact hH.g 16 rfl | exact hH.g 17 rfl | exact hH.g 18 rfl) (by rfl) ?_
        refine ax_iload_n d_Mo_join_169 rfl ?_
        refine az_iconst d_Mo_join_170 ?_
        first | refine ah_iast d_Mo_join_171 hH hF 0 rfl rfl (by omega) (by omega) (by omega) (by omega) (fun h hH hF => ?_) | refine ah_iast d_Mo_join_171 hH hF 1 rfl rfl (by omega) (by omega) (by omega) (by omega) (fun h hH hF => ?_) | refine ah_iast d_Mo_join_171 hH hF 2 rfl rfl (by omega) (by omega) (by omega) (by omega) (fun h hH hF => ?_) | refine ah_iast d_Mo_join_171 hH hF 3 rfl rfl (by omega) (by omega) (by omega) (by omega) (fun h hH hF => ?_) | refine ah_iast d_Mo_join_171 hH hF 4 rfl rfl (by omega) (by omega) (by omega) (by omega) (fun h hH hF => ?_) | refine ah_iast d_Mo_join_171 hH hF 5 rfl rfl (by omega) (by omega) (by omega) (by omega) (fun h hH hF => ?_) | refine ah_iast d_Mo_join_171 hH hF 6 rfl rfl (by omega) (by omega) (by omega) (by omega) (fun h hH hF => ?_) | refine ah_iast d_Mo_join_171 hH hF 7 rfl rfl (by omega) (by omega) (by omega) (by omega) (fun h hH hF => ?_) | refine ah_iast d_Mo_join_171 hH hF 8 rfl rfl (by omega) (by omega) (by omega) (by omega) (fun h hH hF => ?_) | refine ah_iast d_Mo_join_171 hH hF 9 rfl rfl (by omega) (by omega) (by omega) (by omega) (fun h hH hF => ?_) | refine ah_iast d_Mo_join_171 hH hF 10 rfl rfl (by omega) (by omega) (by omega) (by omega) (fun h hH hF => ?_) | refine ah_iast d_Mo_join_171 hH hF 11 rfl rfl (by omega) (by omega) (by omega) (by omega) (fun h hH hF => ?_) | refine ah_iast d_Mo_join_171 hH hF 12 rfl rfl (by omega) (by omega) (by omega) (by omega) (fun h hH hF => ?_) | refine ah_iast d_Mo_join_171 hH hF 13 rfl rfl (by omega) (by omega) (by omega) (by omega) (fun h hH hF => ?_) | refine ah_iast d_Mo_join_171 hH hF 14 rfl rfl (by omega) (by omega) (by omega) (by omega) (fun h hH hF => ?_) | refine ah_iast d_Mo_join_171 hH hF 15 rfl rfl (by omega) (by omega) (by omega) (by omega) (fun h hH hF => ?_) | refine ah_iast d_Mo_join_171 hH hF 16 rfl rfl (by omega) (by omega) (by omega) (by omega) (fun h hH hF => ?_) | refine ah_iast d_Mo_join_171 hH hF 17 rfl rfl (by omega) (by omega) (by omega) (by omega) (fun h hH hF => ?_) | refine ah_iast d_Mo_join_171 hH hF 18 rfl rfl (by omega) (by omega) (by omega) (by omega) (fun h hH hF => ?_)
        have hH : MoH h iz (upA ar1 16 (up (ar1 16) s 0)) := hH
        have h20s : (upA ar1 16 (up (ar1 16) s 0)) 20 ((s : Int).toNat) = (jn wt n (n - 1)).2.2 s := h20 s (by omega)
        refine ax_aload_n d_Mo_join_172 rfl ?_
        refine ax_get d_Mo_join_173 fg_Mo_50 (by first | assumption | exact hH.g 0 rfl | exact hH.g 1 rfl | exact hH.g 2 rfl | exact hH.g 3 rfl | exact hH.g 4 rfl | exact hH.g 5 rfl | exact hH.g 6 rfl | exact hH.g 7 rfl | exact hH.g 8 rfl | exact hH.g 9 rfl | exact hH.g 10 rfl | exact hH.g 11 rfl | exact hH.g 12 rfl | exact hH.g 13 rfl | exact hH.g 14 rfl | exact hH.g 15 rfl | exact hH.g 16 rfl | exact hH.g 17 rfl | exact hH.g 18 rfl) (by rfl) ?_
        refine ax_iload_n d_Mo_join_176 rfl ?_
        refine az_iald d_Mo_join_177 (by first | assumption | exact hH.g 0 rfl | exact hH.g 1 rfl | exact hH.g 2 rfl | exact hH.g 3 rfl | exact hH.g 4 rfl | exact hH.g 5 rfl | exact hH.g 6 rfl | exact hH.g 7 rfl | exact hH.g 8 rfl | exact hH.g 9 rfl | exact hH.g 10 rfl | exact hH.g 11 rfl | exact hH.g 12 rfl | exact hH.g 13 rfl | exact hH.g 14 rfl | exact hH.g 15 rfl | exact hH.g 16 rfl | exact hH.g 17 rfl | exact hH.g 18 rfl) (by omega) (by omega) (by omega) ?_
        rw [h20s]
        refine ax_istore d_Mo_join_178 (by decide) rfl ?_
        refine climb (n + (n - 1)) s 0 (upA ar1 16 (up (ar1 16) s 0)) h (by omega) (by omega) (by omega) ?_ hH hF (ka.up 16 _ rfl) h20 (fun k hk => ?_) ?_
        · unfold lenH
          omega
        · show up (ar1 16) s 0 k = _
          rw [up_ne (by omega)]
          exact h16 k hk
        · show up (ar1 16) s 0 s = _
          rw [up_at]
          rfl
  -- joining
  have second : ∀ (f j : Nat) (ar1 : Nat → Nat → Int) (h : ax_H), j + f = n - 1 → MoH h iz ar1 → Fr MOS h0 h → KA [16, 18, 19, 20] ar ar1 → (∀ k : Nat, k < n + j → ar1 18 k = (jn wt n j).1 k) → (∀ k : Nat, k < n + j → ar1 19 k = (jn wt n j).2.1 k) → (∀ k : Nat, k < n + j → ar1 20 k = (jn wt n j).2.2 k) → ∀ v4 v5 : Option Value,
      ax_W m_Mo_join 1 43 [some (.ref 47), some (.int (iv n)), some (.int (iv ((n + j : Nat) : Int))), some (.int (iv ((n - j : Nat) : Int))), v4, v5] [] h (fun r0 h1 => r0 = none ∧ (∃ ar1, MoH h1 iz ar1 ∧ KA [16, 18, 19, 20] ar ar1 ∧ ∀ k : Nat, k < n → ar1 16 k = lenH wt n k) ∧ Fr MOS h0 h1) := by
    intro f
    induction f with
    | zero =>
      intro j ar1 h he hH hF ka h18 h19 h20 v4 v5
      have hj : j = n - 1 := by omega
      subst hj
      refine ax_iload_n d_Mo_join_43 rfl ?_
      refine az_iconst d_Mo_join_44 ?_
      refine az_icmp_le 158 d_Mo_join_45 (by decide) (by omega) (by omega) (fun hc => ?_) (fun hc => ?_)
      · refine az_iconst d_Mo_join_158 ?_
        refine ax_istore_n d_Mo_join_159 (by decide) rfl ?_
        exact third n 0 ar1 h (by omega) hH hF ka h20 (fun k hk => by omega) _ _ _
      · exfalso
        omega
    | succ f ih =>
      intro j ar1 h he hH hF ka h18 h19 h20 v4 v5
      obtain ⟨hI, hcn⟩ := HI_jn hw1 j (by omega)
      obtain ⟨a, b, ha, hb, hab, ea, eb, hua, hub, -, -⟩ := lgt_two hI (by rw [hcn]; omega)
      have hstp : jn wt n (j + 1) = _ := stp_of ea eb
      obtain ⟨qU, qL, qW, -, -, qT⟩ := hI
      have b1 : ∀ k : Nat, k < n + j → (jn wt n j).2.2 k < 0 → 0 ≤ (jn wt n j).1 k ∧ (jn wt n j).1 k ≤ 1000000 := by
        intro k hk hu
        have h1 := qW k hk
        have h2 := fsum_ge (f := aw (jn wt n j)) (n := n + j) (fun i hi => by unfold aw; have := qW i hi; split <;> omega) hk
        have h3 : aw (jn wt n j) k = (jn wt n j).1 k := by unfold aw; rw [if_pos hu]
        rw [h3, qT] at h2
        omega
      have b2 : ∀ k : Nat, k < n + j → 0 ≤ (jn wt n j).2.1 k ∧ (jn wt n j).2.1 k ≤ 1000 := fun k hk => by have := qL k hk; omega
      have b3 : ∀ k : Nat, k < n + j → -1 ≤ (jn wt n j).2.2 k ∧ (jn wt n j).2.2 k ≤ 1000 := fun k hk => by have := qU k hk; omega
      rw [ea] at eb
      have ba := b1 a ha hua
      have bb := b1 b hb hub
      have la2 := b2 a ha
      have lb2 := b2 b hb
      have ih1 := ih (j + 1)
      rw [hstp] at ih1
      refine ax_iload_n d_Mo_join_43 rfl ?_
      refine az_iconst d_Mo_join_44 ?_
      refine az_icmp_le 158 d_Mo_join_45 (by decide) (by omega) (by omega) (fun hc => ?_) (fun hc => ?_)
      · exfalso
        omega
      · refine ax_aload_n d_Mo_join_48 rfl ?_
        refine ax_iload_n d_Mo_join_49 rfl ?_
        refine az_iconst d_Mo_join_50 ?_
        refine ax_cV2 d_Mo_join_51 v_Mo_lightest lk_Mo_157 (by first | assumption | exact hH.g 0 rfl | exact hH.g 1 rfl | exact hH.g 2 rfl | exact hH.g 3 rfl | exact hH.g 4 rfl | exact hH.g 5 rfl | exact hH.g 6 rfl | exact hH.g 7 rfl | exact hH.g 8 rfl | exact hH.g 9 rfl | exact hH.g 10 rfl | exact hH.g 11 rfl | exact hH.g 12 rfl | exact hH.g 13 rfl | exact hH.g 14 rfl | exact hH.g 15 rfl | exact hH.g 16 rfl | exact hH.g 17 rfl | exact hH.g 18 rfl) (by decide) (Nat.le_of_ble_eq_true rfl) (cm_i (c_Mo_lightest hH (st := jn wt n j) (all := n + j) (nt := -1) (by omega) (by omega) h18 h19 h20 b1 b2 b3) (fun z h1 hq => ?_))
        obtain ⟨rfl, rfl⟩ := hq
        rw [ea]
        refine ax_istore d_Mo_join_54 (by decide) rfl ?_
        refine ax_aload_n d_Mo_join_56 rfl ?_
        refine ax_iload_n d_Mo_join_57 rfl ?_
        refine ax_iload d_Mo_join_58 rfl ?_
        refine ax_cV2 d_Mo_join_60 v_Mo_lightest lk_Mo_157 (by first | assumption | exact hH.g 0 rfl | exact hH.g 1 rfl | exact hH.g 2 rfl | exact hH.g 3 rfl | exact hH.g 4 rfl | exact hH.g 5 rfl | exact hH.g 6 rfl | exact hH.g 7 rfl | exact hH.g 8 rfl | exact hH.g 9 rfl | exact hH.g 10 rfl | exact hH.g 11 rfl | exact hH.g 12 rfl | exact hH.g 13 rfl | exact hH.g 14 rfl | exact hH.g 15 rfl | exact hH.g 16 rfl | exact hH.g 17 rfl | exact hH.g 18 rfl) (by decide) (Nat.le_of_ble_eq_true rfl) (cm_i (c_Mo_lightest hH (st := jn wt n j) (all := n + j) (nt := (a : Int)) (by omega) (by omega) h18 h19 h20 b1 b2 b3) (fun z h2 hq => ?_))
        obtain ⟨rfl, rfl⟩ := hq
        rw [eb]
        have r18a : ar1 18 ((a : Int).toNat) = (jn wt n j).1 a := h18 a ha
        have r18b : ar1 18 ((b : Int).toNat) = (jn wt n j).1 b := h18 b hb
        refine ax_istore d_Mo_join_63 (by decide) rfl ?_
        refine ax_aload_n d_Mo_join_65 rfl ?_
        refine ax_get d_Mo_join_66 fg_Mo_43 (by first | assumption | exact hH.g 0 rfl | exact hH.g 1 rfl | exact hH.g 2 rfl | exact hH.g 3 rfl | exact hH.g 4 rfl | exact hH.g 5 rfl | exact hH.g 6 rfl | exact hH.g 7 rfl | exact hH.g 8 rfl | exact hH.g 9 rfl | exact hH.g 10 rfl | exact hH.g 11 rfl | exact hH.g 12 rfl | exact hH.g 13 rfl | exact hH.g 14 rfl | exact hH.g 15 rfl | exact hH.g 16 rfl | exact hH.g 17 rfl | exact hH.g 18 rfl) (by rfl) ?_
        refine ax_iload_n d_Mo_join_69 rfl ?_
        refine ax_aload_n d_Mo_join_70 rfl ?_
        refine ax_get d_Mo_join_71 fg_Mo_43 (by first | assumption | exact hH.g 0 rfl | exact hH.g 1 rfl | exact hH.g 2 rfl | exact hH.g 3 rfl | exact hH.g 4 rfl | exact hH.g 5 rfl | exact hH.g 6 rfl | exact hH.g 7 rfl | exact hH.g 8 rfl | exact hH.g 9 rfl | exact hH.g 10 rfl | exact hH.g 11 rfl | exact hH.g 12 rfl | exact hH.g 13 rfl | exact hH.g 14 rfl | exact hH.g 15 rfl | exact hH.g 16 rfl | exact hH.g 17 rfl | exact hH.g 18 rfl) (by rfl) ?_
        refine ax_iload d_Mo_join_74 rfl ?_
        refine aj_lald d_Mo_join_76 (by first | assumption | exact hH.g 0 rfl | exact hH.g 1 rfl | exact hH.g 2 rfl | exact hH.g 3 rfl | exact hH.g 4 rfl | exact hH.g 5 rfl | exact hH.g 6 rfl | exact hH.g 7 rfl | exact hH.g 8 rfl | exact hH.g 9 rfl | exact hH.g 10 rfl | exact hH.g 11 rfl | exact hH.g 12 rfl | exact hH.g 13 rfl | exact hH.g 14 rfl | exact hH.g 15 rfl | exact hH.g 16 rfl | exact hH.g 17 rfl | exact hH.g 18 rfl) (by omega) (by omega) (by omega) ?_
        rw [r18a]
        refine ax_aload_n d_Mo_join_77 rfl ?_
        refine ax_get d_Mo_join_78 fg_Mo_43 (by first | assumption | exact hH.g 0 rfl | exact hH.g 1 rfl | exact hH.g 2 rfl | exact hH.g 3 rfl | exact hH.g 4 rfl | exact hH.g 5 rfl | exact hH.g 6 rfl | exact hH.g 7 rfl | exact hH.g 8 rfl | exact hH.g 9 rfl | exact hH.g 10 rfl | exact hH.g 11 rfl | exact hH.g 12 rfl | exact hH.g 13 rfl | exact hH.g 14 rfl | exact hH.g 15 rfl | exact hH.g 16 rfl | exact hH.g 17 rfl | exact hH.g 18 rfl) (by rfl) ?_
        refine ax_iload d_Mo_join_81 rfl ?_
        refine aj_lald d_Mo_join_83 (by first | assumption | exact hH.g 0 rfl | exact hH.g 1 rfl | exact hH.g 2 rfl | exact hH.g 3 rfl | exact hH.g 4 rfl | exact hH.g 5 rfl | exact hH.g 6 rfl | exact hH.g 7 rfl | exact hH.g 8 rfl | exact hH.g 9 rfl | exact hH.g 10 rfl | exact hH.g 11 rfl | exact hH.g 12 rfl | exact hH.g 13 rfl | exact hH.g 14 rfl | exact hH.g 15 rfl | exact hH.g 16 rfl | exact hH.g 17 rfl | exact hH.g 18 rfl) (by omega) (by omega) (by omega) ?_
        rw [r18b]
        refine aj_ladd d_Mo_join_84 ?_
        first | refine ah_last d_Mo_join_85 hH hF 0 rfl rfl (by omega) (by omega) (by omega) (by omega) (fun h hH hF => ?_) | refine ah_last d_Mo_join_85 hH hF 1 rfl rfl (by omega) (by omega) (by omega) (by omega) (fun h hH hF => ?_) | refine ah_last d_Mo_join_85 hH hF 2 rfl rfl (by omega) (by omega) (by omega) (by omega) (fun h hH hF => ?_) | refine ah_last d_Mo_join_85 hH hF 3 rfl rfl (by omega) (by omega) (by omega) (by omega) (fun h hH hF => ?_) | refine ah_last d_Mo_join_85 hH hF 4 rfl rfl (by omega) (by omega) (by omega) (by omega) (fun h hH hF => ?_) | refine ah_last d_Mo_join_85 hH hF 5 rfl rfl (by omega) (by omega) (by omega) (by omega) (fun h hH hF => ?_) | refine ah_last d_Mo_join_85 hH hF 6 rfl rfl (by omega) (by omega) (by omega) (by omega) (fun h hH hF => ?_) | refine ah_last d_Mo_join_85 hH hF 7 rfl rfl (by omega) (by omega) (by omega) (by omega) (fun h hH hF => ?_) | refine ah_last d_Mo_join_85 hH hF 8 rfl rfl (by omega) (by omega) (by omega) (by omega) (fun h hH hF => ?_) | refine ah_last d_Mo_join_85 hH hF 9 rfl rfl (by omega) (by omega) (by omega) (by omega) (fun h hH hF => ?_) | refine ah_last d_Mo_join_85 hH hF 10 rfl rfl (by omega) (by omega) (by omega) (by omega) (fun h hH hF => ?_) | refine ah_last d_Mo_join_85 hH hF 11 rfl rfl (by omega) (by omega) (by omega) (by omega) (fun h hH hF => ?_) | refine ah_last d_Mo_join_85 hH hF 12 rfl rfl (by omega) (by omega) (by omega) (by omega) (fun h hH hF => ?_) | refine ah_last d_Mo_join_85 hH hF 13 rfl rfl (by omega) (by omega) (by omega) (by omega) (fun h hH hF => ?_) | refine ah_last d_Mo_join_85 hH hF 14 rfl rfl (by omega) (by omega) (by omega) (by omega) (fun h hH hF => ?_) | refine ah_last d_Mo_join_85 hH hF 15 rfl rfl (by omega) (by omega) (by omega) (by omega) (fun h hH hF => ?_) | refine ah_last d_Mo_join_85 hH hF 16 rfl rfl (by omega) (by omega) (by omega) (by omega) (fun h hH hF => ?_) | refine ah_last d_Mo_join_85 hH hF 17 rfl rfl (by omega) (by omega) (by omega) (by omega) (fun h hH hF => ?_) | refine ah_last d_Mo_join_85 hH hF 18 rfl rfl (by omega) (by omega) (by omega) (by omega) (fun h hH hF => ?_)
        have hH : MoH h iz (upA ar1 18 (up (ar1 18) (n + j) ((jn wt n j).1 a + (jn wt n j).1 b))) := hH
        have ka1 : KA [16, 18, 19, 20] ar (upA ar1 18 (up (ar1 18) (n + j) ((jn wt n j).1 a + (jn wt n j).1 b))) := ka.up 18 _ rfl
        have g18 := ag_new h18 ((jn wt n j).1 a + (jn wt n j).1 b)
        have r19a : (upA ar1 18 (up (ar1 18) (n + j) ((jn wt n j).1 a + (jn wt n j).1 b))) 19 ((a : Int).toNat) = (jn wt n j).2.1 a := h19 a ha
        have r19b : (upA ar1 18 (up (ar1 18) (n + j) ((jn wt n j).1 a + (jn wt n j).1 b))) 19 ((b : Int).toNat) = (jn wt n j).2.1 b := h19 b hb
        have h19' : ∀ k : Nat, k < n + j → (upA ar1 18 (up (ar1 18) (n + j) ((jn wt n j).1 a + (jn wt n j).1 b))) 19 k = (jn wt n j).2.1 k := h19
        have h20' : ∀ k : Nat, k < n + j → (upA ar1 18 (up (ar1 18) (n + j) ((jn wt n j).1 a + (jn wt n j).1 b))) 20 k = (jn wt n j).2.2 k := h20
        have g18' : ∀ k : Nat, k < n + j + 1 → (upA ar1 18 (up (ar1 18) (n + j) ((jn wt n j).1 a + (jn wt n j).1 b))) 18 k = up (jn wt n j).1 (n + j) ((jn wt n j).1 a + (jn wt n j).1 b) k := g18
        generalize upA ar1 18 (up (ar1 18) (n + j) ((jn wt n j).1 a + (jn wt n j).1 b)) = ar2 at hH ka1 r19a r19b h19' h20' g18'
        have rest : ∀ m : Int, m = (if (jn wt n j).2.1 a < (jn wt n j).2.1 b then (jn wt n j).2.1 a else (jn wt n j).2.1 b) → ax_W m_Mo_join 1 125 [some (.ref 47), some (.int (iv n)), some (.int (iv ((n + j : Nat) : Int))), some (.int (iv ((n - j : Nat) : Int))), some (.int (iv (a : Int))), some (.int (iv (b : Int)))] [.int (iv m), .int (iv ((n + j : Nat) : Int)), .ref 60] h (fun r0 h1 => r0 = none ∧ (∃ ar1, MoH h1 iz ar1 ∧ KA [16, 18, 19, 20] ar ar1 ∧ ∀ k : Nat, k < n → ar1 16 k = lenH wt n k) ∧ Fr MOS h0 h1) := by
          intro m hm
          have g19 := ag_new h19' m
          have g20 := ag_up (ag_up (ag_new h20' (-1)) a ((n + j : Nat) : Int)) b ((n + j : Nat) : Int)
          first | refine ah_iast d_Mo_join_125 hH hF 0 rfl rfl (by omega) (by omega) (by omega) (by omega) (fun h hH hF => ?_) | refine ah_iast d_Mo_join_125 hH hF 1 rfl rfl (by omega) (by omega) (by omega) (by omega) (fun h hH hF => ?_) | refine ah_iast d_Mo_join_125 hH hF 2 rfl rfl (by omega) (by omega) (by omega) (by omega) (fun h hH hF => ?_) | refine ah_iast d_Mo_join_125 hH hF 3 rfl rfl (by omega) (by omega) (by omega) (by omega) (fun h hH hF => ?_) | refine ah_iast d_Mo_join_125 hH hF 4 rfl rfl (by omega) (by omega) (by omega) (by omega) (fun h hH hF => ?_) | refine ah_iast d_Mo_join_125 hH hF 5 rfl rfl (by omega) (by omega) (by omega) (by omega) (fun h hH hF => ?_) | refine ah_iast d_Mo_join_125 hH hF 6 rfl rfl (by omega) (by omega) (by omega) (by omega) (fun h hH hF => ?_) | refine ah_iast d_Mo_join_125 hH hF 7 rfl rfl (by omega) (by omega) (by omega) (by omega) (fun h hH hF => ?_) | refine ah_iast d_Mo_join_125 hH hF 8 rfl rfl (by omega) (by omega) (by omega) (by omega) (fun h hH hF => ?_) | refine ah_iast d_Mo_join_125 hH hF 9 rfl rfl (by omega) (by omega) (by omega) (by omega) (fun h hH hF => ?_) | refine ah_iast d_Mo_join_125 hH hF 10 rfl rfl (by omega) (by omega) (by omega) (by omega) (fun h hH hF => ?_) | refine ah_iast d_Mo_join_125 hH hF 11 rfl rfl (by omega) (by omega) (by omega) (by omega) (fun h hH hF => ?_) | refine ah_iast d_Mo_join_125 hH hF 12 rfl rfl (by omega) (by omega) (by omega) (by omega) (fun h hH hF => ?_) | refine ah_iast d_Mo_join_125 hH hF 13 rfl rfl (by omega) (by omega) (by omega) (by omega) (fun h hH hF => ?_) | refine ah_iast d_Mo_join_125 hH hF 14 rfl rfl (by omega) (by omega) (by omega) (by omega) (fun h hH hF => ?_) | refine ah_iast d_Mo_join_125 hH hF 15 rfl rfl (by omega) (by omega) (by omega) (by omega) (fun h hH hF => ?_) | refine ah_iast d_Mo_join_125 hH hF 16 rfl rfl (by omega) (by omega) (by omega) (by omega) (fun h hH hF => ?_) | refine ah_iast d_Mo_join_125 hH hF 17 rfl rfl (by omega) (by omega) (by omega) (by omega) (fun h hH hF => ?_) | refine ah_iast d_Mo_join_125 hH hF 18 rfl rfl (by omega) (by omega) (by omega) (by omega) (fun h hH hF => ?_)
          have hH : MoH h iz (upA ar2 19 (up (ar2 19) (n + j) m)) := hH
          refine ax_aload_n d_Mo_join_126 rfl ?_
          refine ax_get d_Mo_join_127 fg_Mo_50 (by first | assumption | exact hH.g 0 rfl | exact hH.g 1 rfl | exact hH.g 2 rfl | exact hH.g 3 rfl | exact hH.g 4 rfl | exact hH.g 5 rfl | exact hH.g 6 rfl | exact hH.g 7 rfl | exact hH.g 8 rfl | exact hH.g 9 rfl | exact hH.g 10 rfl | exact hH.g 11 rfl | exact hH.g 12 rfl | exact hH.g 13 rfl | exact hH.g 14 rfl | exact hH.g 15 rfl | exact hH.g 16 rfl | exact hH.g 17 rfl | exact hH.g 18 rfl) (by rfl) ?_
          refine ax_iload_n d_Mo_join_130 rfl ?_
          refine az_iconst d_Mo_join_131 ?_
          first | refine ah_iast d_Mo_join_132 hH hF 0 rfl rfl (by omega) (by omega) (by omega) (by omega) (fun h hH hF => ?_) | refine ah_iast d_Mo_join_132 hH hF 1 rfl rfl (by omega) (by omega) (by omega) (by omega) (fun h hH hF => ?_) | refine ah_iast d_Mo_join_132 hH hF 2 rfl rfl (by omega) (by omega) (by omega) (by omega) (fun h hH hF => ?_) | refine ah_iast d_Mo_join_132 hH hF 3 rfl rfl (by omega) (by omega) (by omega) (by omega) (fun h hH hF => ?_) | refine ah_iast d_Mo_join_132 hH hF 4 rfl rfl (by omega) (by omega) (by omega) (by omega) (fun h hH hF => ?_) | refine ah_iast d_Mo_join_132 hH hF 5 rfl rfl (by omega) (by omega) (by omega) (by omega) (fun h hH hF => ?_) | refine ah_iast d_Mo_join_132 hH hF 6 rfl rfl (by omega) (by omega) (by omega) (by omega) (fun h hH hF => ?_) | refine ah_iast d_Mo_join_132 hH hF 7 rfl rfl (by omega) (by omega) (by omega) (by omega) (fun h hH hF => ?_) | refine ah_iast d_Mo_join_132 hH hF 8 rfl rfl (by omega) (by omega) (by omega) (by omega) (fun h hH hF => ?_) | refine ah_iast d_Mo_join_132 hH hF 9 rfl rfl (by omega) (by omega) (by omega) (by omega) (fun h hH hF => ?_) | refine ah_iast d_Mo_join_132 hH hF 10 rfl rfl (by omega) (by omega) (by omega) (by omega) (fun h hH hF => ?_) | refine ah_iast d_Mo_join_132 hH hF 11 rfl rfl (by omega) (by omega) (by omega) (by omega) (fun h hH hF => ?_) | refine ah_iast d_Mo_join_132 hH hF 12 rfl rfl (by omega) (by omega) (by omega) (by omega) (fun h hH hF => ?_) | refine ah_iast d_Mo_join_132 hH hF 13 rfl rfl (by omega) (by omega) (by omega) (by omega) (fun h hH hF => ?_) | refine ah_iast d_Mo_join_132 hH hF 14 rfl rfl (by omega) (by omega) (by omega) (by omega) (fun h hH hF => ?_) | refine ah_iast d_Mo_join_132 hH hF 15 rfl rfl (by omega) (by omega) (by omega) (by omega) (fun h hH hF => ?_) | refine ah_iast d_Mo_join_132 hH hF 16 rfl rfl (by omega) (by omega) (by omega) (by omega) (fun h hH hF => ?_) | refine ah_iast d_Mo_join_132 hH hF 17 rfl rfl (by omega) (by omega) (by omega) (by omega) (fun h hH hF => ?_) | refine ah_iast d_Mo_join_132 hH hF 18 rfl rfl (by omega) (by omega) (by omega) (by omega) (fun h hH hF => ?_)
          have hH : MoH h iz (upA (upA ar2 19 (up (ar2 19) (n + j) m)) 20 (up (ar2 20) (n + j) (-1))) := hH
          refine ax_aload_n d_Mo_join_133 rfl ?_
          refine ax_get d_Mo_join_134 fg_Mo_50 (by first | assumption | exact hH.g 0 rfl | exact hH.g 1 rfl | exact hH.g 2 rfl | exact hH.g 3 rfl | exact hH.g 4 rfl | exact hH.g 5 rfl | exact hH.g 6 rfl | exact hH.g 7 rfl | exact hH.g 8 rfl | exact hH.g 9 rfl | exact hH.g 10 rfl | exact hH.g 11 rfl | exact hH.g 12 rfl | exact hH.g 13 rfl | exact hH.g 14 rfl | exact hH.g 15 rfl | exact hH.g 16 rfl | exact hH.g 17 rfl | exact hH.g 18 rfl) (by rfl) ?_
          refine ax_iload d_Mo_join_137 rfl ?_
          refine ax_iload_n d_Mo_join_139 rfl ?_
          first | refine ah_iast d_Mo_join_140 hH hF 0 rfl rfl (by omega) (by omega) (by omega) (by omega) (fun h hH hF => ?_) | refine ah_iast d_Mo_join_140 hH hF 1 rfl rfl (by omega) (by omega) (by omega) (by omega) (fun h hH hF => ?_) | refine ah_iast d_Mo_join_140 hH hF 2 rfl rfl (by omega) (by omega) (by omega) (by omega) (fun h hH hF => ?_) | refine ah_iast d_Mo_join_140 hH hF 3 rfl rfl (by omega) (by omega) (by omega) (by omega) (fun h hH hF => ?_) | refine ah_iast d_Mo_join_140 hH hF 4 rfl rfl (by omega) (by omega) (by omega) (by omega) (fun h hH hF => ?_) | refine ah_iast d_Mo_join_140 hH hF 5 rfl rfl (by omega) (by omega) (by omega) (by omega) (fun h hH hF => ?_) | refine ah_iast d_Mo_join_140 hH hF 6 rfl rfl (by omega) (by omega) (by omega) (by omega) (fun h hH hF => ?_) | refine ah_iast d_Mo_join_140 hH hF 7 rfl rfl (by omega) (by omega) (by omega) (by omega) (fun h hH hF => ?_) | refine ah_iast d_Mo_join_140 hH hF 8 rfl rfl (by omega) (by omega) (by omega) (by omega) (fun h hH hF => ?_) | refine ah_iast d_Mo_join_140 hH hF 9 rfl rfl (by omega) (by omega) (by omega) (by omega) (fun h hH hF => ?_) | refine ah_iast d_Mo_join_140 hH hF 10 rfl rfl (by omega) (by omega) (by omega) (by omega) (fun h hH hF => ?_) | refine ah_iast d_Mo_join_140 hH hF 11 rfl rfl (by omega) (by omega) (by omega) (by omega) (fun h hH hF => ?_) | refine ah_iast d_Mo_join_140 hH hF 12 rfl rfl (by omega) (by omega) (by omega) (by omega) (fun h hH hF => ?_) | refine ah_iast d_Mo_join_140 hH hF 13 rfl rfl (by omega) (by omega) (by omega) (by omega) (fun h hH hF => ?_) | refine ah_iast d_Mo_join_140 hH hF 14 rfl rfl (by omega) (by omega) (by omega) (by omega) (fun h hH hF => ?_) | refine ah_iast d_Mo_join_140 hH hF 15 rfl rfl (by omega) (by omega) (by omega) (by omega) (fun h hH hF => ?_) | refine ah_iast d_Mo_join_140 hH hF 16 rfl rfl (by omega) (by omega) (by omega) (by omega) (fun h hH hF => ?_) | refine ah_iast d_Mo_join_140 hH hF 17 rfl rfl (by omega) (by omega) (by omega) (by omega) (fun h hH hF => ?_) | refine ah_iast d_Mo_join_140 hH hF 18 rfl rfl (by omega) (by omega) (by omega) (by omega) (fun h hH hF => ?_)
          have hH : MoH h iz (upA (upA ar2 19 (up (ar2 19) (n + j) m)) 20 (up (up (ar2 20) (n + j) (-1)) a ((n + j : Nat) : Int))) := hH
          refine ax_aload_n d_Mo_join_141 rfl ?_
          refine ax_get d_Mo_join_142 fg_Mo_50 (by first | assumption | exact hH.g 0 rfl | exact hH.g 1 rfl | exact hH.g 2 rfl | exact hH.g 3 rfl | exact hH.g 4 rfl | exact hH.g 5 rfl | exact hH.g 6 rfl | exact hH.g 7 rfl | exact hH.g 8 rfl | exact hH.g 9 rfl | exact hH.g 10 rfl | exact hH.g 11 rfl | exact hH.g 12 rfl | exact hH.g 13 rfl | exact hH.g 14 rfl | exact hH.g 15 rfl | exact hH.g 16 rfl | exact hH.g 17 rfl | exact hH.g 18 rfl) (by rfl) ?_
          refine ax_iload d_Mo_join_145 rfl ?_
          refine ax_iload_n d_Mo_join_147 rfl ?_
          refine az_iinc d_Mo_join_148 rfl (by decide) rfl ?_
          first | refine ah_iast d_Mo_join_151 hH hF 0 rfl rfl (by omega) (by omega) (by omega) (by omega) (fun h hH hF => ?_) | refine ah_iast d_Mo_join_151 hH hF 1 rfl rfl (by omega) (by omega) (by omega) (by omega) (fun h hH hF => ?_) | refine ah_iast d_Mo_join_151 hH hF 2 rfl rfl (by omega) (by omega) (by omega) (by omega) (fun h hH hF => ?_) | refine ah_iast d_Mo_join_151 hH hF 3 rfl rfl (by omega) (by omega) (by omega) (by omega) (fun h hH hF => ?_) | refine ah_iast d_Mo_join_151 hH hF 4 rfl rfl (by omega) (by omega) (by omega) (by omega) (fun h hH hF => ?_) | refine ah_iast d_Mo_join_151 hH hF 5 rfl rfl (by omega) (by omega) (by omega) (by omega) (fun h hH hF => ?_) | refine ah_iast d_Mo_join_151 hH hF 6 rfl rfl (by omega) (by omega) (by omega) (by omega) (fun h hH hF => ?_) | refine ah_iast d_Mo_join_151 hH hF 7 rfl rfl (by omega) (by omega) (by omega) (by omega) (fun h hH hF => ?_) | refine ah_iast d_Mo_join_151 hH hF 8 rfl rfl (by omega) (by omega) (by omega) (by omega) (fun h hH hF => ?_) | refine ah_iast d_Mo_join_151 hH hF 9 rfl rfl (by omega) (by omega) (by omega) (by omega) (fun h hH hF => ?_) | refine ah_iast d_Mo_join_151 hH hF 10 rfl rfl (by omega) (by omega) (by omega) (by omega) (fun h hH hF => ?_) | refine ah_iast d_Mo_join_151 hH hF 11 rfl rfl (by omega) (by omega) (by omega) (by omega) (fun h hH hF => ?_) | refine ah_iast d_Mo_join_151 hH hF 12 rfl rfl (by omega) (by omega) (by omega) (by omega) (fun h hH hF => ?_) | refine ah_iast d_Mo_join_151 hH hF 13 rfl rfl (by omega) (by omega) (by omega) (by omega) (fun h hH hF => ?_) | refine ah_iast d_Mo_join_151 hH hF 14 rfl rfl (by omega) (by omega) (by omega) (by omega) (fun h hH hF => ?_) | refine ah_iast d_Mo_join_151 hH hF 15 rfl rfl (by omega) (by omega) (by omega) (by omega) (fun h hH hF => ?_) | refine ah_iast d_Mo_join_151 hH hF 16 rfl rfl (by omega) (by omega) (by omega) (by omega) (fun h hH hF => ?_) | refine ah_iast d_Mo_join_151 hH hF 17 rfl rfl (by omega) (by omega) (by omega) (by omega) (fun h hH hF => ?_) | refine ah_iast d_Mo_join_151 hH hF 18 rfl rfl (by omega) (by omega) (by omega) (by omega) (fun h hH hF => ?_)
          have hH : MoH h iz (upA (upA ar2 19 (up (ar2 19) (n + j) m)) 20 (up (up (up (ar2 20) (n + j) (-1)) a ((n + j : Nat) : Int)) b ((n + j : Nat) : Int))) := hH
          refine az_iinc d_Mo_join_152 rfl (by decide) rfl ?_
          have en : ((n - j : Nat) : Int) + -1 = ((n - (j + 1) : Nat) : Int) := by omega
          have en2 : ((n + j : Nat) : Int) + 1 = ((n + (j + 1) : Nat) : Int) := by omega
          rw [en, en2]
          refine ax_goto 43 d_Mo_join_155 (by decide) ?_
          refine ih1 _ h (by omega) hH hF ((ka1.up 19 _ rfl).up 20 _ rfl) g18' ?_ g20 _ _
          rw [← hm]
          exact g19
        refine ax_aload_n d_Mo_join_86 rfl ?_
        refine ax_get d_Mo_join_87 fg_Mo_47 (by first | assumption | exact hH.g 0 rfl | exact hH.g 1 rfl | exact hH.g 2 rfl | exact hH.g 3 rfl | exact hH.g 4 rfl | exact hH.g 5 rfl | exact hH.g 6 rfl | exact hH.g 7 rfl | exact hH.g 8 rfl | exact hH.g 9 rfl | exact hH.g 10 rfl | exact hH.g 11 rfl | exact hH.g 12 rfl | exact hH.g 13 rfl | exact hH.g 14 rfl | exact hH.g 15 rfl | exact hH.g 16 rfl | exact hH.g 17 rfl | exact hH.g 18 rfl) (by rfl) ?_
        refine ax_iload_n d_Mo_join_90 rfl ?_
        refine ax_aload_n d_Mo_join_91 rfl ?_
        refine ax_get d_Mo_join_92 fg_Mo_47 (by first | assumption | exact hH.g 0 rfl | exact hH.g 1 rfl | exact hH.g 2 rfl | exact hH.g 3 rfl | exact hH.g 4 rfl | exact hH.g 5 rfl | exact hH.g 6 rfl | exact hH.g 7 rfl | exact hH.g 8 rfl | exact hH.g 9 rfl | exact hH.g 10 rfl | exact hH.g 11 rfl | exact hH.g 12 rfl | exact hH.g 13 rfl | exact hH.g 14 rfl | exact hH.g 15 rfl | exact hH.g 16 rfl | exact hH.g 17 rfl | exact hH.g 18 rfl) (by rfl) ?_
        refine ax_iload d_Mo_join_95 rfl ?_
        refine az_iald d_Mo_join_97 (by first | assumption | exact hH.g 0 rfl | exact hH.g 1 rfl | exact hH.g 2 rfl | exact hH.g 3 rfl | exact hH.g 4 rfl | exact hH.g 5 rfl | exact hH.g 6 rfl | exact hH.g 7 rfl | exact hH.g 8 rfl | exact hH.g 9 rfl | exact hH.g 10 rfl | exact hH.g 11 rfl | exact hH.g 12 rfl | exact hH.g 13 rfl | exact hH.g 14 rfl | exact hH.g 15 rfl | exact hH.g 16 rfl | exact hH.g 17 rfl | exact hH.g 18 rfl) (by omega) (by omega) (by omega) ?_
        rw [r19a]
        refine ax_aload_n d_Mo_join_98 rfl ?_
        refine ax_get d_Mo_join_99 fg_Mo_47 (by first | assumption | exact hH.g 0 rfl | exact hH.g 1 rfl | exact hH.g 2 rfl | exact hH.g 3 rfl | exact hH.g 4 rfl | exact hH.g 5 rfl | exact hH.g 6 rfl | exact hH.g 7 rfl | exact hH.g 8 rfl | exact hH.g 9 rfl | exact hH.g 10 rfl | exact hH.g 11 rfl | exact hH.g 12 rfl | exact hH.g 13 rfl | exact hH.g 14 rfl | exact hH.g 15 rfl | exact hH.g 16 rfl | exact hH.g 17 rfl | exact hH.g 18 rfl) (by rfl) ?_
        refine ax_iload d_Mo_join_102 rfl ?_
        refine az_iald d_Mo_join_104 (by first | assumption | exact hH.g 0 rfl | exact hH.g 1 rfl | exact hH.g 2 rfl | exact hH.g 3 rfl | exact hH.g 4 rfl | exact hH.g 5 rfl | exact hH.g 6 rfl | exact hH.g 7 rfl | exact hH.g 8 rfl | exact hH.g 9 rfl | exact hH.g 10 rfl | exact hH.g 11 rfl | exact hH.g 12 rfl | exact hH.g 13 rfl | exact hH.g 14 rfl | exact hH.g 15 rfl | exact hH.g 16 rfl | exact hH.g 17 rfl | exact hH.g 18 rfl) (by omega) (by omega) (by omega) ?_
        rw [r19b]
        refine az_icmp_ge 118 d_Mo_join_105 (by decide) (by omega) (by omega) (fun hge => ?_) (fun hge => ?_)
        · refine ax_aload_n d_Mo_join_118 rfl ?_
          refine ax_get d_Mo_join_119 fg_Mo_47 (by first | assumption | exact hH.g 0 rfl | exact hH.g 1 rfl | exact hH.g 2 rfl | exact hH.g 3 rfl | exact hH.g 4 rfl | exact hH.g 5 rfl | exact hH.g 6 rfl | exact hH.g 7 rfl | exact hH.g 8 rfl | exact hH.g 9 rfl | exact hH.g 10 rfl | exact hH.g 11 rfl | exact hH.g 12 rfl | exact hH.g 13 rfl | exact hH.g 14 rfl | exact hH.g 15 rfl | exact hH.g 16 rfl | exact hH.g 17 rfl | exact hH.g 18 rfl) (by rfl) ?_
          refine ax_iload d_Mo_join_122 rfl ?_
          refine az_iald d_Mo_join_124 (by first | assumption | exact hH.g 0 rfl | exact hH.g 1 rfl | exact hH.g 2 rfl | exact hH.g 3 rfl | exact hH.g 4 rfl | exact hH.g 5 rfl | exact hH.g 6 rfl | exact hH.g 7 rfl | exact hH.g 8 rfl | exact hH.g 9 rfl | exact hH.g 10 rfl | exact hH.g 11 rfl | exact hH.g 12 rfl | exact hH.g 13 rfl | exact hH.g 14 rfl | exact hH.g 15 rfl | exact hH.g 16 rfl | exact hH.g 17 rfl | exact hH.g 18 rfl) (by omega) (by omega) (by omega) ?_
          rw [r19b]
          exact rest _ (by rw [if_neg (by omega)])
        · refine ax_aload_n d_Mo_join_108 rfl ?_
          refine ax_get d_Mo_join_109 fg_Mo_47 (by first | assumption | exact hH.g 0 rfl | exact hH.g 1 rfl | exact hH.g 2 rfl | exact hH.g 3 rfl | exact hH.g 4 rfl | exact hH.g 5 rfl | exact hH.g 6 rfl | exact hH.g 7 rfl | exact hH.g 8 rfl | exact hH.g 9 rfl | exact hH.g 10 rfl | exact hH.g 11 rfl | exact hH.g 12 rfl | exact hH.g 13 rfl | exact hH.g 14 rfl | exact hH.g 15 rfl | exact hH.g 16 rfl | exact hH.g 17 rfl | exact hH.g 18 rfl) (by rfl) ?_
          refine ax_iload d_Mo_join_112 rfl ?_
          refine az_iald d_Mo_join_114 (by first | assumption | exact hH.g 0 rfl | exact hH.g 1 rfl | exact hH.g 2 rfl | exact hH.g 3 rfl | exact hH.g 4 rfl | exact hH.g 5 rfl | exact hH.g 6 rfl | exact hH.g 7 rfl | exact hH.g 8 rfl | exact hH.g 9 rfl | exact hH.g 10 rfl | exact hH.g 11 rfl | exact hH.g 12 rfl | exact hH.g 13 rfl | exact hH.g 14 rfl | exact hH.g 15 rfl | exact hH.g 16 rfl | exact hH.g 17 rfl | exact hH.g 18 rfl) (by omega) (by omega) (by omega) ?_
          rw [r19a]
          refine ax_goto 125 d_Mo_join_115 (by decide) ?_
          exact rest _ (by rw [if_pos (by omega)])
  have first : ∀ (f s : Nat) (ar1 : Nat → Nat → Int) (h : ax_H), s + f = n → MoH h iz ar1 → Fr MOS h0 h → KA [16, 18, 19, 20] ar ar1 → (∀ k : Nat, k < s → ar1 18 k = wt k ∧ ar1 19 k = k ∧ ar1 20 k = -1) →
      ax_W m_Mo_join 1 2 [some (.ref 47), some (.int (iv n)), some (.int (iv s)), none, none, none] [] h (fun r0 h1 => r0 = none ∧ (∃ ar1, MoH h1 iz ar1 ∧ KA [16, 18, 19, 20] ar ar1 ∧ ∀ k : Nat, k < n → ar1 16 k = lenH wt n k) ∧ Fr MOS h0 h1) := by
    intro f
    induction f with
    | zero =>
      intro s ar1 h he hH hF ka hs
      refine ax_iload_n d_Mo_join_2 rfl ?_
      refine ax_iload_n d_Mo_join_3 rfl ?_
      refine az_icmp_ge 39 d_Mo_join_4 (by decide) (by omega) (by omega) (fun hc => ?_) (fun hc => ?_)
      · refine ax_iload_n d_Mo_join_39 rfl ?_
        refine ax_istore_n d_Mo_join_40 (by decide) rfl ?_
        refine ax_iload_n d_Mo_join_41 rfl ?_
        refine ax_istore_n d_Mo_join_42 (by decide) rfl ?_
        exact second (n - 1) 0 ar1 h (by omega) hH hF ka (fun k hk => (hs k (by omega)).1) (fun k hk => (hs k (by omega)).2.1) (fun k hk => (hs k (by omega)).2.2) _ _
      · exfalso
        omega
    | succ f ih =>
      intro s ar1 h he hH hF ka hs
      have a21 := ka 21 rfl
      have er : ar1 21 ((s : Int).toNat) = wt s := by rw [a21]; exact hw s (by omega)
      refine ax_iload_n d_Mo_join_2 rfl ?_
      refine ax_iload_n d_Mo_join_3 rfl ?_
      refine az_icmp_ge 39 d_Mo_join_4 (by decide) (by omega) (by omega) (fun hc => ?_) (fun hc => ?_)
      · exfalso
        omega
      · refine ax_aload_n d_Mo_join_7 rfl ?_
        refine ax_get d_Mo_join_8 fg_Mo_43 (by first | assumption | exact hH.g 0 rfl | exact hH.g 1 rfl | exact hH.g 2 rfl | exact hH.g 3 rfl | exact hH.g 4 rfl | exact hH.g 5 rfl | exact hH.g 6 rfl | exact hH.g 7 rfl | exact hH.g 8 rfl | exact hH.g 9 rfl | exact hH.g 10 rfl | exact hH.g 11 rfl | exact hH.g 12 rfl | exact hH.g 13 rfl | exact hH.g 14 rfl | exact hH.g 15 rfl | exact hH.g 16 rfl | exact hH.g 17 rfl | exact hH.g 18 rfl) (by rfl) ?_
        refine ax_iload_n d_Mo_join_11 rfl ?_
        refine ax_aload_n d_Mo_join_12 rfl ?_
        refine ax_get d_Mo_join_13 fg_Mo_53 (by first | assumption | exact hH.g 0 rfl | exact hH.g 1 rfl | exact hH.g 2 rfl | exact hH.g 3 rfl | exact hH.g 4 rfl | exact hH.g 5 rfl | exact hH.g 6 rfl | exact hH.g 7 rfl | exact hH.g 8 rfl | exact hH.g 9 rfl | exact hH.g 10 rfl | exact hH.g 11 rfl | exact hH.g 12 rfl | exact hH.g 13 rfl | exact hH.g 14 rfl | exact hH.g 15 rfl | exact hH.g 16 rfl | exact hH.g 17 rfl | exact hH.g 18 rfl) (by rfl) ?_
        refine ax_iload_n d_Mo_join_16 rfl ?_
        refine aj_lald d_Mo_join_17 (by first | assumption | exact hH.g 0 rfl | exact hH.g 1 rfl | exact hH.g 2 rfl | exact hH.g 3 rfl | exact hH.g 4 rfl | exact hH.g 5 rfl | exact hH.g 6 rfl | exact hH.g 7 rfl | exact hH.g 8 rfl | exact hH.g 9 rfl | exact hH.g 10 rfl | exact hH.g 11 rfl | exact hH.g 12 rfl | exact hH.g 13 rfl | exact hH.g 14 rfl | exact hH.g 15 rfl | exact hH.g 16 rfl | exact hH.g 17 rfl | exact hH.g 18 rfl) (by omega) (by omega) (by omega) ?_
        rw [er]
        first | refine ah_last d_Mo_join_18 hH hF 0 rfl rfl (by omega) (by omega) (by omega) (by omega) (fun h hH hF => ?_) | refine ah_last d_Mo_join_18 hH hF 1 rfl rfl (by omega) (by omega) (by omega) (by omega) (fun h hH hF => ?_) | refine ah_last d_Mo_join_18 hH hF 2 rfl rfl (by omega) (by omega) (by omega) (by omega) (fun h hH hF => ?_) | refine ah_last d_Mo_join_18 hH hF 3 rfl rfl (by omega) (by omega) (by omega) (by omega) (fun h hH hF => ?_) | refine ah_last d_Mo_join_18 hH hF 4 rfl rfl (by omega) (by omega) (by omega) (by omega) (fun h hH hF => ?_) | refine ah_last d_Mo_join_18 hH hF 5 rfl rfl (by omega) (by omega) (by omega) (by omega) (fun h hH hF => ?_) | refine ah_last d_Mo_join_18 hH hF 6 rfl rfl (by omega) (by omega) (by omega) (by omega) (fun h hH hF => ?_) | refine ah_last d_Mo_join_18 hH hF 7 rfl rfl (by omega) (by omega) (by omega) (by omega) (fun h hH hF => ?_) | refine ah_last d_Mo_join_18 hH hF 8 rfl rfl (by omega) (by omega) (by omega) (by omega) (fun h hH hF => ?_) | refine ah_last d_Mo_join_18 hH hF 9 rfl rfl (by omega) (by omega) (by omega) (by omega) (fun h hH hF => ?_) | refine ah_last d_Mo_join_18 hH hF 10 rfl rfl (by omega) (by omega) (by omega) (by omega) (fun h hH hF => ?_) | refine ah_last d_Mo_join_18 hH hF 11 rfl rfl (by omega) (by omega) (by omega) (by omega) (fun h hH hF => ?_) | refine ah_last d_Mo_join_18 hH hF 12 rfl rfl (by omega) (by omega) (by omega) (by omega) (fun h hH hF => ?_) | refine ah_last d_Mo_join_18 hH hF 13 rfl rfl (by omega) (by omega) (by omega) (by omega) (fun h hH hF => ?_) | refine ah_last d_Mo_join_18 hH hF 14 rfl rfl (by omega) (by omega) (by omega) (by omega) (fun h hH hF => ?_) | refine ah_last d_Mo_join_18 hH hF 15 rfl rfl (by omega) (by omega) (by omega) (by omega) (fun h hH hF => ?_) | refine ah_last d_Mo_join_18 hH hF 16 rfl rfl (by omega) (by omega) (by omega) (by omega) (fun h hH hF => ?_) | refine ah_last d_Mo_join_18 hH hF 17 rfl rfl (by omega) (by omega) (by omega) (by omega) (fun h hH hF => ?_) | refine ah_last d_Mo_join_18 hH hF 18 rfl rfl (by omega) (by omega) (by omega) (by omega) (fun h hH hF => ?_)
        refine ax_aload_n d_Mo_join_19 rfl ?_
        refine ax_get d_Mo_join_20 fg_Mo_47 (by first | assumption | exact hH.g 0 rfl | exact hH.g 1 rfl | exact hH.g 2 rfl | exact hH.g 3 rfl | exact hH.g 4 rfl | exact hH.g 5 rfl | exact hH.g 6 rfl | exact hH.g 7 rfl | exact hH.g 8 rfl | exact hH.g 9 rfl | exact hH.g 10 rfl | exact hH.g 11 rfl | exact hH.g 12 rfl | exact hH.g 13 rfl | exact hH.g 14 rfl | exact hH.g 15 rfl | exact hH.g 16 rfl | exact hH.g 17 rfl | exact hH.g 18 rfl) (by rfl) ?_
        refine ax_iload_n d_Mo_join_23 rfl ?_
        refine ax_iload_n d_Mo_join_24 rfl ?_
        first | refine ah_iast d_Mo_join_25 hH hF 0 rfl rfl (by omega) (by omega) (by omega) (by omega) (fun h hH hF => ?_) | refine ah_iast d_Mo_join_25 hH hF 1 rfl rfl (by omega) (by omega) (by omega) (by omega) (fun h hH hF => ?_) | refine ah_iast d_Mo_join_25 hH hF 2 rfl rfl (by omega) (by omega) (by omega) (by omega) (fun h hH hF => ?_) | refine ah_iast d_Mo_join_25 hH hF 3 rfl rfl (by omega) (by omega) (by omega) (by omega) (fun h hH hF => ?_) | refine ah_iast d_Mo_join_25 hH hF 4 rfl rfl (by omega) (by omega) (by omega) (by omega) (fun h hH hF => ?_) | refine ah_iast d_Mo_join_25 hH hF 5 rfl rfl (by omega) (by omega) (by omega) (by omega) (fun h hH hF => ?_) | refine ah_iast d_Mo_join_25 hH hF 6 rfl rfl (by omega) (by omega) (by omega) (by omega) (fun h hH hF => ?_) | refine ah_iast d_Mo_join_25 hH hF 7 rfl rfl (by omega) (by omega) (by omega) (by omega) (fun h hH hF => ?_) | refine ah_iast d_Mo_join_25 hH hF 8 rfl rfl (by omega) (by omega) (by omega) (by omega) (fun h hH hF => ?_) | refine ah_iast d_Mo_join_25 hH hF 9 rfl rfl (by omega) (by omega) (by omega) (by omega) (fun h hH hF => ?_) | refine ah_iast d_Mo_join_25 hH hF 10 rfl rfl (by omega) (by omega) (by omega) (by omega) (fun h hH hF => ?_) | refine ah_iast d_Mo_join_25 hH hF 11 rfl rfl (by omega) (by omega) (by omega) (by omega) (fun h hH hF => ?_) | refine ah_iast d_Mo_join_25 hH hF 12 rfl rfl (by omega) (by omega) (by omega) (by omega) (fun h hH hF => ?_) | refine ah_iast d_Mo_join_25 hH hF 13 rfl rfl (by omega) (by omega) (by omega) (by omega) (fun h hH hF => ?_) | refine ah_iast d_Mo_join_25 hH hF 14 rfl rfl (by omega) (by omega) (by omega) (by omega) (fun h hH hF => ?_) | refine ah_iast d_Mo_join_25 hH hF 15 rfl rfl (by omega) (by omega) (by omega) (by omega) (fun h hH hF => ?_) | refine ah_iast d_Mo_join_25 hH hF 16 rfl rfl (by omega) (by omega) (by omega) (by omega) (fun h hH hF => ?_) | refine ah_iast d_Mo_join_25 hH hF 17 rfl rfl (by omega) (by omega) (by omega) (by omega) (fun h hH hF => ?_) | refine ah_iast d_Mo_join_25 hH hF 18 rfl rfl (by omega) (by omega) (by omega) (by omega) (fun h hH hF => ?_)
        refine ax_aload_n d_Mo_join_26 rfl ?_
        refine ax_get d_Mo_join_27 fg_Mo_50 (by first | assumption | exact hH.g 0 rfl | exact hH.g 1 rfl | exact hH.g 2 rfl | exact hH.g 3 rfl | exact hH.g 4 rfl | exact hH.g 5 rfl | exact hH.g 6 rfl | exact hH.g 7 rfl | exact hH.g 8 rfl | exact hH.g 9 rfl | exact hH.g 10 rfl | exact hH.g 11 rfl | exact hH.g 12 rfl | exact hH.g 13 rfl | exact hH.g 14 rfl | exact hH.g 15 rfl | exact hH.g 16 rfl | exact hH.g 17 rfl | exact hH.g 18 rfl) (by rfl) ?_
        refine ax_iload_n d_Mo_join_30 rfl ?_
        refine az_iconst d_Mo_join_31 ?_
        first | refine ah_iast d_Mo_join_32 hH hF 0 rfl rfl (by omega) (by omega) (by omega) (by omega) (fun h hH hF => ?_) | refine ah_iast d_Mo_join_32 hH hF 1 rfl rfl (by omega) (by omega) (by omega) (by omega) (fun h hH hF => ?_) | refine ah_iast d_Mo_join_32 hH hF 2 rfl rfl (by omega) (by omega) (by omega) (by omega) (fun h hH hF => ?_) | refine ah_iast d_Mo_join_32 hH hF 3 rfl rfl (by omega) (by omega) (by omega) (by omega) (fun h hH hF => ?_) | refine ah_iast d_Mo_join_32 hH hF 4 rfl rfl (by omega) (by omega) (by omega) (by omega) (fun h hH hF => ?_) | refine ah_iast d_Mo_join_32 hH hF 5 rfl rfl (by omega) (by omega) (by omega) (by omega) (fun h hH hF => ?_) | refine ah_iast d_Mo_join_32 hH hF 6 rfl rfl (by omega) (by omega) (by omega) (by omega) (fun h hH hF => ?_) | refine ah_iast d_Mo_join_32 hH hF 7 rfl rfl (by omega) (by omega) (by omega) (by omega) (fun h hH hF => ?_) | refine ah_iast d_Mo_join_32 hH hF 8 rfl rfl (by omega) (by omega) (by omega) (by omega) (fun h hH hF => ?_) | refine ah_iast d_Mo_join_32 hH hF 9 rfl rfl (by omega) (by omega) (by omega) (by omega) (fun h hH hF => ?_) | refine ah_iast d_Mo_join_32 hH hF 10 rfl rfl (by omega) (by omega) (by omega) (by omega) (fun h hH hF => ?_) | refine ah_iast d_Mo_join_32 hH hF 11 rfl rfl (by omega) (by omega) (by omega) (by omega) (fun h hH hF => ?_) | refine ah_iast d_Mo_join_32 hH hF 12 rfl rfl (by omega) (by omega) (by omega) (by omega) (fun h hH hF => ?_) | refine ah_iast d_Mo_join_32 hH hF 13 rfl rfl (by omega) (by omega) (by omega) (by omega) (fun h hH hF => ?_) | refine ah_iast d_Mo_join_32 hH hF 14 rfl rfl (by omega) (by omega) (by omega) (by omega) (fun h hH hF => ?_) | refine ah_iast d_Mo_join_32 hH hF 15 rfl rfl (by omega) (by omega) (by omega) (by omega) (fun h hH hF => ?_) | refine ah_iast d_Mo_join_32 hH hF 16 rfl rfl (by omega) (by omega) (by omega) (by omega) (fun h hH hF => ?_) | refine ah_iast d_Mo_join_32 hH hF 17 rfl rfl (by omega) (by omega) (by omega) (by omega) (fun h hH hF => ?_) | refine ah_iast d_Mo_join_32 hH hF 18 rfl rfl (by omega) (by omega) (by omega) (by omega) (fun h hH hF => ?_)
        refine az_iinc d_Mo_join_33 rfl (by decide) rfl ?_
        refine ax_goto 2 d_Mo_join_36 (by decide) ?_
        refine ih (s + 1) (upA (upA (upA ar1 18 (up (ar1 18) s (wt s))) 19 (up (ar1 19) s s)) 20 (up (ar1 20) s (-1))) h (by omega) hH hF (((ka.up 18 _ rfl).up 19 _ rfl).up 20 _ rfl) (fun k hk => ?_)
        show up (ar1 18) s (wt s) k = _ ∧ up (ar1 19) s s k = _ ∧ up (ar1 20) s (-1) k = _
        by_cases e : k = s
        · rw [e, up_at, up_at, up_at]
          exact ⟨rfl, rfl, rfl⟩
        · rw [up_ne e, up_ne e, up_ne e]
          exact hs k (by omega)
  exact first n 0 ar h0 (by omega) hH hF KA.rf (fun k hk => by omega)
