/-! Turns: numberRanks, notePlaces, sortTurns -/
theorem arz_add {n a : Nat} (ha : a < n + n) : arz n (a : Int) = ((a % n : Nat) : Int) := by
  unfold arz
  rw [if_neg (by omega)]
  by_cases h : a < n
  · rw [if_pos (by omega), Nat.mod_eq_of_lt h]
  · rw [if_neg (by omega), Nat.mod_eq_sub_mod (by omega), Nat.mod_eq_of_lt (by omega)]
    omega
set_option maxRecDepth 100000 in
set_option maxHeartbeats 4000000 in
theorem c_Tu_numberRanks {h0 : ax_H} {n M : Nat} {rc db : Int} {o p rk ln off : Nat → Int} {pl oN : Nat → Nat} (hH : Hs h0 (TuL n rc db o p rk ln off)) (hn : n ≤ 900) (hM : M < n ∨ M = 0) (hb : back2 n pl oN) (ho : ∀ k : Nat, k < n → o k = oN k) (hrk : ∀ q : Nat, q < n → 0 ≤ rk q ∧ rk q < 2000) :
    ax_Cv m_Tu_numberRanks 1 [.ref 7, .int (iv M)] h0 (fun h1 => (∃ p' rk', Hs h1 (TuL n (if n = 0 then 0 else chg (fun k => ap n M rk (oN k)) (n - 1) + 1) db o p' rk' ln off) ∧ ∀ q : Nat, q < n → rk' q = nrk n M rk pl oN q) ∧ Fr TS h0 h1) := by
  refine ax_enter [some (.ref 7), some (.int (iv M)), none, none, none, none, none, none] rfl (Nat.le_of_ble_eq_true rfl) (by decide) ?_
  refine az_iconst d_Tu_numberRanks_0 ?_
  refine ax_istore_n d_Tu_numberRanks_1 (by decide) rfl ?_
  refine az_iconst d_Tu_numberRanks_2 ?_
  refine ax_istore_n d_Tu_numberRanks_3 (by decide) rfl ?_
  refine az_iconst d_Tu_numberRanks_4 ?_
  refine ax_istore d_Tu_numberRanks_5 (by decide) rfl ?_
  refine az_iconst d_Tu_numberRanks_7 ?_
  refine ax_istore d_Tu_numberRanks_8 (by decide) rfl ?_
  have key : ∀ (f k : Nat) (h : ax_H) (p : Nat → Int) (v2 v3 v4 : Int), k + f = n → Hs h (TuL n rc db o p rk ln off) → Fr TS h0 h → (∀ j : Nat, j < k → p (oN j) = chg (fun k => ap n M rk (oN k)) j) →
      (k = 0 → v2 = -1 ∧ v3 = -1 ∧ v4 = -1) → (∀ j : Nat, k = j + 1 → v2 = chg (fun k => ap n M rk (oN k)) j ∧ (v3, v4) = ap n M rk (oN j)) → ∀ w6 w7 : Option Value,
      ax_W m_Tu_numberRanks 1 10 [some (.ref 7), some (.int (iv M)), some (.int (iv v2)), some (.int (iv v3)), some (.int (iv v4)), some (.int (iv k)), w6, w7] [] h (fun r h1 => r = none ∧ (∃ p' rk', Hs h1 (TuL n (if n = 0 then 0 else chg (fun k => ap n M rk (oN k)) (n - 1) + 1) db o p' rk' ln off) ∧ ∀ q : Nat, q < n → rk' q = nrk n M rk pl oN q) ∧ Fr TS h0 h1) := by
    intro f
    induction f with
    | zero =>
      intro k h p v2 v3 v4 he hH hF hp hz hs w6 w7
      have hk : k = n := by omega
      subst hk
      refine ax_iload d_Tu_numberRanks_10 rfl ?_
      refine ax_aload_n d_Tu_numberRanks_12 rfl ?_
      refine ax_get d_Tu_numberRanks_13 fg_Tu_36 (by first | assumption | exact hH.g 0 rfl | exact hH.g 1 rfl | exact hH.g 2 rfl | exact hH.g 3 rfl | exact hH.g 4 rfl | exact hH.g 5 rfl) (by rfl) ?_
      refine az_icmp_ge 90 d_Tu_numberRanks_16 (by decide) (by omega) (by omega) (fun hc => ?_) (fun hc => ?_)
      · refine ax_aload_n d_Tu_numberRanks_90 rfl ?_
        refine ax_get d_Tu_numberRanks_91 fg_Tu_24 (by first | assumption | exact hH.g 0 rfl | exact hH.g 1 rfl | exact hH.g 2 rfl | exact hH.g 3 rfl | exact hH.g 4 rfl | exact hH.g 5 rfl) (by rfl) ?_
        refine az_iconst d_Tu_numberRanks_94 ?_
        refine ax_aload_n d_Tu_numberRanks_95 rfl ?_
        refine ax_get d_Tu_numberRanks_96 fg_Tu_27 (by first | assumption | exact hH.g 0 rfl | exact hH.g 1 rfl | exact hH.g 2 rfl | exact hH.g 3 rfl | exact hH.g 4 rfl | exact hH.g 5 rfl) (by rfl) ?_
        refine az_iconst d_Tu_numberRanks_99 ?_
        refine ax_aload_n d_Tu_numberRanks_100 rfl ?_
        refine ax_get d_Tu_numberRanks_101 fg_Tu_36 (by first | assumption | exact hH.g 0 rfl | exact hH.g 1 rfl | exact hH.g 2 rfl | exact hH.g 3 rfl | exact hH.g 4 rfl | exact hH.g 5 rfl) (by rfl) ?_
        refine ah_copy0 d_Tu_numberRanks_104 lk_Tu_76 hH hF 2 3 rfl rfl rfl (by decide) (by decide) (by omega) (by omega) (by omega) (by decide) (Nat.le_of_ble_eq_true rfl) (fun h hH hF => ?_)
        refine ax_aload_n d_Tu_numberRanks_107 rfl ?_
        refine ax_iload_n d_Tu_numberRanks_108 rfl ?_
        refine az_iconst d_Tu_numberRanks_109 ?_
        refine az_iadd d_Tu_numberRanks_110 ?_
        first | refine ah_put d_Tu_numberRanks_111 fp_Tu_51 hH hF 0 rfl rfl rfl (by first | rfl | decide) (Nat.le_of_ble_eq_true rfl) (fun h hH hF => ?_) | refine ah_put d_Tu_numberRanks_111 fp_Tu_51 hH hF 1 rfl rfl rfl (by first | rfl | decide) (Nat.le_of_ble_eq_true rfl) (fun h hH hF => ?_) | refine ah_put d_Tu_numberRanks_111 fp_Tu_51 hH hF 2 rfl rfl rfl (by first | rfl | decide) (Nat.le_of_ble_eq_true rfl) (fun h hH hF => ?_) | refine ah_put d_Tu_numberRanks_111 fp_Tu_51 hH hF 3 rfl rfl rfl (by first | rfl | decide) (Nat.le_of_ble_eq_true rfl) (fun h hH hF => ?_) | refine ah_put d_Tu_numberRanks_111 fp_Tu_51 hH hF 4 rfl rfl rfl (by first | rfl | decide) (Nat.le_of_ble_eq_true rfl) (fun h hH hF => ?_) | refine ah_put d_Tu_numberRanks_111 fp_Tu_51 hH hF 5 rfl rfl rfl (by first | rfl | decide) (Nat.le_of_ble_eq_true rfl) (fun h hH hF => ?_)
        refine ax_vret d_Tu_numberRanks_114 rfl ?_
        refine ⟨rfl, ⟨p, cpy0 p rk k, ?_, fun q hq => ?_⟩, hF⟩
        · have e : v2 + 1 = if k = 0 then 0 else chg (fun k_1 => ap k M rk (oN k_1)) (k - 1) + 1 := by
            by_cases e0 : k = 0
            · rw [if_pos e0, (hz e0).1]; rfl
            · rw [if_neg e0, (hs (k - 1) (by omega)).1]
          rw [← e]
          exact hH
        · rw [cpy0, if_pos hq]
          have h1 := hb.1 q hq
          have := hp (pl q) h1.1
          rw [h1.2] at this
          exact this
      · exfalso
        omega
    | succ f ih =>
      intro k h p v2 v3 v4 he hH hF hp hz hs w6 w7
      have hbk := hb.2 k (by omega)
      have hok := ho k (by omega)
      have hr1 := hrk (oN k) hbk.1
      have hr2 := hrk ((oN k + M) % n) (Nat.mod_lt _ (by omega))
      have hlt := Nat.mod_lt (oN k + M) (show 0 < n by omega)
      have hv : (-1 ≤ v3 ∧ v3 < 2000) ∧ -1 ≤ v4 ∧ v4 < 2000 := by
        by_cases e0 : k = 0
        · have := hz e0; omega
        · have h9 := (hs (k - 1) (by omega)).2
          have a1 : v3 = rk (oN (k - 1)) := congrArg Prod.fst h9
          have a2 : v4 = rk ((oN (k - 1) + M) % n) := congrArg Prod.snd h9
          have b0 := hb.2 (k - 1) (by omega)
          have b1 := hrk _ b0.1
          have b2 := hrk ((oN (k - 1) + M) % n) (Nat.mod_lt _ (by omega))
          omega
      refine ax_iload d_Tu_numberRanks_10 rfl ?_
      refine ax_aload_n d_Tu_numberRanks_12 rfl ?_
      refine ax_get d_Tu_numberRanks_13 fg_Tu_36 (by first | assumption | exact hH.g 0 rfl | exact hH.g 1 rfl | exact hH.g 2 rfl | exact hH.g 3 rfl | exact hH.g 4 rfl | exact hH.g 5 rfl) (by rfl) ?_
      refine az_icmp_ge 90 d_Tu_numberRanks_16 (by decide) (by omega) (by omega) (fun hc => ?_) (fun hc => ?_)
      · exfalso
        omega
      · refine ax_aload_n d_Tu_numberRanks_19 rfl ?_
        refine ax_get d_Tu_numberRanks_20 fg_Tu_20 (by first | assumption | exact hH.g 0 rfl | exact hH.g 1 rfl | exact hH.g 2 rfl | exact hH.g 3 rfl | exact hH.g 4 rfl | exact hH.g 5 rfl) (by rfl) ?_
        refine ax_iload d_Tu_numberRanks_23 rfl ?_
        refine az_iald d_Tu_numberRanks_25 (by first | assumption | exact hH.g 0 rfl | exact hH.g 1 rfl | exact hH.g 2 rfl | exact hH.g 3 rfl | exact hH.g 4 rfl | exact hH.g 5 rfl) (by omega) (by omega) (by omega) ?_
        rw [Int.toNat_natCast, hok]
        refine ax_istore d_Tu_numberRanks_26 (by decide) rfl ?_
        refine ax_aload_n d_Tu_numberRanks_28 rfl ?_
        refine ax_get d_Tu_numberRanks_29 fg_Tu_27 (by first | assumption | exact hH.g 0 rfl | exact hH.g 1 rfl | exact hH.g 2 rfl | exact hH.g 3 rfl | exact hH.g 4 rfl | exact hH.g 5 rfl) (by rfl) ?_
        refine ax_aload_n d_Tu_numberRanks_32 rfl ?_
        refine ax_iload d_Tu_numberRanks_33 rfl ?_
        refine ax_iload_n d_Tu_numberRanks_35 rfl ?_
        refine az_iadd d_Tu_numberRanks_36 ?_
        have ea : arz n ((oN k : Int) + M) = (((oN k + M) % n : Nat) : Int) := by
          rw [← arz_add (by omega)]
          rfl
        refine ax_cV1 d_Tu_numberRanks_37 v_Tu_around lk_Tu_73 (by first | assumption | exact hH.g 0 rfl | exact hH.g 1 rfl | exact hH.g 2 rfl | exact hH.g 3 rfl | exact hH.g 4 rfl | exact hH.g 5 rfl) (by decide) (Nat.le_of_ble_eq_true rfl) (cm_i (c_Tu_around hH hn (a := (oN k : Int) + M) (by omega)) (fun z h3 hq => ?_))
        obtain ⟨rfl, rfl⟩ := hq
        rw [ea]
        refine az_iald d_Tu_numberRanks_40 (by first | assumption | exact hH.g 0 rfl | exact hH.g 1 rfl | exact hH.g 2 rfl | exact hH.g 3 rfl | exact hH.g 4 rfl | exact hH.g 5 rfl) (by omega) (by omega) (by omega) ?_
        rw [Int.toNat_natCast]
        refine ax_istore d_Tu_numberRanks_41 (by decide) rfl ?_
        refine ax_aload_n d_Tu_numberRanks_43 rfl ?_
        refine ax_get d_Tu_numberRanks_44 fg_Tu_27 (by first | assumption | exact hH.g 0 rfl | exact hH.g 1 rfl | exact hH.g 2 rfl | exact hH.g 3 rfl | exact hH.g 4 rfl | exact hH.g 5 rfl) (by rfl) ?_
        refine ax_iload d_Tu_numberRanks_47 rfl ?_
        refine az_iald d_Tu_numberRanks_49 (by first | assumption | exact hH.g 0 rfl | exact hH.g 1 rfl | exact hH.g 2 rfl | exact hH.g 3 rfl | exact hH.g 4 rfl | exact hH.g 5 rfl) (by omega) (by omega) (by omega) ?_
        rw [Int.toNat_natCast]
        -- behind the choice
        have rest : ∀ v2' : Int, v2' = chg (fun k => ap n M rk (oN k)) k → ax_W m_Tu_numberRanks 1 64 [some (.ref 7), some (.int (iv M)), some (.int (iv v2')), some (.int (iv v3)), some (.int (iv v4)), some (.int (iv k)), some (.int (iv (oN k))), some (.int (iv (rk ((oN k + M) % n))))] [] h3 (fun r h1 => r = none ∧ (∃ p' rk', Hs h1 (TuL n (if n = 0 then 0 else chg (fun k => ap n M rk (oN k)) (n - 1) + 1) db o p' rk' ln off) ∧ ∀ q : Nat, q < n → rk' q = nrk n M rk pl oN q) ∧ Fr TS h0 h1) := by
          intro v2' hv2
          refine ax_aload_n d_Tu_numberRanks_64 rfl ?_
          refine ax_get d_Tu_numberRanks_65 fg_Tu_27 (by first | assumption | exact hH.g 0 rfl | exact hH.g 1 rfl | exact hH.g 2 rfl | exact hH.g 3 rfl | exact hH.g 4 rfl | exact hH.g 5 rfl) (by rfl) ?_
          refine ax_iload d_Tu_numberRanks_68 rfl ?_
          refine az_iald d_Tu_numberRanks_70 (by first | assumption | exact hH.g 0 rfl | exact hH.g 1 rfl | exact hH.g 2 rfl | exact hH.g 3 rfl | exact hH.g 4 rfl | exact hH.g 5 rfl) (by omega) (by omega) (by omega) ?_
          rw [Int.toNat_natCast]
          refine ax_istore_n d_Tu_numberRanks_71 (by decide) rfl ?_
          refine ax_iload d_Tu_numberRanks_72 rfl ?_
          refine ax_istore d_Tu_numberRanks_74 (by decide) rfl ?_
          refine ax_aload_n d_Tu_numberRanks_76 rfl ?_
          refine ax_get d_Tu_numberRanks_77 fg_Tu_24 (by first | assumption | exact hH.g 0 rfl | exact hH.g 1 rfl | exact hH.g 2 rfl | exact hH.g 3 rfl | exact hH.g 4 rfl | exact hH.g 5 rfl) (by rfl) ?_
          refine ax_iload d_Tu_numberRanks_80 rfl ?_
          refine ax_iload_n d_Tu_numberRanks_82 rfl ?_
          first | refine ah_iast d_Tu_numberRanks_83 hH hF 0 rfl rfl (by omega) (by omega) (by omega) (by omega) (fun h hH hF => ?_) | refine ah_iast d_Tu_numberRanks_83 hH hF 1 rfl rfl (by omega) (by omega) (by omega) (by omega) (fun h hH hF => ?_) | refine ah_iast d_Tu_numberRanks_83 hH hF 2 rfl rfl (by omega) (by omega) (by omega) (by omega) (fun h hH hF => ?_) | refine ah_iast d_Tu_numberRanks_83 hH hF 3 rfl rfl (by omega) (by omega) (by omega) (by omega) (fun h hH hF => ?_) | refine ah_iast d_Tu_numberRanks_83 hH hF 4 rfl rfl (by omega) (by omega) (by omega) (by omega) (fun h hH hF => ?_) | refine ah_iast d_Tu_numberRanks_83 hH hF 5 rfl rfl (by omega) (by omega) (by omega) (by omega) (fun h hH hF => ?_)
          refine az_iinc d_Tu_numberRanks_84 rfl (by decide) rfl ?_
          refine ax_goto 10 d_Tu_numberRanks_87 (by decide) ?_
          rw [Int.toNat_natCast] at hH
          refine ih (k + 1) h (up p (oN k) v2') v2' _ _ (by omega) hH hF (fun j hj => ?_) (fun e => by omega) (fun j hj => ?_) _ _
          · by_cases e : j = k
            · rw [e, up_at, hv2]
            · have bj := hb.2 j (by omega)
              rw [up_ne (fun w => e (by rw [← bj.2, w, hbk.2]))]
              exact hp j (by omega)
          · have : j = k := by omega
            subst this
            exact ⟨hv2, rfl⟩
        have hch : ∀ j : Nat, k = j + 1 → chg (fun k => ap n M rk (oN k)) k = chg (fun k => ap n M rk (oN k)) j + (if ap n M rk (oN k) ≠ ap n M rk (oN j) then 1 else 0) := by
          intro j hj
          subst hj
          rfl
        have change : (rk (oN k) ≠ v3 ∨ rk ((oN k + M) % n) ≠ v4) → v2 + 1 = chg (fun k => ap n M rk (oN k)) k := by
          intro hne
          by_cases e0 : k = 0
          · rw [(hz e0).1, e0]; rfl
          · have h9 := hs (k - 1) (by omega)
            rw [hch (k - 1) (by omega), if_pos, h9.1]
            intro w
            rw [← h9.2] at w
            have a1 : rk (oN k) = v3 := congrArg Prod.fst w
            have a2 : rk ((oN k + M) % n) = v4 := congrArg Prod.snd w
            omega
        refine ax_iload_n d_Tu_numberRanks_50 rfl ?_
        refine az_icmp_ne 61 d_Tu_numberRanks_51 (by decide) (by omega) (by omega) (fun hne => ?_) (fun hne => ?_)
        · refine az_iinc d_Tu_numberRanks_61 rfl (by decide) rfl ?_
          exact rest _ (change (Or.inl hne))
        · refine ax_iload d_Tu_numberRanks_54 rfl ?_
          refine ax_iload d_Tu_numberRanks_56 rfl ?_
          refine az_icmp_eq 64 d_Tu_numberRanks_58 (by decide) (by omega) (by omega) (fun hne2 => ?_) (fun hne2 => ?_)
          · refine rest _ ?_
            by_cases e0 : k = 0
            · have := hz e0; omega
            · have h9 := hs (k - 1) (by omega)
              rw [hch (k - 1) (by omega), if_neg, h9.1]
              · omega
              · rw [← h9.2]
                intro w
                apply w
                show (rk (oN k), rk ((oN k + M) % n)) = _
                rw [hne, hne2]
          · refine az_iinc d_Tu_numberRanks_61 rfl (by decide) rfl ?_
            exact rest _ (change (Or.inr hne2))
  exact key n 0 h0 p (-1) (-1) (-1) (by omega) hH Fr.rf (fun j hj => by omega) (fun _ => ⟨rfl, rfl, rfl⟩) (fun j hj => by omega) none none
abbrev TSa : List Nat := [7, 8, 9, 10, 11, 12, 13, 14]
set_option maxRecDepth 100000 in
set_option maxHeartbeats 4000000 in
theorem c_Tu_notePlaces {h0 : ax_H} {n r ra cap : Nat} {xs ls : List Int} {rc db : Int} {o p rk ln off : Nat → Int} {pl oN : Nat → Nat} (hH : Hs h0 (TuL n rc db o p rk ln off)) (hn : n ≤ 900) (hb : back2 n pl oN) (ho : ∀ k : Nat, k < n → o k = oN k) (hR : Rw h0 r ra cap xs) (hxn : xs.length = n) (hLs : Rw h0 8 9 900 ls) (hd1 : TSa.contains r = false) (hd2 : TSa.contains ra = false) :
    ax_Cv m_Tu_notePlaces 1 [.ref 7, .ref r] h0 (fun h1 => (∃ p', Hs h1 (TuL n rc db o p' rk ln off) ∧ ∀ q : Nat, q < n → p' q = pl q) ∧ Rw h1 8 9 900 (mk n (fun k => gx xs ((oN k + (n - 1)) % n))) ∧ Fr TSa h0 h1) := by
  have hsl := hLs.sz
  refine ax_enter [some (.ref 7), some (.ref r), none, none] rfl (Nat.le_of_ble_eq_true rfl) (by decide) ?_
  refine ax_aload_n d_Tu_notePlaces_0 rfl ?_
  refine ax_get d_Tu_notePlaces_1 fg_Tu_14 (by first | assumption | exact hH.g 0 rfl | exact hH.g 1 rfl | exact hH.g 2 rfl | exact hH.g 3 rfl | exact hH.g 4 rfl | exact hH.g 5 rfl) (by rfl) ?_
  refine az_iconst d_Tu_notePlaces_4 ?_
  refine ax_cV1 d_Tu_notePlaces_5 v_Rw_shorten lk_Tu_82 (by first | assumption | exact hH.g 0 rfl | exact hH.g 1 rfl | exact hH.g 2 rfl | exact hH.g 3 rfl | exact hH.g 4 rfl | exact hH.g 5 rfl) (by decide) (Nat.le_of_ble_eq_true rfl) (cm_v (c_Rw_shorten hLs (n := 0) (by omega)) (fun h1 hp1 => ?_))
  obtain ⟨hL1, hF1⟩ := hp1
  have hH1 := hH.fr hF1 rfl
  refine az_iconst d_Tu_notePlaces_8 ?_
  refine ax_istore_n d_Tu_notePlaces_9 (by decide) rfl ?_
  have key : ∀ (f k : Nat) (h : ax_H) (p : Nat → Int) (ys : List Int), k + f = n → Hs h (TuL n rc db o p rk ln off) → Rw h 8 9 900 ys → ys.length = k → (∀ j : Nat, j < k → ys.getD j 0 = gx xs ((oN j + (n - 1)) % n)) → Fr TSa h0 h → (∀ j : Nat, j < k → p (oN j) = j) → ∀ w3 : Option Value,
      ax_W m_Tu_notePlaces 1 10 [some (.ref 7), some (.ref r), some (.int (iv k)), w3] [] h (fun r h1 => r = none ∧ (∃ p', Hs h1 (TuL n rc db o p' rk ln off) ∧ ∀ q : Nat, q < n → p' q = pl q) ∧ Rw h1 8 9 900 (mk n (fun k => gx xs ((oN k + (n - 1)) % n))) ∧ Fr TSa h0 h1) := by
    intro f
    induction f with
    | zero =>
      intro k h p ys he hH hL hl hy hF hp w3
      refine ax_iload_n d_Tu_notePlaces_10 rfl ?_
      refine ax_aload_n d_Tu_notePlaces_11 rfl ?_
      refine ax_get d_Tu_notePlaces_12 fg_Tu_36 (by first | assumption | exact hH.g 0 rfl | exact hH.g 1 rfl | exact hH.g 2 rfl | exact hH.g 3 rfl | exact hH.g 4 rfl | exact hH.g 5 rfl) (by rfl) ?_
      refine az_icmp_ge 65 d_Tu_notePlaces_15 (by decide) (by omega) (by omega) (fun hc => ?_) (fun hc => ?_)
      · refine ax_vret d_Tu_notePlaces_65 rfl ?_
        refine ⟨rfl, ⟨p, hH, fun q hq => ?_⟩, ?_, hF⟩
        · have h1 := hb.1 q hq
          have := hp (pl q) (by omega)
          rw [h1.2] at this
          exact this
        · have e : ys = mk n (fun k => gx xs ((oN k + (n - 1)) % n)) := ext_getD (by rw [mk_len]; omega) (fun i hi => by rw [mk_at (by omega)]; exact hy i (by omega))
          rw [← e]
          exact hL
      · exfalso
        omega
    | succ f ih =>
      intro k h p ys he hH hL hl hy hF hp w3
      have hbk := hb.2 k (by omega)
      have hok := ho k (by omega)
      have hF' : Fr TS h h := Fr.rf
      refine ax_iload_n d_Tu_notePlaces_10 rfl ?_
      refine ax_aload_n d_Tu_notePlaces_11 rfl ?_
      refine ax_get d_Tu_notePlaces_12 fg_Tu_36 (by first | assumption | exact hH.g 0 rfl | exact hH.g 1 rfl | exact hH.g 2 rfl | exact hH.g 3 rfl | exact hH.g 4 rfl | exact hH.g 5 rfl) (by rfl) ?_
      refine az_icmp_ge 65 d_Tu_notePlaces_15 (by decide) (by omega) (by omega) (fun hc => ?_) (fun hc => ?_)
      · exfalso
        omega
      · refine ax_aload_n d_Tu_notePlaces_18 rfl ?_
        refine ax_get d_Tu_notePlaces_19 fg_Tu_20 (by first | assumption | exact hH.g 0 rfl | exact hH.g 1 rfl | exact hH.g 2 rfl | exact hH.g 3 rfl | exact hH.g 4 rfl | exact hH.g 5 rfl) (by rfl) ?_
        refine ax_iload_n d_Tu_notePlaces_22 rfl ?_
        refine az_iald d_Tu_notePlaces_23 (by first | assumption | exact hH.g 0 rfl | exact hH.g 1 rfl | exact hH.g 2 rfl | exact hH.g 3 rfl | exact hH.g 4 rfl | exact hH.g 5 rfl) (by omega) (by omega) (by omega) ?_
        rw [Int.toNat_natCast, hok]
        refine ax_istore_n d_Tu_notePlaces_24 (by decide) rfl ?_
        refine ax_aload_n d_Tu_notePlaces_25 rfl ?_
        refine ax_get d_Tu_notePlaces_26 fg_Tu_24 (by first | assumption | exact hH.g 0 rfl | exact hH.g 1 rfl | exact hH.g 2 rfl | exact hH.g 3 rfl | exact hH.g 4 rfl | exact hH.g 5 rfl) (by rfl) ?_
        refine ax_iload_n d_Tu_notePlaces_29 rfl ?_
        refine ax_iload_n d_Tu_notePlaces_30 rfl ?_
        refine ah_iast d_Tu_notePlaces_31 hH hF' 2 rfl rfl (by decide) (by omega) (by omega) (by omega) (fun h2 hH hF2 => ?_)
        rw [Int.toNat_natCast] at hH
        have hL2 := hL.fr hF2 rfl rfl
        have hsl2 := hL2.sz
        have hFx : Fr TSa h0 h2 := hF.tr (hF2.wide rfl)
        have hR2 := hR.fr hFx hd1 hd2
        have hsr := hR2.sz
        -- behind the choice of the place
        have rest : ∀ a : Int, a = (((oN k + (n - 1)) % n : Nat) : Int) → ax_W m_Tu_notePlaces 1 53 [some (.ref 7), some (.ref r), some (.int (iv k)), some (.int (iv (oN k)))] [.int (iv a), .ref r, .ref 8] h2 (fun r h1 => r = none ∧ (∃ p', Hs h1 (TuL n rc db o p' rk ln off) ∧ ∀ q : Nat, q < n → p' q = pl q) ∧ Rw h1 8 9 900 (mk n (fun k => gx xs ((oN k + (n - 1)) % n))) ∧ Fr TSa h0 h1) := by
          intro a ha
          have hml := Nat.mod_lt (oN k + (n - 1)) (show 0 < n by omega)
          have e1 : rAt xs a = gx xs ((oN k + (n - 1)) % n) := by
            rw [rAt, if_pos (by omega), ha, Int.toNat_natCast]
          refine ax_cV1 d_Tu_notePlaces_53 v_Rw_at lk_Tu_47 (by first | assumption | exact hH.g 0 rfl | exact hH.g 1 rfl | exact hH.g 2 rfl | exact hH.g 3 rfl | exact hH.g 4 rfl | exact hH.g 5 rfl) (by decide) (Nat.le_of_ble_eq_true rfl) (cm_i (c_Rw_at hR2 (i := a) (by omega)) (fun z h3 hq => ?_))
          obtain ⟨rfl, rfl⟩ := hq
          refine ax_cV1 d_Tu_notePlaces_56 v_Rw_add lk_Tu_85 (by first | assumption | exact hH.g 0 rfl | exact hH.g 1 rfl | exact hH.g 2 rfl | exact hH.g 3 rfl | exact hH.g 4 rfl | exact hH.g 5 rfl) (by decide) (Nat.le_of_ble_eq_true rfl) (cm_v (c_Rw_add hL2 _) (fun h4 hq => ?_))
          obtain ⟨hL4, hF4⟩ := hq
          refine az_iinc d_Tu_notePlaces_59 rfl (by decide) rfl ?_
          refine ax_goto 10 d_Tu_notePlaces_62 (by decide) ?_
          rw [radd, if_pos (by omega), e1] at hL4
          refine ih (k + 1) h4 (up p (oN k) k) _ (by omega) (hH.fr hF4 rfl) hL4 (by simp; omega) (fun j hj => ?_) (hFx.tr (hF4.wide rfl)) (fun j hj => ?_) _
          · rw [getD_snoc]
            by_cases e : j = k
            · rw [if_pos (by omega), e]
            · rw [if_neg (by omega)]; exact hy j (by omega)
          · by_cases e : j = k
            · rw [e, up_at]
            · have bj := hb.2 j (by omega)
              rw [up_ne (fun w => e (by rw [← bj.2, w, hbk.2]))]
              exact hp j (by omega)
        refine ax_aload_n d_Tu_notePlaces_32 rfl ?_
        refine ax_get d_Tu_notePlaces_33 fg_Tu_14 (by first | assumption | exact hH.g 0 rfl | exact hH.g 1 rfl | exact hH.g 2 rfl | exact hH.g 3 rfl | exact hH.g 4 rfl | exact hH.g 5 rfl) (by rfl) ?_
        refine ax_aload_n d_Tu_notePlaces_36 rfl ?_
        refine ax_iload_n d_Tu_notePlaces_37 rfl ?_
        refine az_if_ne 50 d_Tu_notePlaces_38 (by decide) (by first | exact bz_in _ | omega) (fun hc => ?_) (fun hc => ?_)
        · refine ax_iload_n d_Tu_notePlaces_50 rfl ?_
          refine az_iconst d_Tu_notePlaces_51 ?_
          refine az_isub d_Tu_notePlaces_52 ?_
          refine rest _ ?_
          rw [show oN k + (n - 1) = (oN k - 1) + n by omega, Nat.add_mod_right, Nat.mod_eq_of_lt (by omega)]
          omega
        · refine ax_aload_n d_Tu_notePlaces_41 rfl ?_
          refine ax_get d_Tu_notePlaces_42 fg_Tu_36 (by first | assumption | exact hH.g 0 rfl | exact hH.g 1 rfl | exact hH.g 2 rfl | exact hH.g 3 rfl | exact hH.g 4 rfl | exact hH.g 5 rfl) (by rfl) ?_
          refine az_iconst d_Tu_notePlaces_45 ?_
          refine az_isub d_Tu_notePlaces_46 ?_
          refine ax_goto 53 d_Tu_notePlaces_47 (by decide) ?_
          refine rest _ ?_
          rw [show oN k = 0 by omega, Nat.zero_add, Nat.mod_eq_of_lt (by omega)]
          omega
  exact key n 0 h1 p [] (by omega) hH1 hL1 rfl (fun j hj => by omega) (hF1.wide rfl) (fun j hj => by omega) none
