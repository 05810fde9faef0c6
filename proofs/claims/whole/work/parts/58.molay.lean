/-! the reference: lay, and what it answers of the turns -/
theorem ord_zero {xs : List Int} (hn : 0 < xs.length) {k : Nat} (hk : k < xs.length) : ordT xs k = 0 ↔ k = plT xs 0 := by
  constructor
  · intro h
    have := (ordT_ok hk).2
    rw [h] at this
    exact this.symm
  · intro h
    rw [h]
    exact ordT_pl hn
set_option maxRecDepth 100000 in
set_option maxHeartbeats 4000000 in
theorem c_Mo_originOf {h0 : ax_H} {iz : Nat → Int} {ar : Nat → Nat → Int} {xs : List Int} (hH : MoH h0 iz ar) (e2 : iz 2 = xs.length) (hn : xs.length ≤ 900) (ho : ∀ k : Nat, k < xs.length → ar 4 k = ordT xs k) : ax_Ci m_Mo_originOf 0 [.ref 47] h0 (fun z h1 => h1 = h0 ∧ z = if xs.length = 0 then -2 else (plT xs 0 : Int)) := by
  refine ax_enter [some (.ref 47), none] rfl (Nat.le_of_ble_eq_true rfl) (by decide) ?_
  refine az_iconst d_Mo_originOf_0 ?_
  refine ax_istore_n d_Mo_originOf_1 (by decide) rfl ?_
  have key : ∀ (f k : Nat), k + f = xs.length → (∀ j : Nat, j < k → ordT xs j ≠ 0) →
      ax_W m_Mo_originOf 0 2 [some (.ref 47), some (.int (iv k))] [] h0 (fun r0 h1 => ∃ z : Int, r0 = some (.int (iv z)) ∧ h1 = h0 ∧ z = if xs.length = 0 then -2 else (plT xs 0 : Int)) := by
    intro f
    induction f with
    | zero =>
      intro k he hj
      refine ax_iload_n d_Mo_originOf_2 rfl ?_
      refine ax_aload_n d_Mo_originOf_3 rfl ?_
      refine ax_get d_Mo_originOf_4 fg_Mo_87 (by first | assumption | exact hH.g 0 rfl | exact hH.g 1 rfl | exact hH.g 2 rfl | exact hH.g 3 rfl | exact hH.g 4 rfl | exact hH.g 5 rfl | exact hH.g 6 rfl | exact hH.g 7 rfl | exact hH.g 8 rfl | exact hH.g 9 rfl | exact hH.g 10 rfl | exact hH.g 11 rfl | exact hH.g 12 rfl | exact hH.g 13 rfl | exact hH.g 14 rfl | exact hH.g 15 rfl | exact hH.g 16 rfl | exact hH.g 17 rfl | exact hH.g 18 rfl) (by rfl) ?_
      refine az_icmp_ge 27 d_Mo_originOf_7 (by decide) (by omega) (by omega) (fun hc => ?_) (fun hc => ?_)
      · refine az_bipush _ d_Mo_originOf_27 (by decide) ?_
        refine ax_iret d_Mo_originOf_29 rfl ?_
        refine ⟨_, rfl, rfl, ?_⟩
        by_cases h : xs.length = 0
        · rw [if_pos h]
        · exfalso
          have h1 : plT xs 0 < xs.length := plc_lt_n (ltT_ok xs) (by omega)
          exact hj _ (by omega) (ordT_pl (by omega))
      · exfalso
        omega
    | succ f ih =>
      intro k he hj
      have hk := ho k (by omega)
      have hl := (ordT_ok (xs := xs) (k := k) (by omega)).1
      have hk' : ar 4 ((k : Int).toNat) = ordT xs k := hk
      refine ax_iload_n d_Mo_originOf_2 rfl ?_
      refine ax_aload_n d_Mo_originOf_3 rfl ?_
      refine ax_get d_Mo_originOf_4 fg_Mo_87 (by first | assumption | exact hH.g 0 rfl | exact hH.g 1 rfl | exact hH.g 2 rfl | exact hH.g 3 rfl | exact hH.g 4 rfl | exact hH.g 5 rfl | exact hH.g 6 rfl | exact hH.g 7 rfl | exact hH.g 8 rfl | exact hH.g 9 rfl | exact hH.g 10 rfl | exact hH.g 11 rfl | exact hH.g 12 rfl | exact hH.g 13 rfl | exact hH.g 14 rfl | exact hH.g 15 rfl | exact hH.g 16 rfl | exact hH.g 17 rfl | exact hH.g 18 rfl) (by rfl) ?_
      refine az_icmp_ge 27 d_Mo_originOf_7 (by decide) (by omega) (by omega) (fun hc => ?_) (fun hc => ?_)
      · exfalso
        omega
      · refine ax_aload_n d_Mo_originOf_10 rfl ?_
        refine ax_get d_Mo_originOf_11 fg_Mo_16 (by first | assumption | exact hH.g 0 rfl | exact hH.g 1 rfl | exact hH.g 2 rfl | exact hH.g 3 rfl | exact hH.g 4 rfl | exact hH.g 5 rfl | exact hH.g 6 rfl | exact hH.g 7 rfl | exact hH.g 8 rfl | exact hH.g 9 rfl | exact hH.g 10 rfl | exact hH.g 11 rfl | exact hH.g 12 rfl | exact hH.g 13 rfl | exact hH.g 14 rfl | exact hH.g 15 rfl | exact hH.g 16 rfl | exact hH.g 17 rfl | exact hH.g 18 rfl) (by rfl) ?_
        refine ax_iload_n d_Mo_originOf_14 rfl ?_
        refine az_iald d_Mo_originOf_15 (by first | assumption | exact hH.g 0 rfl | exact hH.g 1 rfl | exact hH.g 2 rfl | exact hH.g 3 rfl | exact hH.g 4 rfl | exact hH.g 5 rfl | exact hH.g 6 rfl | exact hH.g 7 rfl | exact hH.g 8 rfl | exact hH.g 9 rfl | exact hH.g 10 rfl | exact hH.g 11 rfl | exact hH.g 12 rfl | exact hH.g 13 rfl | exact hH.g 14 rfl | exact hH.g 15 rfl | exact hH.g 16 rfl | exact hH.g 17 rfl | exact hH.g 18 rfl) (by omega) (by omega) (by omega) ?_
        rw [hk']
        refine az_if_ne 21 d_Mo_originOf_16 (by decide) (by first | exact bz_in _ | omega) (fun hz => ?_) (fun hz => ?_)
        · refine az_iinc d_Mo_originOf_21 rfl (by decide) rfl ?_
          refine ax_goto 2 d_Mo_originOf_24 (by decide) ?_
          refine ih (k + 1) (by omega) (fun j hj2 => ?_)
          by_cases e : j = k
          · subst e; omega
          · exact hj j (by omega)
        · refine ax_iload_n d_Mo_originOf_19 rfl ?_
          refine ax_iret d_Mo_originOf_20 rfl ?_
          refine ⟨_, rfl, rfl, ?_⟩
          rw [if_neg (by omega), (ord_zero (by omega) (by omega)).mp (show ordT xs k = 0 by omega)]
  exact key xs.length 0 (by omega) (fun j hj => by omega)
set_option maxRecDepth 100000 in
set_option maxHeartbeats 8000000 in
theorem c_Mo_lay {h0 : ax_H} {xs T out : List Int} {fp : Int} (hM : MoI h0 xs T out fp) : ax_Cv m_Mo_lay 3 [.ref 47] h0 (fun h1 => (∃ iz ar, MoH h1 iz ar ∧ MoQ iz ar xs T out fp ∧ Laid iz ar xs) ∧ Fr MOS h0 h1) := by
  obtain ⟨iz, ar, hH, hQ⟩ := hM
  obtain ⟨q0, q1, q2, q3, q6, qr⟩ := id hQ
  have hF : Fr MOS h0 h0 := Fr.rf
  refine ax_enter [some (.ref 47), none, none, none] rfl (Nat.le_of_ble_eq_true rfl) (by decide) ?_
  refine ax_aload_n d_Mo_lay_0 rfl ?_
  refine ax_get d_Mo_lay_1 fg_Mo_81 (by first | assumption | exact hH.g 0 rfl | exact hH.g 1 rfl | exact hH.g 2 rfl | exact hH.g 3 rfl | exact hH.g 4 rfl | exact hH.g 5 rfl | exact hH.g 6 rfl | exact hH.g 7 rfl | exact hH.g 8 rfl | exact hH.g 9 rfl | exact hH.g 10 rfl | exact hH.g 11 rfl | exact hH.g 12 rfl | exact hH.g 13 rfl | exact hH.g 14 rfl | exact hH.g 15 rfl | exact hH.g 16 rfl | exact hH.g 17 rfl | exact hH.g 18 rfl) (by rfl) ?_
  refine az_if_eq 8 d_Mo_lay_4 (by decide) (by omega) (fun hz => ?_) (fun hz => ?_)
  · refine ax_aload_n d_Mo_lay_8 rfl ?_
    refine ax_cV0 d_Mo_lay_9 v_Mo_takeBlock lk_Mo_101 (by first | assumption | exact hH.g 0 rfl | exact hH.g 1 rfl | exact hH.g 2 rfl | exact hH.g 3 rfl | exact hH.g 4 rfl | exact hH.g 5 rfl | exact hH.g 6 rfl | exact hH.g 7 rfl | exact hH.g 8 rfl | exact hH.g 9 rfl | exact hH.g 10 rfl | exact hH.g 11 rfl | exact hH.g 12 rfl | exact hH.g 13 rfl | exact hH.g 14 rfl | exact hH.g 15 rfl | exact hH.g 16 rfl | exact hH.g 17 rfl | exact hH.g 18 rfl) (by decide) (Nat.le_of_ble_eq_true rfl) (cm_v (c_Mo_takeBlock hH q0 q1 q2) (fun h1 hq => ?_))
    obtain ⟨⟨iz1, ar1, hH1, ki1, ka1, e2, hl1⟩, hF1⟩ := hq
    have hH := hH1
    have hR1 : RwS iz1 ar1 xs := ⟨e2, by omega, hl1, q3⟩
    refine ax_aload_n d_Mo_lay_12 rfl ?_
    refine ax_cV0 d_Mo_lay_13 v_Mo_putInOrder lk_Mo_104 (by first | assumption | exact hH.g 0 rfl | exact hH.g 1 rfl | exact hH.g 2 rfl | exact hH.g 3 rfl | exact hH.g 4 rfl | exact hH.g 5 rfl | exact hH.g 6 rfl | exact hH.g 7 rfl | exact hH.g 8 rfl | exact hH.g 9 rfl | exact hH.g 10 rfl | exact hH.g 11 rfl | exact hH.g 12 rfl | exact hH.g 13 rfl | exact hH.g 14 rfl | exact hH.g 15 rfl | exact hH.g 16 rfl | exact hH.g 17 rfl | exact hH.g 18 rfl) (by decide) (Nat.le_of_ble_eq_true rfl) (cm_v (c_Mo_putInOrder hH hR1) (fun h2 hq => ?_))
    obtain ⟨⟨ar2, hH2, ka2, ho2⟩, hF2⟩ := hq
    have hH := hH2
    have hR2 : RwS iz1 ar2 xs := hR1.fr (KI.rf (K := [])) ka2 rfl rfl
    refine ax_aload_n d_Mo_lay_16 rfl ?_
    refine ax_aload_n d_Mo_lay_17 rfl ?_
    refine ax_cV0 d_Mo_lay_18 v_Mo_originOf lk_Mo_107 (by first | assumption | exact hH.g 0 rfl | exact hH.g 1 rfl | exact hH.g 2 rfl | exact hH.g 3 rfl | exact hH.g 4 rfl | exact hH.g 5 rfl | exact hH.g 6 rfl | exact hH.g 7 rfl | exact hH.g 8 rfl | exact hH.g 9 rfl | exact hH.g 10 rfl | exact hH.g 11 rfl | exact hH.g 12 rfl | exact hH.g 13 rfl | exact hH.g 14 rfl | exact hH.g 15 rfl | exact hH.g 16 rfl | exact hH.g 17 rfl | exact hH.g 18 rfl) (by decide) (Nat.le_of_ble_eq_true rfl) (cm_i (c_Mo_originOf hH e2 (by omega) ho2) (fun z h3 hq => ?_))
    obtain ⟨rfl, rfl⟩ := hq
    have hF : Fr MOS h3 h3 := Fr.rf
    first | refine ah_put d_Mo_lay_21 fp_Mo_111 hH hF 0 rfl rfl rfl (by first | rfl | decide) (Nat.le_of_ble_eq_true rfl) (fun h hH hF => ?_) | refine ah_put d_Mo_lay_21 fp_Mo_111 hH hF 1 rfl rfl rfl (by first | rfl | decide) (Nat.le_of_ble_eq_true rfl) (fun h hH hF => ?_) | refine ah_put d_Mo_lay_21 fp_Mo_111 hH hF 2 rfl rfl rfl (by first | rfl | decide) (Nat.le_of_ble_eq_true rfl) (fun h hH hF => ?_) | refine ah_put d_Mo_lay_21 fp_Mo_111 hH hF 3 rfl rfl rfl (by first | rfl | decide) (Nat.le_of_ble_eq_true rfl) (fun h hH hF => ?_) | refine ah_put d_Mo_lay_21 fp_Mo_111 hH hF 4 rfl rfl rfl (by first | rfl | decide) (Nat.le_of_ble_eq_true rfl) (fun h hH hF => ?_) | refine ah_put d_Mo_lay_21 fp_Mo_111 hH hF 5 rfl rfl rfl (by first | rfl | decide) (Nat.le_of_ble_eq_true rfl) (fun h hH hF => ?_) | refine ah_put d_Mo_lay_21 fp_Mo_111 hH hF 6 rfl rfl rfl (by first | rfl | decide) (Nat.le_of_ble_eq_true rfl) (fun h hH hF => ?_) | refine ah_put d_Mo_lay_21 fp_Mo_111 hH hF 7 rfl rfl rfl (by first | rfl | decide) (Nat.le_of_ble_eq_true rfl) (fun h hH hF => ?_) | refine ah_put d_Mo_lay_21 fp_Mo_111 hH hF 8 rfl rfl rfl (by first | rfl | decide) (Nat.le_of_ble_eq_true rfl) (fun h hH hF => ?_) | refine ah_put d_Mo_lay_21 fp_Mo_111 hH hF 9 rfl rfl rfl (by first | rfl | decide) (Nat.le_of_ble_eq_true rfl) (fun h hH hF => ?_) | refine ah_put d_Mo_lay_21 fp_Mo_111 hH hF 10 rfl rfl rfl (by first | rfl | decide) (Nat.le_of_ble_eq_true rfl) (fun h hH hF => ?_) | refine ah_put d_Mo_lay_21 fp_Mo_111 hH hF 11 rfl rfl rfl (by first | rfl | decide) (Nat.le_of_ble_eq_true rfl) (fun h hH hF => ?_) | refine ah_put d_Mo_lay_21 fp_Mo_111 hH hF 12 rfl rfl rfl (by first | rfl | decide) (Nat.le_of_ble_eq_true rfl) (fun h hH hF => ?_) | refine ah_put d_Mo_lay_21 fp_Mo_111 hH hF 13 rfl rfl rfl (by first | rfl | decide) (Nat.le_of_ble_eq_true rfl) (fun h hH hF => ?_) | refine ah_put d_Mo_lay_21 fp_Mo_111 hH hF 14 rfl rfl rfl (by first | rfl | decide) (Nat.le_of_ble_eq_true rfl) (fun h hH hF => ?_) | refine ah_put d_Mo_lay_21 fp_Mo_111 hH hF 15 rfl rfl rfl (by first | rfl | decide) (Nat.le_of_ble_eq_true rfl) (fun h hH hF => ?_) | refine ah_put d_Mo_lay_21 fp_Mo_111 hH hF 16 rfl rfl rfl (by first | rfl | decide) (Nat.le_of_ble_eq_true rfl) (fun h hH hF => ?_) | refine ah_put d_Mo_lay_21 fp_Mo_111 hH hF 17 rfl rfl rfl (by first | rfl | decide) (Nat.le_of_ble_eq_true rfl) (fun h hH hF => ?_) | refine ah_put d_Mo_lay_21 fp_Mo_111 hH hF 18 rfl rfl rfl (by first | rfl | decide) (Nat.le_of_ble_eq_true rfl) (fun h hH hF => ?_)
    refine az_iconst d_Mo_lay_24 ?_
    refine ax_istore_n d_Mo_lay_25 (by decide) rfl ?_
    refine az_iconst d_Mo_lay_26 ?_
    refine ax_istore_n d_Mo_lay_27 (by decide) rfl ?_
    have hka : KA [3, 4, 5] ar ar2 := (ka1.wide rfl).tr (ka2.wide rfl)
    -- the rounds, once the farthest parting place is known
    have rnd : ∀ (m : Nat), m ≤ 900 → (xs.length ≠ 0 → isMst xs xs.length m) → ∀ (f r : Nat) (iz3 : Nat → Int) (ar3 : Nat → Nat → Int) (h : ax_H), r + f = 10 → MoH h iz3 ar3 → Fr MOS h3 h → KI [2, 8, 9] iz iz3 → KA [3, 4, 5, 7] ar ar3 → iz3 9 = r → (∀ s : Nat, s < r → 2 ^ s < m) → (∀ k : Nat, k < xs.length → ar3 7 k = ordT xs k) → (xs.length ≠ 0 → iz3 8 = plT xs 0) → ∀ v2 v3 : Option Value,
        ax_W m_Mo_lay 3 108 [some (.ref 47), some (.int (iv m)), v2, v3] [] h (fun r0 h1 => r0 = none ∧ (∃ iz ar, MoH h1 iz ar ∧ MoQ iz ar xs T out fp ∧ Laid iz ar xs) ∧ Fr MOS h0 h1) := by
      intro m hm9 hmst f
      induction f with
      | zero =>
        intro r iz3 ar3 h hr hH hF ki ka e9 hs h7 h8 v2 v3
        have hr10 : r = 10 := by omega
        subst hr10
        have := hs 9 (by omega)
        have e10 : (2 : Nat) ^ 9 = 512 := by decide
        have hz10 : zshl 1 (iz3 9) = 1024 := by rw [e9]; decide
        refine az_iconst d_Mo_lay_108 ?_
        refine ax_aload_n d_Mo_lay_109 rfl ?_
        refine ax_get d_Mo_lay_110 fg_Mo_114 (by first | assumption | exact hH.g 0 rfl | exact hH.g 1 rfl | exact hH.g 2 rfl | exact hH.g 3 rfl | exact hH.g 4 rfl | exact hH.g 5 rfl | exact hH.g 6 rfl | exact hH.g 7 rfl | exact hH.g 8 rfl | exact hH.g 9 rfl | exact hH.g 10 rfl | exact hH.g 11 rfl | exact hH.g 12 rfl | exact hH.g 13 rfl | exact hH.g 14 rfl | exact hH.g 15 rfl | exact hH.g 16 rfl | exact hH.g 17 rfl | exact hH.g 18 rfl) (by rfl) ?_
        refine az_ishl d_Mo_lay_113 ?_
        rw [hz10]
        refine ax_iload_n d_Mo_lay_114 rfl ?_
        refine az_icmp_ge 131 d_Mo_lay_115 (by decide) (by omega) (by omega) (fun hc => ?_) (fun hc => ?_)
        · refine ax_aload_n d_Mo_lay_131 rfl ?_
          refine az_iconst d_Mo_lay_132 ?_
          first | refine ah_put d_Mo_lay_133 fp_Mo_81 hH hF 0 rfl rfl rfl (by first | rfl | decide) (Nat.le_of_ble_eq_true rfl) (fun h hH hF => ?_) | refine ah_put d_Mo_lay_133 fp_Mo_81 hH hF 1 rfl rfl rfl (by first | rfl | decide) (Nat.le_of_ble_eq_true rfl) (fun h hH hF => ?_) | refine ah_put d_Mo_lay_133 fp_Mo_81 hH hF 2 rfl rfl rfl (by first | rfl | decide) (Nat.le_of_ble_eq_true rfl) (fun h hH hF => ?_) | refine ah_put d_Mo_lay_133 fp_Mo_81 hH hF 3 rfl rfl rfl (by first | rfl | decide) (Nat.le_of_ble_eq_true rfl) (fun h hH hF => ?_) | refine ah_put d_Mo_lay_133 fp_Mo_81 hH hF 4 rfl rfl rfl (by first | rfl | decide) (Nat.le_of_ble_eq_true rfl) (fun h hH hF => ?_) | refine ah_put d_Mo_lay_133 fp_Mo_81 hH hF 5 rfl rfl rfl (by first | rfl | decide) (Nat.le_of_ble_eq_true rfl) (fun h hH hF => ?_) | refine ah_put d_Mo_lay_133 fp_Mo_81 hH hF 6 rfl rfl rfl (by first | rfl | decide) (Nat.le_of_ble_eq_true rfl) (fun h hH hF => ?_) | refine ah_put d_Mo_lay_133 fp_Mo_81 hH hF 7 rfl rfl rfl (by first | rfl | decide) (Nat.le_of_ble_eq_true rfl) (fun h hH hF => ?_) | refine ah_put d_Mo_lay_133 fp_Mo_81 hH hF 8 rfl rfl rfl (by first | rfl | decide) (Nat.le_of_ble_eq_true rfl) (fun h hH hF => ?_) | refine ah_put d_Mo_lay_133 fp_Mo_81 hH hF 9 rfl rfl rfl (by first | rfl | decide) (Nat.le_of_ble_eq_true rfl) (fun h hH hF => ?_) | refine ah_put d_Mo_lay_133 fp_Mo_81 hH hF 10 rfl rfl rfl (by first | rfl | decide) (Nat.le_of_ble_eq_true rfl) (fun h hH hF => ?_) | refine ah_put d_Mo_lay_133 fp_Mo_81 hH hF 11 rfl rfl rfl (by first | rfl | decide) (Nat.le_of_ble_eq_true rfl) (fun h hH hF => ?_) | refine ah_put d_Mo_lay_133 fp_Mo_81 hH hF 12 rfl rfl rfl (by first | rfl | decide) (Nat.le_of_ble_eq_true rfl) (fun h hH hF => ?_) | refine ah_put d_Mo_lay_133 fp_Mo_81 hH hF 13 rfl rfl rfl (by first | rfl | decide) (Nat.le_of_ble_eq_true rfl) (fun h hH hF => ?_) | refine ah_put d_Mo_lay_133 fp_Mo_81 hH hF 14 rfl rfl rfl (by first | rfl | decide) (Nat.le_of_ble_eq_true rfl) (fun h hH hF => ?_) | refine ah_put d_Mo_lay_133 fp_Mo_81 hH hF 15 rfl rfl rfl (by first | rfl | decide) (Nat.le_of_ble_eq_true rfl) (fun h hH hF => ?_) | refine ah_put d_Mo_lay_133 fp_Mo_81 hH hF 16 rfl rfl rfl (by first | rfl | decide) (Nat.le_of_ble_eq_true rfl) (fun h hH hF => ?_) | refine ah_put d_Mo_lay_133 fp_Mo_81 hH hF 17 rfl rfl rfl (by first | rfl | decide) (Nat.le_of_ble_eq_true rfl) (fun h hH hF => ?_) | refine ah_put d_Mo_lay_133 fp_Mo_81 hH hF 18 rfl rfl rfl (by first | rfl | decide) (Nat.le_of_ble_eq_true rfl) (fun h hH hF => ?_)
          refine ax_vret d_Mo_lay_136 rfl ?_
          refine ⟨rfl, ⟨up iz3 6 1, ar3, hH, ?_⟩, (hF1.tr hF2).tr hF⟩
          have hL : Laid (up iz3 6 1) ar3 xs := by
            refine ⟨h7, h8, fun q => ⟨10, e9, ?_⟩⟩
            refine rnd_of (by omega) (hmst q) (by omega) hs
          have e0 := ki 0 rfl
          have e24 := ki 24 rfl
          have e26 := ki 26 rfl
          have e29 := ki 29 rfl
          have a1 := ka 1 rfl
          have a22 := ka 22 rfl
          have a25 := ka 25 rfl
          refine ⟨?_, hL⟩
          refine ⟨e0.trans q0, q1, by show la (ar3 1) xs; rw [a1]; exact q2, q3, Or.inr ⟨rfl, hL⟩, ?_⟩
          show iz3 24 = _ ∧ _ ∧ lb (ar3 22) out ∧ _ ∧ iz3 26 = _ ∧ _ ∧ lb (ar3 25) T ∧ _ ∧ iz3 29 = _
          rw [e24, e26, e29, a22, a25]
          exact qr
        · exfalso
          omega
      | succ f ih =>
        intro r iz3 ar3 h hr hH hF ki ka e9 hs h7 h8 v2 v3
        have hpw : 2 ^ r ≤ 2 ^ 10 := Nat.pow_le_pow_right (by decide) (by omega)
        obtain ⟨P, hP⟩ : ∃ P : Nat, P = 2 ^ r := ⟨_, rfl⟩
        have hP10 : P ≤ 1024 := by rw [hP]; exact hpw
        have hzr : zshl 1 (iz3 9) = (P : Int) := by
          rw [e9, hP]
          have := zshl_pow (v := 1) (k := r) (by omega) (by omega)
          rw [Nat.one_mul] at this
          exact this
        clear hpw
        refine az_iconst d_Mo_lay_108 ?_
        refine ax_aload_n d_Mo_lay_109 rfl ?_
        refine ax_get d_Mo_lay_110 fg_Mo_114 (by first | assumption | exact hH.g 0 rfl | exact hH.g 1 rfl | exact hH.g 2 rfl | exact hH.g 3 rfl | exact hH.g 4 rfl | exact hH.g 5 rfl | exact hH.g 6 rfl | exact hH.g 7 rfl | exact hH.g 8 rfl | exact hH.g 9 rfl | exact hH.g 10 rfl | exact hH.g 11 rfl | exact hH.g 12 rfl | exact hH.g 13 rfl | exact hH.g 14 rfl | exact hH.g 15 rfl | exact hH.g 16 rfl | exact hH.g 17 rfl | exact hH.g 18 rfl) (by rfl) ?_
        refine az_ishl d_Mo_lay_113 ?_
        rw [hzr]
        refine ax_iload_n d_Mo_lay_114 rfl ?_
        refine az_icmp_ge 131 d_Mo_lay_115 (by decide) (by omega) (by omega) (fun hge => ?_) (fun hge => ?_)
        · refine ax_aload_n d_Mo_lay_131 rfl ?_
          refine az_iconst d_Mo_lay_132 ?_
          first | refine ah_put d_Mo_lay_133 fp_Mo_81 hH hF 0 rfl rfl rfl (by first | rfl | decide) (Nat.le_of_ble_eq_true rfl) (fun h hH hF => ?_) | refine ah_put d_Mo_lay_133 fp_Mo_81 hH hF 1 rfl rfl rfl (by first | rfl | decide) (Nat.le_of_ble_eq_true rfl) (fun h hH hF => ?_) | refine ah_put d_Mo_lay_133 fp_Mo_81 hH hF 2 rfl rfl rfl (by first | rfl | decide) (Nat.le_of_ble_eq_true rfl) (fun h hH hF => ?_) | refine ah_put d_Mo_lay_133 fp_Mo_81 hH hF 3 rfl rfl rfl (by first | rfl | decide) (Nat.le_of_ble_eq_true rfl) (fun h hH hF => ?_) | refine ah_put d_Mo_lay_133 fp_Mo_81 hH hF 4 rfl rfl rfl (by first | rfl | decide) (Nat.le_of_ble_eq_true rfl) (fun h hH hF => ?_) | refine ah_put d_Mo_lay_133 fp_Mo_81 hH hF 5 rfl rfl rfl (by first | rfl | decide) (Nat.le_of_ble_eq_true rfl) (fun h hH hF => ?_) | refine ah_put d_Mo_lay_133 fp_Mo_81 hH hF 6 rfl rfl rfl (by first | rfl | decide) (Nat.le_of_ble_eq_true rfl) (fun h hH hF => ?_) | refine ah_put d_Mo_lay_133 fp_Mo_81 hH hF 7 rfl rfl rfl (by first | rfl | decide) (Nat.le_of_ble_eq_true rfl) (fun h hH hF => ?_) | refine ah_put d_Mo_lay_133 fp_Mo_81 hH hF 8 rfl rfl rfl (by first | rfl | decide) (Nat.le_of_ble_eq_true rfl) (fun h hH hF => ?_) | refine ah_put d_Mo_lay_133 fp_Mo_81 hH hF 9 rfl rfl rfl (by first | rfl | decide) (Nat.le_of_ble_eq_true rfl) (fun h hH hF => ?_) | refine ah_put d_Mo_lay_133 fp_Mo_81 hH hF 10 rfl rfl rfl (by first | rfl | decide) (Nat.le_of_ble_eq_true rfl) (fun h hH hF => ?_) | refine ah_put d_Mo_lay_133 fp_Mo_81 hH hF 11 rfl rfl rfl (by first | rfl | decide) (Nat.le_of_ble_eq_true rfl) (fun h hH hF => ?_) | refine ah_put d_Mo_lay_133 fp_Mo_81 hH hF 12 rfl rfl rfl (by first | rfl | decide) (Nat.le_of_ble_eq_true rfl) (fun h hH hF => ?_) | refine ah_put d_Mo_lay_133 fp_Mo_81 hH hF 13 rfl rfl rfl (by first | rfl | decide) (Nat.le_of_ble_eq_true rfl) (fun h hH hF => ?_) | refine ah_put d_Mo_lay_133 fp_Mo_81 hH hF 14 rfl rfl rfl (by first | rfl | decide) (Nat.le_of_ble_eq_true rfl) (fun h hH hF => ?_) | refine ah_put d_Mo_lay_133 fp_Mo_81 hH hF 15 rfl rfl rfl (by first | rfl | decide) (Nat.le_of_ble_eq_true rfl) (fun h hH hF => ?_) | refine ah_put d_Mo_lay_133 fp_Mo_81 hH hF 16 rfl rfl rfl (by first | rfl | decide) (Nat.le_of_ble_eq_true rfl) (fun h hH hF => ?_) | refine ah_put d_Mo_lay_133 fp_Mo_81 hH hF 17 rfl rfl rfl (by first | rfl | decide) (Nat.le_of_ble_eq_true rfl) (fun h hH hF => ?_) | refine ah_put d_Mo_lay_133 fp_Mo_81 hH hF 18 rfl rfl rfl (by first | rfl | decide) (Nat.le_of_ble_eq_true rfl) (fun h hH hF => ?_)
          refine ax_vret d_Mo_lay_136 rfl ?_
          refine ⟨rfl, ⟨up iz3 6 1, ar3, hH, ?_⟩, (hF1.tr hF2).tr hF⟩
          have hL : Laid (up iz3 6 1) ar3 xs := by
            refine ⟨h7, h8, fun q => ⟨r, e9, ?_⟩⟩
            refine rnd_of (by omega) (hmst q) (by rw [← hP]; omega) hs
          have e0 := ki 0 rfl
          have e24 := ki 24 rfl
          have e26 := ki 26 rfl
          have e29 := ki 29 rfl
          have a1 := ka 1 rfl
          have a22 := ka 22 rfl
          have a25 := ka 25 rfl
          refine ⟨?_, hL⟩
          refine ⟨e0.trans q0, q1, by show la (ar3 1) xs; rw [a1]; exact q2, q3, Or.inr ⟨rfl, hL⟩, ?_⟩
          show iz3 24 = _ ∧ _ ∧ lb (ar3 22) out ∧ _ ∧ iz3 26 = _ ∧ _ ∧ lb (ar3 25) T ∧ _ ∧ iz3 29 = _
          rw [e24, e26, e29, a22, a25]
          exact qr
        · refine ax_aload_n d_Mo_lay_118 rfl ?_
          refine ax_dup d_Mo_lay_119 rfl ?_
          refine ax_get d_Mo_lay_120 fg_Mo_114 (by first | assumption | exact hH.g 0 rfl | exact hH.g 1 rfl | exact hH.g 2 rfl | exact hH.g 3 rfl | exact hH.g 4 rfl | exact hH.g 5 rfl | exact hH.g 6 rfl | exact hH.g 7 rfl | exact hH.g 8 rfl | exact hH.g 9 rfl | exact hH.g 10 rfl | exact hH.g 11 rfl | exact hH.g 12 rfl | exact hH.g 13 rfl | exact hH.g 14 rfl | exact hH.g 15 rfl | exact hH.g 16 rfl | exact hH.g 17 rfl | exact hH.g 18 rfl) (by rfl) ?_
          refine az_iconst d_Mo_lay_123 ?_
          refine az_iadd d_Mo_lay_124 ?_
          first | refine ah_put d_Mo_lay_125 fp_Mo_114 hH hF 0 rfl rfl rfl (by first | rfl | decide) (Nat.le_of_ble_eq_true rfl) (fun h hH hF => ?_) | refine ah_put d_Mo_lay_125 fp_Mo_114 hH hF 1 rfl rfl rfl (by first | rfl | decide) (Nat.le_of_ble_eq_true rfl) (fun h hH hF => ?_) | refine ah_put d_Mo_lay_125 fp_Mo_114 hH hF 2 rfl rfl rfl (by first | rfl | decide) (Nat.le_of_ble_eq_true rfl) (fun h hH hF => ?_) | refine ah_put d_Mo_lay_125 fp_Mo_114 hH hF 3 rfl rfl rfl (by first | rfl | decide) (Nat.le_of_ble_eq_true rfl) (fun h hH hF => ?_) | refine ah_put d_Mo_lay_125 fp_Mo_114 hH hF 4 rfl rfl rfl (by first | rfl | decide) (Nat.le_of_ble_eq_true rfl) (fun h hH hF => ?_) | refine ah_put d_Mo_lay_125 fp_Mo_114 hH hF 5 rfl rfl rfl (by first | rfl | decide) (Nat.le_of_ble_eq_true rfl) (fun h hH hF => ?_) | refine ah_put d_Mo_lay_125 fp_Mo_114 hH hF 6 rfl rfl rfl (by first | rfl | decide) (Nat.le_of_ble_eq_true rfl) (fun h hH hF => ?_) | refine ah_put d_Mo_lay_125 fp_Mo_114 hH hF 7 rfl rfl rfl (by first | rfl | decide) (Nat.le_of_ble_eq_true rfl) (fun h hH hF => ?_) | refine ah_put d_Mo_lay_125 fp_Mo_114 hH hF 8 rfl rfl rfl (by first | rfl | decide) (Nat.le_of_ble_eq_true rfl) (fun h hH hF => ?_) | refine ah_put d_Mo_lay_125 fp_Mo_114 hH hF 9 rfl rfl rfl (by first | rfl | decide) (Nat.le_of_ble_eq_true rfl) (fun h hH hF => ?_) | refine ah_put d_Mo_lay_125 fp_Mo_114 hH hF 10 rfl rfl rfl (by first | rfl | decide) (Nat.le_of_ble_eq_true rfl) (fun h hH hF => ?_) | refine ah_put d_Mo_lay_125 fp_Mo_114 hH hF 11 rfl rfl rfl (by first | rfl | decide) (Nat.le_of_ble_eq_true rfl) (fun h hH hF => ?_) | refine ah_put d_Mo_lay_125 fp_Mo_114 hH hF 12 rfl rfl rfl (by first | rfl | decide) (Nat.le_of_ble_eq_true rfl) (fun h hH hF => ?_) | refine ah_put d_Mo_lay_125 fp_Mo_114 hH hF 13 rfl rfl rfl (by first | rfl | decide) (Nat.le_of_ble_eq_true rfl) (fun h hH hF => ?_) | refine ah_put d_Mo_lay_125 fp_Mo_114 hH hF 14 rfl rfl rfl (by first | rfl | decide) (Nat.le_of_ble_eq_true rfl) (fun h hH hF => ?_) | refine ah_put d_Mo_lay_125 fp_Mo_114 hH hF 15 rfl rfl rfl (by first | rfl | decide) (Nat.le_of_ble_eq_true rfl) (fun h hH hF => ?_) | refine ah_put d_Mo_lay_125 fp_Mo_114 hH hF 16 rfl rfl rfl (by first | rfl | decide) (Nat.le_of_ble_eq_true rfl) (fun h hH hF => ?_) | refine ah_put d_Mo_lay_125 fp_Mo_114 hH hF 17 rfl rfl rfl (by first | rfl | decide) (Nat.le_of_ble_eq_true rfl) (fun h hH hF => ?_) | refine ah_put d_Mo_lay_125 fp_Mo_114 hH hF 18 rfl rfl rfl (by first | rfl | decide) (Nat.le_of_ble_eq_true rfl) (fun h hH hF => ?_)
          refine ax_goto 108 d_Mo_lay_128 (by decide) ?_
          refine ih (r + 1) (up iz3 9 (iz3 9 + 1)) ar3 h (by omega) hH hF (ki.up 9 _ rfl) ka (by show iz3 9 + 1 = _; omega) (fun s hsr => ?_) h7 h8 _ _
          by_cases e : s = r
          · rw [e, ← hP]; omega
          · exact hs s (by omega)
    have key : ∀ (f k m : Nat) (iz3 : Nat → Int) (ar3 : Nat → Nat → Int) (h : ax_H), k + f = xs.length → m ≤ 900 → isMst xs k m → MoH h iz3 ar3 → Fr MOS h3 h → KI [2, 8] iz iz3 → KA [3, 4, 5, 7] ar ar3 → RwS iz3 ar3 xs → (∀ j : Nat, j < xs.length → ar3 4 j = ordT xs j) → (∀ j : Nat, j < k → ar3 7 j = ordT xs j) → (xs.length ≠ 0 → iz3 8 = plT xs 0) → ∀ v3 : Option Value,
        ax_W m_Mo_lay 3 28 [some (.ref 47), some (.int (iv m)), some (.int (iv k)), v3] [] h (fun r0 h1 => r0 = none ∧ (∃ iz ar, MoH h1 iz ar ∧ MoQ iz ar xs T out fp ∧ Laid iz ar xs) ∧ Fr MOS h0 h1) := by
      intro f
      induction f with
      | zero =>
        intro k m iz3 ar3 h he hm hmst hH hF ki ka hR h4 h7 h8 v3
        have hkn : k = xs.length := by omega
        subst hkn
        have e2 := hR.1
        refine ax_iload_n d_Mo_lay_28 rfl ?_
        refine ax_aload_n d_Mo_lay_29 rfl ?_
        refine ax_get d_Mo_lay_30 fg_Mo_87 (by first | assumption | exact hH.g 0 rfl | exact hH.g 1 rfl | exact hH.g 2 rfl | exact hH.g 3 rfl | exact hH.g 4 rfl | exact hH.g 5 rfl | exact hH.g 6 rfl | exact hH.g 7 rfl | exact hH.g 8 rfl | exact hH.g 9 rfl | exact hH.g 10 rfl | exact hH.g 11 rfl | exact hH.g 12 rfl | exact hH.g 13 rfl | exact hH.g 14 rfl | exact hH.g 15 rfl | exact hH.g 16 rfl | exact hH.g 17 rfl | exact hH.g 18 rfl) (by rfl) ?_
        refine az_icmp_ge 103 d_Mo_lay_33 (by decide) (by omega) (by omega) (fun hc => ?_) (fun hc => ?_)
        · refine ax_aload_n d_Mo_lay_103 rfl ?_
          refine az_iconst d_Mo_lay_104 ?_
          first | refine ah_put d_Mo_lay_105 fp_Mo_114 hH hF 0 rfl rfl rfl (by first | rfl | decide) (Nat.le_of_ble_eq_true rfl) (fun h hH hF => ?_) | refine ah_put d_Mo_lay_105 fp_Mo_114 hH hF 1 rfl rfl rfl (by first | rfl | decide) (Nat.le_of_ble_eq_true rfl) (fun h hH hF => ?_) | refine ah_put d_Mo_lay_105 fp_Mo_114 hH hF 2 rfl rfl rfl (by first | rfl | decide) (Nat.le_of_ble_eq_true rfl) (fun h hH hF => ?_) | refine ah_put d_Mo_lay_105 fp_Mo_114 hH hF 3 rfl rfl rfl (by first | rfl | decide) (Nat.le_of_ble_eq_true rfl) (fun h hH hF => ?_) | refine ah_put d_Mo_lay_105 fp_Mo_114 hH hF 4 rfl rfl rfl (by first | rfl | decide) (Nat.le_of_ble_eq_true rfl) (fun h hH hF => ?_) | refine ah_put d_Mo_lay_105 fp_Mo_114 hH hF 5 rfl rfl rfl (by first | rfl | decide) (Nat.le_of_ble_eq_true rfl) (fun h hH hF => ?_) | refine ah_put d_Mo_lay_105 fp_Mo_114 hH hF 6 rfl rfl rfl (by first | rfl | decide) (Nat.le_of_ble_eq_true rfl) (fun h hH hF => ?_) | refine ah_put d_Mo_lay_105 fp_Mo_114 hH hF 7 rfl rfl rfl (by first | rfl | decide) (Nat.le_of_ble_eq_true rfl) (fun h hH hF => ?_) | refine ah_put d_Mo_lay_105 fp_Mo_114 hH hF 8 rfl rfl rfl (by first | rfl | decide) (Nat.le_of_ble_eq_true rfl) (fun h hH hF => ?_) | refine ah_put d_Mo_lay_105 fp_Mo_114 hH hF 9 rfl rfl rfl (by first | rfl | decide) (Nat.le_of_ble_eq_true rfl) (fun h hH hF => ?_) | refine ah_put d_Mo_lay_105 fp_Mo_114 hH hF 10 rfl rfl rfl (by first | rfl | decide) (Nat.le_of_ble_eq_true rfl) (fun h hH hF => ?_) | refine ah_put d_Mo_lay_105 fp_Mo_114 hH hF 11 rfl rfl rfl (by first | rfl | decide) (Nat.le_of_ble_eq_true rfl) (fun h hH hF => ?_) | refine ah_put d_Mo_lay_105 fp_Mo_114 hH hF 12 rfl rfl rfl (by first | rfl | decide) (Nat.le_of_ble_eq_true rfl) (fun h hH hF => ?_) | refine ah_put d_Mo_lay_105 fp_Mo_114 hH hF 13 rfl rfl rfl (by first | rfl | decide) (Nat.le_of_ble_eq_true rfl) (fun h hH hF => ?_) | refine ah_put d_Mo_lay_105 fp_Mo_114 hH hF 14 rfl rfl rfl (by first | rfl | decide) (Nat.le_of_ble_eq_true rfl) (fun h hH hF => ?_) | refine ah_put d_Mo_lay_105 fp_Mo_114 hH hF 15 rfl rfl rfl (by first | rfl | decide) (Nat.le_of_ble_eq_true rfl) (fun h hH hF => ?_) | refine ah_put d_Mo_lay_105 fp_Mo_114 hH hF 16 rfl rfl rfl (by first | rfl | decide) (Nat.le_of_ble_eq_true rfl) (fun h hH hF => ?_) | refine ah_put d_Mo_lay_105 fp_Mo_114 hH hF 17 rfl rfl rfl (by first | rfl | decide) (Nat.le_of_ble_eq_true rfl) (fun h hH hF => ?_) | refine ah_put d_Mo_lay_105 fp_Mo_114 hH hF 18 rfl rfl rfl (by first | rfl | decide) (Nat.le_of_ble_eq_true rfl) (fun h hH hF => ?_)
          exact rnd m hm (fun _ => hmst) 10 0 (up iz3 9 0) ar3 h (by omega) hH hF ((ki.wide rfl).up 9 0 rfl) ka rfl (fun s hs => by omega) h7 h8 _ _
        · exfalso
          omega
      | succ f ih =>
        intro k m iz3 ar3 h he hm hmst hH hF ki ka hR h4 h7 h8 v3
        have e2 := hR.1
        have hk4 := h4 k (by omega)
        have hk4' : ar3 4 ((k : Int).toNat) = ordT xs k := hk4
        have ok := (ordT_ok (xs := xs) (k := k) (by omega)).1
        have nxt : ∀ (m2 : Nat) (h : ax_H) (ar3 : Nat → Nat → Int), m2 ≤ 900 → isMst xs (k + 1) m2 → MoH h iz3 ar3 → Fr MOS h3 h → KA [3, 4, 5, 7] ar ar3 → RwS iz3 ar3 xs → (∀ j : Nat, j < xs.length → ar3 4 j = ordT xs j) → (∀ j : Nat, j < k + 1 → ar3 7 j = ordT xs j) → ∀ v3 : Option Value, ax_W m_Mo_lay 3 97 [some (.ref 47), some (.int (iv m2)), some (.int (iv k)), v3] [] h (fun r0 h1 => r0 = none ∧ (∃ iz ar, MoH h1 iz ar ∧ MoQ iz ar xs T out fp ∧ Laid iz ar xs) ∧ Fr MOS h0 h1) := by
          intro m2 h ar3 hm2 hmst2 hH hF ka hR h4 h7 v3
          refine az_iinc d_Mo_lay_97 rfl (by decide) rfl ?_
          refine ax_goto 28 d_Mo_lay_100 (by decide) ?_
          exact ih (k + 1) m2 iz3 ar3 h (by omega) hm2 hmst2 hH hF ki ka hR h4 h7 h8 _
        refine ax_iload_n d_Mo_lay_28 rfl ?_
        refine ax_aload_n d_Mo_lay_29 rfl ?_
        refine ax_get d_Mo_lay_30 fg_Mo_87 (by first | assumption | exact hH.g 0 rfl | exact hH.g 1 rfl | exact hH.g 2 rfl | exact hH.g 3 rfl | exact hH.g 4 rfl | exact hH.g 5 rfl | exact hH.g 6 rfl | exact hH.g 7 rfl | exact hH.g 8 rfl | exact hH.g 9 rfl | exact hH.g 10 rfl | exact hH.g 11 rfl | exact hH.g 12 rfl | exact hH.g 13 rfl | exact hH.g 14 rfl | exact hH.g 15 rfl | exact hH.g 16 rfl | exact hH.g 17 rfl | exact hH.g 18 rfl) (by rfl) ?_
        refine az_icmp_ge 103 d_Mo_lay_33 (by decide) (by omega) (by omega) (fun hc => ?_) (fun hc => ?_)
        · exfalso
          omega
        · refine ax_aload_n d_Mo_lay_36 rfl ?_
          refine ax_get d_Mo_lay_37 fg_Mo_22 (by first | assumption | exact hH.g 0 rfl | exact hH.g 1 rfl | exact hH.g 2 rfl | exact hH.g 3 rfl | exact hH.g 4 rfl | exact hH.g 5 rfl | exact hH.g 6 rfl | exact hH.g 7 rfl | exact hH.g 8 rfl | exact hH.g 9 rfl | exact hH.g 10 rfl | exact hH.g 11 rfl | exact hH.g 12 rfl | exact hH.g 13 rfl | exact hH.g 14 rfl | exact hH.g 15 rfl | exact hH.g 16 rfl | exact hH.g 17 rfl | exact hH.g 18 rfl) (by rfl) ?_
          refine ax_iload_n d_Mo_lay_40 rfl ?_
          refine ax_aload_n d_Mo_lay_41 rfl ?_
          refine ax_get d_Mo_lay_42 fg_Mo_16 (by first | assumption | exact hH.g 0 rfl | exact hH.g 1 rfl | exact hH.g 2 rfl | exact hH.g 3 rfl | exact hH.g 4 rfl | exact hH.g 5 rfl | exact hH.g 6 rfl | exact hH.g 7 rfl | exact hH.g 8 rfl | exact hH.g 9 rfl | exact hH.g 10 rfl | exact hH.g 11 rfl | exact hH.g 12 rfl | exact hH.g 13 rfl | exact hH.g 14 rfl | exact hH.g 15 rfl | exact hH.g 16 rfl | exact hH.g 17 rfl | exact hH.g 18 rfl) (by rfl) ?_
          refine ax_iload_n d_Mo_lay_45 rfl ?_
          refine az_iald d_Mo_lay_46 (by first | assumption | exact hH.g 0 rfl | exact hH.g 1 rfl | exact hH.g 2 rfl | exact hH.g 3 rfl | exact hH.g 4 rfl | exact hH.g 5 rfl | exact hH.g 6 rfl | exact hH.g 7 rfl | exact hH.g 8 rfl | exact hH.g 9 rfl | exact hH.g 10 rfl | exact hH.g 11 rfl | exact hH.g 12 rfl | exact hH.g 13 rfl | exact hH.g 14 rfl | exact hH.g 15 rfl | exact hH.g 16 rfl | exact hH.g 17 rfl | exact hH.g 18 rfl) (by omega) (by omega) (by omega) ?_
          rw [hk4']
          first | refine ah_iast d_Mo_lay_47 hH hF 0 rfl rfl (by omega) (by omega) (by omega) (by omega) (fun h hH hF => ?_) | refine ah_iast d_Mo_lay_47 hH hF 1 rfl rfl (by omega) (by omega) (by omega) (by omega) (fun h hH hF => ?_) | refine ah_iast d_Mo_lay_47 hH hF 2 rfl rfl (by omega) (by omega) (by omega) (by omega) (fun h hH hF => ?_) | refine ah_iast d_Mo_lay_47 hH hF 3 rfl rfl (by omega) (by omega) (by omega) (by omega) (fun h hH hF => ?_) | refine ah_iast d_Mo_lay_47 hH hF 4 rfl rfl (by omega) (by omega) (by omega) (by omega) (fun h hH hF => ?_) | refine ah_iast d_Mo_lay_47 hH hF 5 rfl rfl (by omega) (by omega) (by omega) (by omega) (fun h hH hF => ?_) | refine ah_iast d_Mo_lay_47 hH hF 6 rfl rfl (by omega) (by omega) (by omega) (by omega) (fun h hH hF => ?_) | refine ah_iast d_Mo_lay_47 hH hF 7 rfl rfl (by omega) (by omega) (by omega) (by omega) (fun h hH hF => ?_) | refine ah_iast d_Mo_lay_47 hH hF 8 rfl rfl (by omega) (by omega) (by omega) (by omega) (fun h hH hF => ?_) | refine ah_iast d_Mo_lay_47 hH hF 9 rfl rfl (by omega) (by omega) (by omega) (by omega) (fun h hH hF => ?_) | refine ah_iast d_Mo_lay_47 hH hF 10 rfl rfl (by omega) (by omega) (by omega) (by omega) (fun h hH hF => ?_) | refine ah_iast d_Mo_lay_47 hH hF 11 rfl rfl (by omega) (by omega) (by omega) (by omega) (fun h hH hF => ?_) | refine ah_iast d_Mo_lay_47 hH hF 12 rfl rfl (by omega) (by omega) (by omega) (by omega) (fun h hH hF => ?_) | refine ah_iast d_Mo_lay_47 hH hF 13 rfl rfl (by omega) (by omega) (by omega) (by omega) (fun h hH hF => ?_) | refine ah_iast d_Mo_lay_47 hH hF 14 rfl rfl (by omega) (by omega) (by omega) (by omega) (fun h hH hF => ?_) | refine ah_iast d_Mo_lay_47 hH hF 15 rfl rfl (by omega) (by omega) (by omega) (by omega) (fun h hH hF => ?_) | refine ah_iast d_Mo_lay_47 hH hF 16 rfl rfl (by omega) (by omega) (by omega) (by omega) (fun h hH hF => ?_) | refine ah_iast d_Mo_lay_47 hH hF 17 rfl rfl (by omega) (by omega) (by omega) (by omega) (fun h hH hF => ?_) | refine ah_iast d_Mo_lay_47 hH hF 18 rfl rfl (by omega) (by omega) (by omega) (by omega) (fun h hH hF => ?_)
          have hH : MoH h iz3 (upA ar3 7 (up (ar3 7) k (ordT xs k))) := hH
          have ka' : KA [3, 4, 5, 7] ar (upA ar3 7 (up (ar3 7) k (ordT xs k))) := ka.up 7 _ rfl
          have h7' : ∀ j : Nat, j < k + 1 → up (ar3 7) k (ordT xs k) j = ordT xs j := by
            intro j hj
            by_cases e : j = k
            · subst e; rw [up_at]
            · rw [up_ne e]; exact h7 j (by omega)
          refine ax_iload_n d_Mo_lay_48 rfl ?_
          refine az_if_ne 59 d_Mo_lay_49 (by decide) (by first | exact bz_in _ | omega) (fun hk0 => ?_) (fun hk0 => ?_)
          · -- k > 0
            have hk4b : ar3 4 (((k : Int) - 1).toNat) = ordT xs (k - 1) := by
              rw [show ((k : Int) - 1).toNat = k - 1 by omega]
              exact h4 _ (by omega)
            have ok1 := (ordT_ok (xs := xs) (k := k - 1) (by omega)).1
            refine ax_aload_n d_Mo_lay_59 rfl ?_
            refine ax_aload_n d_Mo_lay_60 rfl ?_
            refine ax_get d_Mo_lay_61 fg_Mo_16 (by first | assumption | exact hH.g 0 rfl | exact hH.g 1 rfl | exact hH.g 2 rfl | exact hH.g 3 rfl | exact hH.g 4 rfl | exact hH.g 5 rfl | exact hH.g 6 rfl | exact hH.g 7 rfl | exact hH.g 8 rfl | exact hH.g 9 rfl | exact hH.g 10 rfl | exact hH.g 11 rfl | exact hH.g 12 rfl | exact hH.g 13 rfl | exact hH.g 14 rfl | exact hH.g 15 rfl | exact hH.g 16 rfl | exact hH.g 17 rfl | exact hH.g 18 rfl) (by rfl) ?_
            refine ax_iload_n d_Mo_lay_64 rfl ?_
            refine az_iconst d_Mo_lay_65 ?_
            refine az_isub d_Mo_lay_66 ?_
            refine az_iald d_Mo_lay_67 (by first | assumption | exact hH.g 0 rfl | exact hH.g 1 rfl | exact hH.g 2 rfl | exact hH.g 3 rfl | exact hH.g 4 rfl | exact hH.g 5 rfl | exact hH.g 6 rfl | exact hH.g 7 rfl | exact hH.g 8 rfl | exact hH.g 9 rfl | exact hH.g 10 rfl | exact hH.g 11 rfl | exact hH.g 12 rfl | exact hH.g 13 rfl | exact hH.g 14 rfl | exact hH.g 15 rfl | exact hH.g 16 rfl | exact hH.g 17 rfl | exact hH.g 18 rfl) (by omega) (by omega) (by omega) ?_
            have hk4b' : (upA ar3 7 (up (ar3 7) k (ordT xs k))) 4 (((k : Int) - 1).toNat) = ordT xs (k - 1) := hk4b
            rw [hk4b']
            refine ax_aload_n d_Mo_lay_68 rfl ?_
            refine ax_get d_Mo_lay_69 fg_Mo_16 (by first | assumption | exact hH.g 0 rfl | exact hH.g 1 rfl | exact hH.g 2 rfl | exact hH.g 3 rfl | exact hH.g 4 rfl | exact hH.g 5 rfl | exact hH.g 6 rfl | exact hH.g 7 rfl | exact hH.g 8 rfl | exact hH.g 9 rfl | exact hH.g 10 rfl | exact hH.g 11 rfl | exact hH.g 12 rfl | exact hH.g 13 rfl | exact hH.g 14 rfl | exact hH.g 15 rfl | exact hH.g 16 rfl | exact hH.g 17 rfl | exact hH.g 18 rfl) (by rfl) ?_
            refine ax_iload_n d_Mo_lay_72 rfl ?_
            refine az_iald d_Mo_lay_73 (by first | assumption | exact hH.g 0 rfl | exact hH.g 1 rfl | exact hH.g 2 rfl | exact hH.g 3 rfl | exact hH.g 4 rfl | exact hH.g 5 rfl | exact hH.g 6 rfl | exact hH.g 7 rfl | exact hH.g 8 rfl | exact hH.g 9 rfl | exact hH.g 10 rfl | exact hH.g 11 rfl | exact hH.g 12 rfl | exact hH.g 13 rfl | exact hH.g 14 rfl | exact hH.g 15 rfl | exact hH.g 16 rfl | exact hH.g 17 rfl | exact hH.g 18 rfl) (by omega) (by omega) (by omega) ?_
            have hk4c : (upA ar3 7 (up (ar3 7) k (ordT xs k))) 4 ((k : Int).toNat) = ordT xs k := hk4'
            rw [hk4c]
            refine ax_cV2 d_Mo_lay_74 v_Mo_parts lk_Mo_93 (by first | assumption | exact hH.g 0 rfl | exact hH.g 1 rfl | exact hH.g 2 rfl | exact hH.g 3 rfl | exact hH.g 4 rfl | exact hH.g 5 rfl | exact hH.g 6 rfl | exact hH.g 7 rfl | exact hH.g 8 rfl | exact hH.g 9 rfl | exact hH.g 10 rfl | exact hH.g 11 rfl | exact hH.g 12 rfl | exact hH.g 13 rfl | exact hH.g 14 rfl | exact hH.g 15 rfl | exact hH.g 16 rfl | exact hH.g 17 rfl | exact hH.g 18 rfl) (by decide) (Nat.le_of_ble_eq_true rfl) (cm_i (c_Mo_parts hH hR ok1 ok) (fun z h4' hq => ?_))
            obtain ⟨rfl, d, rfl, hd⟩ := hq
            have hd' : isPt xs (ordT xs (k - 1)) (ordT xs (k - 1 + 1)) d := by rw [show k - 1 + 1 = k by omega]; exact hd
            have hd1 := hd.1
            refine ax_istore_n d_Mo_lay_77 (by decide) rfl ?_
            refine ax_iload_n d_Mo_lay_78 rfl ?_
            refine ax_aload_n d_Mo_lay_79 rfl ?_
            refine ax_get d_Mo_lay_80 fg_Mo_87 (by first | assumption | exact hH.g 0 rfl | exact hH.g 1 rfl | exact hH.g 2 rfl | exact hH.g 3 rfl | exact hH.g 4 rfl | exact hH.g 5 rfl | exact hH.g 6 rfl | exact hH.g 7 rfl | exact hH.g 8 rfl | exact hH.g 9 rfl | exact hH.g 10 rfl | exact hH.g 11 rfl | exact hH.g 12 rfl | exact hH.g 13 rfl | exact hH.g 14 rfl | exact hH.g 15 rfl | exact hH.g 16 rfl | exact hH.g 17 rfl | exact hH.g 18 rfl) (by rfl) ?_
            refine az_icmp_ge 97 d_Mo_lay_83 (by decide) (by omega) (by omega) (fun hdn => ?_) (fun hdn => ?_)
            · refine nxt m h4' _ hm ⟨fun i d' hi hdi hdl => ?_, ?_⟩ hH hF ka' hR h4 h7' _
              · by_cases e : i + 1 < k
                · exact hmst.1 i d' e hdi hdl
                · have ei : i = k - 1 := by omega
                  subst ei
                  have := isPt_uniq hdi hd'
                  omega
              · rcases hmst.2 with h | ⟨i, d', g1, g2⟩
                · exact Or.inl h
                · exact Or.inr ⟨i, d', by omega, g2⟩
            · refine ax_iload_n d_Mo_lay_86 rfl ?_
              refine az_iconst d_Mo_lay_87 ?_
              refine az_iadd d_Mo_lay_88 ?_
              refine ax_iload_n d_Mo_lay_89 rfl ?_
              refine az_icmp_le 97 d_Mo_lay_90 (by decide) (by omega) (by omega) (fun hdm => ?_) (fun hdm => ?_)
              · refine nxt m h4' _ hm ⟨fun i d' hi hdi hdl => ?_, ?_⟩ hH hF ka' hR h4 h7' _
                · by_cases e : i + 1 < k
                  · exact hmst.1 i d' e hdi hdl
                  · have ei : i = k - 1 := by omega
                    subst ei
                    have := isPt_uniq hdi hd'
                    omega
                · rcases hmst.2 with h | ⟨i, d', g1, g2⟩
                  · exact Or.inl h
                  · exact Or.inr ⟨i, d', by omega, g2⟩
              · refine ax_iload_n d_Mo_lay_93 rfl ?_
                refine az_iconst d_Mo_lay_94 ?_
                refine az_iadd d_Mo_lay_95 ?_
                refine ax_istore_n d_Mo_lay_96 (by decide) rfl ?_
                have ed : (d : Int) + 1 = ((d + 1 : Nat) : Int) := by omega
                rw [ed]
                refine nxt (d + 1) h4' _ (by omega) ⟨fun i d' hi hdi hdl => ?_, Or.inr ⟨k - 1, d, by omega, hd', by omega, rfl⟩⟩ hH hF ka' hR h4 h7' _
                by_cases e : i + 1 < k
                · have := hmst.1 i d' e hdi hdl
                  omega
                · have ei : i = k - 1 := by omega
                  subst ei
                  have := isPt_uniq hdi hd'
                  omega
          · refine ax_aload_n d_Mo_lay_52 rfl ?_
            refine ax_get d_Mo_lay_53 fg_Mo_87 (by first | assumption | exact hH.g 0 rfl | exact hH.g 1 rfl | exact hH.g 2 rfl | exact hH.g 3 rfl | exact hH.g 4 rfl | exact hH.g 5 rfl | exact hH.g 6 rfl | exact hH.g 7 rfl | exact hH.g 8 rfl | exact hH.g 9 rfl | exact hH.g 10 rfl | exact hH.g 11 rfl | exact hH.g 12 rfl | exact hH.g 13 rfl | exact hH.g 14 rfl | exact hH.g 15 rfl | exact hH.g 16 rfl | exact hH.g 17 rfl | exact hH.g 18 rfl) (by rfl) ?_
            refine ax_goto 77 d_Mo_lay_56 (by decide) ?_
            refine ax_istore_n d_Mo_lay_77 (by decide) rfl ?_
            refine ax_iload_n d_Mo_lay_78 rfl ?_
            refine ax_aload_n d_Mo_lay_79 rfl ?_
            refine ax_get d_Mo_lay_80 fg_Mo_87 (by first | assumption | exact hH.g 0 rfl | exact hH.g 1 rfl | exact hH.g 2 rfl | exact hH.g 3 rfl | exact hH.g 4 rfl | exact hH.g 5 rfl | exact hH.g 6 rfl | exact hH.g 7 rfl | exact hH.g 8 rfl | exact hH.g 9 rfl | exact hH.g 10 rfl | exact hH.g 11 rfl | exact hH.g 12 rfl | exact hH.g 13 rfl | exact hH.g 14 rfl | exact hH.g 15 rfl | exact hH.g 16 rfl | exact hH.g 17 rfl | exact hH.g 18 rfl) (by rfl) ?_
            refine az_icmp_ge 97 d_Mo_lay_83 (by decide) (by omega) (by omega) (fun hc => ?_) (fun hc => ?_)
            · refine nxt m h _ hm ⟨fun i d' hi hdi hdl => by omega, ?_⟩ hH hF ka' hR h4 h7' _
              rcases hmst.2 with h | ⟨i, d', g1, g2⟩
              · exact Or.inl h
              · exact Or.inr ⟨i, d', by omega, g2⟩
            · exfalso
              omega
    refine key xs.length 0 0 (up iz1 8 _) ar2 h (by omega) (by omega) ⟨fun i d hi => by omega, Or.inl rfl⟩ hH hF ((ki1.wide rfl).up 8 _ rfl) (hka.wide rfl) hR2 ho2 (fun j hj => by omega) (fun q => ?_) none
    show (if xs.length = 0 then (-2 : Int) else (plT xs 0 : Int)) = _
    rw [if_neg q]
  · refine ax_vret d_Mo_lay_7 rfl ?_
    have hL : Laid iz ar xs := by
      rcases q6 with h | h
      · exact absurd h hz
      · exact h.2
    exact ⟨rfl, ⟨iz, ar, hH, hQ, hL⟩, hF⟩
