/-! the reference: packing -/
theorem pkI_in (xs : List Int) (hb : Bs xs) : ∀ (f i al : Nat), ∀ b ∈ pkI xs f i al, 0 ≤ b ∧ b < 256
  | 0, _, _ => fun b hb => by simp [pkI] at hb
  | f + 1, i, al => by
    intro b hm
    rw [pkI] at hm
    have hg := gx_Bs hb i
    have hr := (runM_le xs (gx xs i) 251 (i + 1)).1
    split at hm
    · split at hm
      · rcases List.mem_cons.mp hm with rfl | hm
        · exact hg
        · rcases List.mem_cons.mp hm with rfl | hm
          · omega
          · exact pkI_in xs hb f _ _ b hm
      · rcases List.mem_cons.mp hm with rfl | hm
        · exact hg
        · exact pkI_in xs hb f _ _ b hm
    · simp at hm
theorem Bs_pk {xs : List Int} (hb : Bs xs) : Bs (pk xs) := fun i hi => pkI_in xs hb _ _ _ _ (inL_mem ⟨i, hi, rfl⟩)
set_option maxRecDepth 100000 in
set_option maxHeartbeats 4000000 in
theorem c_Mo_packBlock {h0 : ax_H} {iz : Nat → Int} {ar : Nat → Nat → Int} {xs : List Int} (hH : MoH h0 iz ar) (hm : iz 0 = xs.length) (hx : xs.length ≤ 600) (hb : la (ar 1) xs) (hbs : Bs xs) : ax_Cv m_Mo_packBlock 0 [.ref 47] h0 (fun h1 => (∃ iz1 ar1, MoH h1 iz1 ar1 ∧ KI [2] iz iz1 ∧ KA [3] ar ar1 ∧ iz1 2 = (pk xs).length ∧ la (ar1 3) (pk xs) ∧ (pk xs).length ≤ 750) ∧ Fr MOS h0 h1) := by
  have hF : Fr MOS h0 h0 := Fr.rf
  refine ax_enter [some (.ref 47), none, none, none] rfl (Nat.le_of_ble_eq_true rfl) (by decide) ?_
  refine ax_aload_n d_Mo_packBlock_0 rfl ?_
  refine az_iconst d_Mo_packBlock_1 ?_
  first | refine ah_put d_Mo_packBlock_2 fp_Mo_87 hH hF 0 rfl rfl rfl (by first | rfl | decide) (Nat.le_of_ble_eq_true rfl) (fun h hH hF => ?_) | refine ah_put d_Mo_packBlock_2 fp_Mo_87 hH hF 1 rfl rfl rfl (by first | rfl | decide) (Nat.le_of_ble_eq_true rfl) (fun h hH hF => ?_) | refine ah_put d_Mo_packBlock_2 fp_Mo_87 hH hF 2 rfl rfl rfl (by first | rfl | decide) (Nat.le_of_ble_eq_true rfl) (fun h hH hF => ?_) | refine ah_put d_Mo_packBlock_2 fp_Mo_87 hH hF 3 rfl rfl rfl (by first | rfl | decide) (Nat.le_of_ble_eq_true rfl) (fun h hH hF => ?_) | refine ah_put d_Mo_packBlock_2 fp_Mo_87 hH hF 4 rfl rfl rfl (by first | rfl | decide) (Nat.le_of_ble_eq_true rfl) (fun h hH hF => ?_) | refine ah_put d_Mo_packBlock_2 fp_Mo_87 hH hF 5 rfl rfl rfl (by first | rfl | decide) (Nat.le_of_ble_eq_true rfl) (fun h hH hF => ?_) | refine ah_put d_Mo_packBlock_2 fp_Mo_87 hH hF 6 rfl rfl rfl (by first | rfl | decide) (Nat.le_of_ble_eq_true rfl) (fun h hH hF => ?_) | refine ah_put d_Mo_packBlock_2 fp_Mo_87 hH hF 7 rfl rfl rfl (by first | rfl | decide) (Nat.le_of_ble_eq_true rfl) (fun h hH hF => ?_) | refine ah_put d_Mo_packBlock_2 fp_Mo_87 hH hF 8 rfl rfl rfl (by first | rfl | decide) (Nat.le_of_ble_eq_true rfl) (fun h hH hF => ?_) | refine ah_put d_Mo_packBlock_2 fp_Mo_87 hH hF 9 rfl rfl rfl (by first | rfl | decide) (Nat.le_of_ble_eq_true rfl) (fun h hH hF => ?_) | refine ah_put d_Mo_packBlock_2 fp_Mo_87 hH hF 10 rfl rfl rfl (by first | rfl | decide) (Nat.le_of_ble_eq_true rfl) (fun h hH hF => ?_) | refine ah_put d_Mo_packBlock_2 fp_Mo_87 hH hF 11 rfl rfl rfl (by first | rfl | decide) (Nat.le_of_ble_eq_true rfl) (fun h hH hF => ?_) | refine ah_put d_Mo_packBlock_2 fp_Mo_87 hH hF 12 rfl rfl rfl (by first | rfl | decide) (Nat.le_of_ble_eq_true rfl) (fun h hH hF => ?_) | refine ah_put d_Mo_packBlock_2 fp_Mo_87 hH hF 13 rfl rfl rfl (by first | rfl | decide) (Nat.le_of_ble_eq_true rfl) (fun h hH hF => ?_) | refine ah_put d_Mo_packBlock_2 fp_Mo_87 hH hF 14 rfl rfl rfl (by first | rfl | decide) (Nat.le_of_ble_eq_true rfl) (fun h hH hF => ?_) | refine ah_put d_Mo_packBlock_2 fp_Mo_87 hH hF 15 rfl rfl rfl (by first | rfl | decide) (Nat.le_of_ble_eq_true rfl) (fun h hH hF => ?_) | refine ah_put d_Mo_packBlock_2 fp_Mo_87 hH hF 16 rfl rfl rfl (by first | rfl | decide) (Nat.le_of_ble_eq_true rfl) (fun h hH hF => ?_) | refine ah_put d_Mo_packBlock_2 fp_Mo_87 hH hF 17 rfl rfl rfl (by first | rfl | decide) (Nat.le_of_ble_eq_true rfl) (fun h hH hF => ?_) | refine ah_put d_Mo_packBlock_2 fp_Mo_87 hH hF 18 rfl rfl rfl (by first | rfl | decide) (Nat.le_of_ble_eq_true rfl) (fun h hH hF => ?_)
  refine az_iconst d_Mo_packBlock_5 ?_
  refine ax_istore_n d_Mo_packBlock_6 (by decide) rfl ?_
  refine az_iconst d_Mo_packBlock_7 ?_
  refine ax_istore_n d_Mo_packBlock_8 (by decide) rfl ?_
  have key : ∀ (f i al : Nat) (ys : List Int) (iz1 : Nat → Int) (ar1 : Nat → Nat → Int) (h : ax_H), xs.length ≤ i + f → i ≤ xs.length → al ≤ 3 → 4 * ys.length + al ≤ 5 * i → (0 < al → 0 < i ∧ 0 < ys.length ∧ gx ys (ys.length - 1) = gx xs (i - 1)) → MoH h iz1 ar1 → Fr MOS h0 h → KI [2] iz iz1 → KA [3] ar ar1 → iz1 2 = ys.length → la (ar1 3) ys → ys ++ pkI xs f i al = pk xs → ∀ v3 : Option Value,
      ax_W m_Mo_packBlock 0 9 [some (.ref 47), some (.int (iv al)), some (.int (iv i)), v3] [] h (fun r0 h1 => r0 = none ∧ (∃ iz1 ar1, MoH h1 iz1 ar1 ∧ KI [2] iz iz1 ∧ KA [3] ar ar1 ∧ iz1 2 = (pk xs).length ∧ la (ar1 3) (pk xs) ∧ (pk xs).length ≤ 750) ∧ Fr MOS h0 h1) := by
    intro f
    induction f with
    | zero =>
      intro i al ys iz1 ar1 h he hi hal hpot hlast hH hF hki hka e2 hl hs v3
      have e0 := hki 0 rfl
      refine ax_iload_n d_Mo_packBlock_9 rfl ?_
      refine ax_aload_n d_Mo_packBlock_10 rfl ?_
      refine ax_get d_Mo_packBlock_11 fg_Mo_76 (by first | assumption | exact hH.g 0 rfl | exact hH.g 1 rfl | exact hH.g 2 rfl | exact hH.g 3 rfl | exact hH.g 4 rfl | exact hH.g 5 rfl | exact hH.g 6 rfl | exact hH.g 7 rfl | exact hH.g 8 rfl | exact hH.g 9 rfl | exact hH.g 10 rfl | exact hH.g 11 rfl | exact hH.g 12 rfl | exact hH.g 13 rfl | exact hH.g 14 rfl | exact hH.g 15 rfl | exact hH.g 16 rfl | exact hH.g 17 rfl | exact hH.g 18 rfl) (by rfl) ?_
      refine az_icmp_ge 150 d_Mo_packBlock_14 (by decide) (by omega) (by omega) (fun hc => ?_) (fun hc => ?_)
      · refine ax_vret d_Mo_packBlock_150 rfl ?_
        rw [pkI, List.append_nil] at hs
        subst hs
        exact ⟨rfl, ⟨iz1, ar1, hH, hki, hka, e2, hl, by omega⟩, hF⟩
      · exfalso
        omega
    | succ f ih =>
      intro i al ys iz1 ar1 h he hi hal hpot hlast hH hF hki hka e2 hl hs v3
      have e0 := hki 0 rfl
      have e1 := hka 1 rfl
      refine ax_iload_n d_Mo_packBlock_9 rfl ?_
      refine ax_aload_n d_Mo_packBlock_10 rfl ?_
      refine ax_get d_Mo_packBlock_11 fg_Mo_76 (by first | assumption | exact hH.g 0 rfl | exact hH.g 1 rfl | exact hH.g 2 rfl | exact hH.g 3 rfl | exact hH.g 4 rfl | exact hH.g 5 rfl | exact hH.g 6 rfl | exact hH.g 7 rfl | exact hH.g 8 rfl | exact hH.g 9 rfl | exact hH.g 10 rfl | exact hH.g 11 rfl | exact hH.g 12 rfl | exact hH.g 13 rfl | exact hH.g 14 rfl | exact hH.g 15 rfl | exact hH.g 16 rfl | exact hH.g 17 rfl | exact hH.g 18 rfl) (by rfl) ?_
      refine az_icmp_ge 150 d_Mo_packBlock_14 (by decide) (by omega) (by omega) (fun hin => ?_) (fun hin => ?_)
      · refine ax_vret d_Mo_packBlock_150 rfl ?_
        rw [pkI, if_neg (by omega), List.append_nil] at hs
        subst hs
        exact ⟨rfl, ⟨iz1, ar1, hH, hki, hka, e2, hl, by omega⟩, hF⟩
      · have hgx : ar1 1 i = gx xs i := by rw [e1]; exact hb i (by omega)
        have hg := gx_Bs hbs i
        rw [pkI, if_pos (by omega)] at hs
        have eb : ar1 1 ((i : Int)).toNat = gx xs i := by rw [show ((i : Nat) : Int).toNat = i by omega]; exact hgx
        -- behind the count of alike ones
        have rest : ∀ a : Nat, a = alk xs i al → ax_W m_Mo_packBlock 0 48 [some (.ref 47), some (.int (iv al)), some (.int (iv i)), v3] [.int (iv a)] h (fun r0 h1 => r0 = none ∧ (∃ iz1 ar1, MoH h1 iz1 ar1 ∧ KI [2] iz iz1 ∧ KA [3] ar ar1 ∧ iz1 2 = (pk xs).length ∧ la (ar1 3) (pk xs) ∧ (pk xs).length ≤ 750) ∧ Fr MOS h0 h1) := by
          intro a ha
          have hal2 : a ≤ al + 1 ∧ 1 ≤ a := by
            rw [ha, alk]
            split <;> omega
          rw [← ha] at hs
          have hl2 : la (up (ar1 3) (iz1 2).toNat (gx xs i)) (ys ++ [gx xs i]) := la_take_succ hl (by omega) _
          have hlen2 : (ys ++ [gx xs i]).length = ys.length + 1 := by simp
          have hgl : gx (ys ++ [gx xs i]) ys.length = gx xs i := by
            show (ys ++ [gx xs i]).getD ys.length 0 = _
            rw [getD_snoc, if_pos rfl]
          refine ax_istore_n d_Mo_packBlock_48 (by decide) rfl ?_
          refine ax_aload_n d_Mo_packBlock_49 rfl ?_
          refine ax_get d_Mo_packBlock_50 fg_Mo_13 (by first | assumption | exact hH.g 0 rfl | exact hH.g 1 rfl | exact hH.g 2 rfl | exact hH.g 3 rfl | exact hH.g 4 rfl | exact hH.g 5 rfl | exact hH.g 6 rfl | exact hH.g 7 rfl | exact hH.g 8 rfl | exact hH.g 9 rfl | exact hH.g 10 rfl | exact hH.g 11 rfl | exact hH.g 12 rfl | exact hH.g 13 rfl | exact hH.g 14 rfl | exact hH.g 15 rfl | exact hH.g 16 rfl | exact hH.g 17 rfl | exact hH.g 18 rfl) (by rfl) ?_
          refine ax_aload_n d_Mo_packBlock_53 rfl ?_
          refine ax_dup d_Mo_packBlock_54 rfl ?_
          refine ax_get d_Mo_packBlock_55 fg_Mo_87 (by first | assumption | exact hH.g 0 rfl | exact hH.g 1 rfl | exact hH.g 2 rfl | exact hH.g 3 rfl | exact hH.g 4 rfl | exact hH.g 5 rfl | exact hH.g 6 rfl | exact hH.g 7 rfl | exact hH.g 8 rfl | exact hH.g 9 rfl | exact hH.g 10 rfl | exact hH.g 11 rfl | exact hH.g 12 rfl | exact hH.g 13 rfl | exact hH.g 14 rfl | exact hH.g 15 rfl | exact hH.g 16 rfl | exact hH.g 17 rfl | exact hH.g 18 rfl) (by rfl) ?_
          refine ax_dup_x1 d_Mo_packBlock_58 rfl rfl ?_
          refine az_iconst d_Mo_packBlock_59 ?_
          refine az_iadd d_Mo_packBlock_60 ?_
          first | refine ah_put d_Mo_packBlock_61 fp_Mo_87 hH hF 0 rfl rfl rfl (by first | rfl | decide) (Nat.le_of_ble_eq_true rfl) (fun h hH hF => ?_) | refine ah_put d_Mo_packBlock_61 fp_Mo_87 hH hF 1 rfl rfl rfl (by first | rfl | decide) (Nat.le_of_ble_eq_true rfl) (fun h hH hF => ?_) | refine ah_put d_Mo_packBlock_61 fp_Mo_87 hH hF 2 rfl rfl rfl (by first | rfl | decide) (Nat.le_of_ble_eq_true rfl) (fun h hH hF => ?_) | refine ah_put d_Mo_packBlock_61 fp_Mo_87 hH hF 3 rfl rfl rfl (by first | rfl | decide) (Nat.le_of_ble_eq_true rfl) (fun h hH hF => ?_) | refine ah_put d_Mo_packBlock_61 fp_Mo_87 hH hF 4 rfl rfl rfl (by first | rfl | decide) (Nat.le_of_ble_eq_true rfl) (fun h hH hF => ?_) | refine ah_put d_Mo_packBlock_61 fp_Mo_87 hH hF 5 rfl rfl rfl (by first | rfl | decide) (Nat.le_of_ble_eq_true rfl) (fun h hH hF => ?_) | refine ah_put d_Mo_packBlock_61 fp_Mo_87 hH hF 6 rfl rfl rfl (by first | rfl | decide) (Nat.le_of_ble_eq_true rfl) (fun h hH hF => ?_) | refine ah_put d_Mo_packBlock_61 fp_Mo_87 hH hF 7 rfl rfl rfl (by first | rfl | decide) (Nat.le_of_ble_eq_true rfl) (fun h hH hF => ?_) | refine ah_put d_Mo_packBlock_61 fp_Mo_87 hH hF 8 rfl rfl rfl (by first | rfl | decide) (Nat.le_of_ble_eq_true rfl) (fun h hH hF => ?_) | refine ah_put d_Mo_packBlock_61 fp_Mo_87 hH hF 9 rfl rfl rfl (by first | rfl | decide) (Nat.le_of_ble_eq_true rfl) (fun h hH hF => ?_) | refine ah_put d_Mo_packBlock_61 fp_Mo_87 hH hF 10 rfl rfl rfl (by first | rfl | decide) (Nat.le_of_ble_eq_true rfl) (fun h hH hF => ?_) | refine ah_put d_Mo_packBlock_61 fp_Mo_87 hH hF 11 rfl rfl rfl (by first | rfl | decide) (Nat.le_of_ble_eq_true rfl) (fun h hH hF => ?_) | refine ah_put d_Mo_packBlock_61 fp_Mo_87 hH hF 12 rfl rfl rfl (by first | rfl | decide) (Nat.le_of_ble_eq_true rfl) (fun h hH hF => ?_) | refine ah_put d_Mo_packBlock_61 fp_Mo_87 hH hF 13 rfl rfl rfl (by first | rfl | decide) (Nat.le_of_ble_eq_true rfl) (fun h hH hF => ?_) | refine ah_put d_Mo_packBlock_61 fp_Mo_87 hH hF 14 rfl rfl rfl (by first | rfl | decide) (Nat.le_of_ble_eq_true rfl) (fun h hH hF => ?_) | refine ah_put d_Mo_packBlock_61 fp_Mo_87 hH hF 15 rfl rfl rfl (by first | rfl | decide) (Nat.le_of_ble_eq_true rfl) (fun h hH hF => ?_) | refine ah_put d_Mo_packBlock_61 fp_Mo_87 hH hF 16 rfl rfl rfl (by first | rfl | decide) (Nat.le_of_ble_eq_true rfl) (fun h hH hF => ?_) | refine ah_put d_Mo_packBlock_61 fp_Mo_87 hH hF 17 rfl rfl rfl (by first | rfl | decide) (Nat.le_of_ble_eq_true rfl) (fun h hH hF => ?_) | refine ah_put d_Mo_packBlock_61 fp_Mo_87 hH hF 18 rfl rfl rfl (by first | rfl | decide) (Nat.le_of_ble_eq_true rfl) (fun h hH hF => ?_)
          refine ax_aload_n d_Mo_packBlock_64 rfl ?_
          refine ax_get d_Mo_packBlock_65 fg_Mo_7 (by first | assumption | exact hH.g 0 rfl | exact hH.g 1 rfl | exact hH.g 2 rfl | exact hH.g 3 rfl | exact hH.g 4 rfl | exact hH.g 5 rfl | exact hH.g 6 rfl | exact hH.g 7 rfl | exact hH.g 8 rfl | exact hH.g 9 rfl | exact hH.g 10 rfl | exact hH.g 11 rfl | exact hH.g 12 rfl | exact hH.g 13 rfl | exact hH.g 14 rfl | exact hH.g 15 rfl | exact hH.g 16 rfl | exact hH.g 17 rfl | exact hH.g 18 rfl) (by rfl) ?_
          refine ax_iload_n d_Mo_packBlock_68 rfl ?_
          refine az_iinc d_Mo_packBlock_69 rfl (by decide) rfl ?_
          refine az_iald d_Mo_packBlock_72 (by first | assumption | exact hH.g 0 rfl | exact hH.g 1 rfl | exact hH.g 2 rfl | exact hH.g 3 rfl | exact hH.g 4 rfl | exact hH.g 5 rfl | exact hH.g 6 rfl | exact hH.g 7 rfl | exact hH.g 8 rfl | exact hH.g 9 rfl | exact hH.g 10 rfl | exact hH.g 11 rfl | exact hH.g 12 rfl | exact hH.g 13 rfl | exact hH.g 14 rfl | exact hH.g 15 rfl | exact hH.g 16 rfl | exact hH.g 17 rfl | exact hH.g 18 rfl) (by omega) (by omega) (by omega) ?_
          rw [eb]
          first | refine ah_iast d_Mo_packBlock_73 hH hF 0 rfl rfl (by omega) (by omega) (by omega) (by omega) (fun h hH hF => ?_) | refine ah_iast d_Mo_packBlock_73 hH hF 1 rfl rfl (by omega) (by omega) (by omega) (by omega) (fun h hH hF => ?_) | refine ah_iast d_Mo_packBlock_73 hH hF 2 rfl rfl (by omega) (by omega) (by omega) (by omega) (fun h hH hF => ?_) | refine ah_iast d_Mo_packBlock_73 hH hF 3 rfl rfl (by omega) (by omega) (by omega) (by omega) (fun h hH hF => ?_) | refine ah_iast d_Mo_packBlock_73 hH hF 4 rfl rfl (by omega) (by omega) (by omega) (by omega) (fun h hH hF => ?_) | refine ah_iast d_Mo_packBlock_73 hH hF 5 rfl rfl (by omega) (by omega) (by omega) (by omega) (fun h hH hF => ?_) | refine ah_iast d_Mo_packBlock_73 hH hF 6 rfl rfl (by omega) (by omega) (by omega) (by omega) (fun h hH hF => ?_) | refine ah_iast d_Mo_packBlock_73 hH hF 7 rfl rfl (by omega) (by omega) (by omega) (by omega) (fun h hH hF => ?_) | refine ah_iast d_Mo_packBlock_73 hH hF 8 rfl rfl (by omega) (by omega) (by omega) (by omega) (fun h hH hF => ?_) | refine ah_iast d_Mo_packBlock_73 hH hF 9 rfl rfl (by omega) (by omega) (by omega) (by omega) (fun h hH hF => ?_) | refine ah_iast d_Mo_packBlock_73 hH hF 10 rfl rfl (by omega) (by omega) (by omega) (by omega) (fun h hH hF => ?_) | refine ah_iast d_Mo_packBlock_73 hH hF 11 rfl rfl (by omega) (by omega) (by omega) (by omega) (fun h hH hF => ?_) | refine ah_iast d_Mo_packBlock_73 hH hF 12 rfl rfl (by omega) (by omega) (by omega) (by omega) (fun h hH hF => ?_) | refine ah_iast d_Mo_packBlock_73 hH hF 13 rfl rfl (by omega) (by omega) (by omega) (by omega) (fun h hH hF => ?_) | refine ah_iast d_Mo_packBlock_73 hH hF 14 rfl rfl (by omega) (by omega) (by omega) (by omega) (fun h hH hF => ?_) | refine ah_iast d_Mo_packBlock_73 hH hF 15 rfl rfl (by omega) (by omega) (by omega) (by omega) (fun h hH hF => ?_) | refine ah_iast d_Mo_packBlock_73 hH hF 16 rfl rfl (by omega) (by omega) (by omega) (by omega) (fun h hH hF => ?_) | refine ah_iast d_Mo_packBlock_73 hH hF 17 rfl rfl (by omega) (by omega) (by omega) (by omega) (fun h hH hF => ?_) | refine ah_iast d_Mo_packBlock_73 hH hF 18 rfl rfl (by omega) (by omega) (by omega) (by omega) (fun h hH hF => ?_)
          have ei : (i : Int) + 1 = ((i + 1 : Nat) : Int) := by omega
          rw [ei]
          have hH : MoH h (up iz1 2 (iz1 2 + 1)) (upA ar1 3 (up (ar1 3) (iz1 2).toNat (gx xs i))) := hH
          have hki2 : KI [2] iz (up iz1 2 (iz1 2 + 1)) := hki.up 2 _ rfl
          have hka2 : KA [3] ar (upA ar1 3 (up (ar1 3) (iz1 2).toNat (gx xs i))) := hka.up 3 _ rfl
          have e22 : (up iz1 2 (iz1 2 + 1)) 2 = ((ys ++ [gx xs i]).length : Int) := by show iz1 2 + 1 = _; rw [hlen2]; omega
          refine ax_iload_n d_Mo_packBlock_74 rfl ?_
          refine az_iconst d_Mo_packBlock_75 ?_
          refine az_icmp_ge 82 d_Mo_packBlock_76 (by decide) (by omega) (by omega) (fun h4 => ?_) (fun h4 => ?_)
          · rw [if_pos (by omega)] at hs
            refine az_iconst d_Mo_packBlock_82 ?_
            refine ax_istore_n d_Mo_packBlock_83 (by decide) rfl ?_
            generalize hiz : up iz1 2 (iz1 2 + 1) = iz2 at hH hki2 e22
            generalize har : upA ar1 3 (up (ar1 3) (iz1 2).toNat (gx xs i)) = ar2 at hH hka2
            have hl2 : la (ar2 3) (ys ++ [gx xs i]) := by rw [← har]; exact hl2
            have f0 := hki2 0 rfl
            have f1 := hka2 1 rfl
            have hrow : ar2 3 (iz2 2 - 1).toNat = gx xs i := by
              rw [e22, hlen2, show (((ys.length + 1 : Nat) : Int) - 1).toNat = ys.length by omega, hl2 _ (by rw [hlen2]; omega)]
              exact hgl
            have hrl := runM_le xs (gx xs i) 251 (i + 1)
            have inner : ∀ (g m : Nat), m + g = 251 → i + 1 + m ≤ xs.length → m + runM xs (gx xs i) g (i + 1 + m) = runM xs (gx xs i) 251 (i + 1) →
                ax_W m_Mo_packBlock 0 84 [some (.ref 47), some (.int (iv a)), some (.int (iv ((i + 1 + m : Nat) : Int))), some (.int (iv m))] [] h (fun r0 h1 => r0 = none ∧ (∃ iz1 ar1, MoH h1 iz1 ar1 ∧ KI [2] iz iz1 ∧ KA [3] ar ar1 ∧ iz1 2 = (pk xs).length ∧ la (ar1 3) (pk xs) ∧ (pk xs).length ≤ 750) ∧ Fr MOS h0 h1) := by
              -- the count goes into the row
              have putc : ∀ m : Nat, m = runM xs (gx xs i) 251 (i + 1) → ax_W m_Mo_packBlock 0 128 [some (.ref 47), some (.int (iv a)), some (.int (iv ((i + 1 + m : Nat) : Int))), some (.int (iv m))] [] h (fun r0 h1 => r0 = none ∧ (∃ iz1 ar1, MoH h1 iz1 ar1 ∧ KI [2] iz iz1 ∧ KA [3] ar ar1 ∧ iz1 2 = (pk xs).length ∧ la (ar1 3) (pk xs) ∧ (pk xs).length ≤ 750) ∧ Fr MOS h0 h1) := by
                intro m hm2
                have hl3 : la (up (ar2 3) (iz2 2).toNat (m : Int)) (ys ++ [gx xs i] ++ [(m : Int)]) := la_take_succ hl2 (by omega) _
                refine ax_aload_n d_Mo_packBlock_128 rfl ?_
                refine ax_get d_Mo_packBlock_129 fg_Mo_13 (by first | assumption | exact hH.g 0 rfl | exact hH.g 1 rfl | exact hH.g 2 rfl | exact hH.g 3 rfl | exact hH.g 4 rfl | exact hH.g 5 rfl | exact hH.g 6 rfl | exact hH.g 7 rfl | exact hH.g 8 rfl | exact hH.g 9 rfl | exact hH.g 10 rfl | exact hH.g 11 rfl | exact hH.g 12 rfl | exact hH.g 13 rfl | exact hH.g 14 rfl | exact hH.g 15 rfl | exact hH.g 16 rfl | exact hH.g 17 rfl | exact hH.g 18 rfl) (by rfl) ?_
                refine ax_aload_n d_Mo_packBlock_132 rfl ?_
                refine ax_dup d_Mo_packBlock_133 rfl ?_
                refine ax_get d_Mo_packBlock_134 fg_Mo_87 (by first | assumption | exact hH.g 0 rfl | exact hH.g 1 rfl | exact hH.g 2 rfl | exact hH.g 3 rfl | exact hH.g 4 rfl | exact hH.g 5 rfl | exact hH.g 6 rfl | exact hH.g 7 rfl | exact hH.g 8 rfl | exact hH.g 9 rfl | exact hH.g 10 rfl | exact hH.g 11 rfl | exact hH.g 12 rfl | exact hH.g 13 rfl | exact hH.g 14 rfl | exact hH.g 15 rfl | exact hH.g 16 rfl | exact hH.g 17 rfl | exact hH.g 18 rfl) (by rfl) ?_
                refine ax_dup_x1 d_Mo_packBlock_137 rfl rfl ?_
                refine az_iconst d_Mo_packBlock_138 ?_
                refine az_iadd d_Mo_packBlock_139 ?_
                first | refine ah_put d_Mo_packBlock_140 fp_Mo_87 hH hF 0 rfl rfl rfl (by first | rfl | decide) (Nat.le_of_ble_eq_true rfl) (fun h hH hF => ?_) | refine ah_put d_Mo_packBlock_140 fp_Mo_87 hH hF 1 rfl rfl rfl (by first | rfl | decide) (Nat.le_of_ble_eq_true rfl) (fun h hH hF => ?_) | refine ah_put d_Mo_packBlock_140 fp_Mo_87 hH hF 2 rfl rfl rfl (by first | rfl | decide) (Nat.le_of_ble_eq_true rfl) (fun h hH hF => ?_) | refine ah_put d_Mo_packBlock_140 fp_Mo_87 hH hF 3 rfl rfl rfl (by first | rfl | decide) (Nat.le_of_ble_eq_true rfl) (fun h hH hF => ?_) | refine ah_put d_Mo_packBlock_140 fp_Mo_87 hH hF 4 rfl rfl rfl (by first | rfl | decide) (Nat.le_of_ble_eq_true rfl) (fun h hH hF => ?_) | refine ah_put d_Mo_packBlock_140 fp_Mo_87 hH hF 5 rfl rfl rfl (by first | rfl | decide) (Nat.le_of_ble_eq_true rfl) (fun h hH hF => ?_) | refine ah_put d_Mo_packBlock_140 fp_Mo_87 hH hF 6 rfl rfl rfl (by first | rfl | decide) (Nat.le_of_ble_eq_true rfl) (fun h hH hF => ?_) | refine ah_put d_Mo_packBlock_140 fp_Mo_87 hH hF 7 rfl rfl rfl (by first | rfl | decide) (Nat.le_of_ble_eq_true rfl) (fun h hH hF => ?_) | refine ah_put d_Mo_packBlock_140 fp_Mo_87 hH hF 8 rfl rfl rfl (by first | rfl | decide) (Nat.le_of_ble_eq_true rfl) (fun h hH hF => ?_) | refine ah_put d_Mo_packBlock_140 fp_Mo_87 hH hF 9 rfl rfl rfl (by first | rfl | decide) (Nat.le_of_ble_eq_true rfl) (fun h hH hF => ?_) | refine ah_put d_Mo_packBlock_140 fp_Mo_87 hH hF 10 rfl rfl rfl (by first | rfl | decide) (Nat.le_of_ble_eq_true rfl) (fun h hH hF => ?_) | refine ah_put d_Mo_packBlock_140 fp_Mo_87 hH hF 11 rfl rfl rfl (by first | rfl | decide) (Nat.le_of_ble_eq_true rfl) (fun h hH hF => ?_) | refine ah_put d_Mo_packBlock_140 fp_Mo_87 hH hF 12 rfl rfl rfl (by first | rfl | decide) (Nat.le_of_ble_eq_true rfl) (fun h hH hF => ?_) | refine ah_put d_Mo_packBlock_140 fp_Mo_87 hH hF 13 rfl rfl rfl (by first | rfl | decide) (Nat.le_of_ble_eq_true rfl) (fun h hH hF => ?_) | refine ah_put d_Mo_packBlock_140 fp_Mo_87 hH hF 14 rfl rfl rfl (by first | rfl | decide) (Nat.le_of_ble_eq_true rfl) (fun h hH hF => ?_) | refine ah_put d_Mo_packBlock_140 fp_Mo_87 hH hF 15 rfl rfl rfl (by first | rfl | decide) (Nat.le_of_ble_eq_true rfl) (fun h hH hF => ?_) | refine ah_put d_Mo_packBlock_140 fp_Mo_87 hH hF 16 rfl rfl rfl (by first | rfl | decide) (Nat.le_of_ble_eq_true rfl) (fun h hH hF => ?_) | refine ah_put d_Mo_packBlock_140 fp_Mo_87 hH hF 17 rfl rfl rfl (by first | rfl | decide) (Nat.le_of_ble_eq_true rfl) (fun h hH hF => ?_) | refine ah_put d_Mo_packBlock_140 fp_Mo_87 hH hF 18 rfl rfl rfl (by first | rfl | decide) (Nat.le_of_ble_eq_true rfl) (fun h hH hF => ?_)
                refine ax_iload_n d_Mo_packBlock_143 rfl ?_
                first | refine ah_iast d_Mo_packBlock_144 hH hF 0 rfl rfl (by omega) (by omega) (by omega) (by omega) (fun h hH hF => ?_) | refine ah_iast d_Mo_packBlock_144 hH hF 1 rfl rfl (by omega) (by omega) (by omega) (by omega) (fun h hH hF => ?_) | refine ah_iast d_Mo_packBlock_144 hH hF 2 rfl rfl (by omega) (by omega) (by omega) (by omega) (fun h hH hF => ?_) | refine ah_iast d_Mo_packBlock_144 hH hF 3 rfl rfl (by omega) (by omega) (by omega) (by omega) (fun h hH hF => ?_) | refine ah_iast d_Mo_packBlock_144 hH hF 4 rfl rfl (by omega) (by omega) (by omega) (by omega) (fun h hH hF => ?_) | refine ah_iast d_Mo_packBlock_144 hH hF 5 rfl rfl (by omega) (by omega) (by omega) (by omega) (fun h hH hF => ?_) | refine ah_iast d_Mo_packBlock_144 hH hF 6 rfl rfl (by omega) (by omega) (by omega) (by omega) (fun h hH hF => ?_) | refine ah_iast d_Mo_packBlock_144 hH hF 7 rfl rfl (by omega) (by omega) (by omega) (by omega) (fun h hH hF => ?_) | refine ah_iast d_Mo_packBlock_144 hH hF 8 rfl rfl (by omega) (by omega) (by omega) (by omega) (fun h hH hF => ?_) | refine ah_iast d_Mo_packBlock_144 hH hF 9 rfl rfl (by omega) (by omega) (by omega) (by omega) (fun h hH hF => ?_) | refine ah_iast d_Mo_packBlock_144 hH hF 10 rfl rfl (by omega) (by omega) (by omega) (by omega) (fun h hH hF => ?_) | refine ah_iast d_Mo_packBlock_144 hH hF 11 rfl rfl (by omega) (by omega) (by omega) (by omega) (fun h hH hF => ?_) | refine ah_iast d_Mo_packBlock_144 hH hF 12 rfl rfl (by omega) (by omega) (by omega) (by omega) (fun h hH hF => ?_) | refine ah_iast d_Mo_packBlock_144 hH hF 13 rfl rfl (by omega) (by omega) (by omega) (by omega) (fun h hH hF => ?_) | refine ah_iast d_Mo_packBlock_144 hH hF 14 rfl rfl (by omega) (by omega) (by omega) (by omega) (fun h hH hF => ?_) | refine ah_iast d_Mo_packBlock_144 hH hF 15 rfl rfl (by omega) (by omega) (by omega) (by omega) (fun h hH hF => ?_) | refine ah_iast d_Mo_packBlock_144 hH hF 16 rfl rfl (by omega) (by omega) (by omega) (by omega) (fun h hH hF => ?_) | refine ah_iast d_Mo_packBlock_144 hH hF 17 rfl rfl (by omega) (by omega) (by omega) (by omega) (fun h hH hF => ?_) | refine ah_iast d_Mo_packBlock_144 hH hF 18 rfl rfl (by omega) (by omega) (by omega) (by omega) (fun h hH hF => ?_)
                refine az_iconst d_Mo_packBlock_145 ?_
                refine ax_istore_n d_Mo_packBlock_146 (by decide) rfl ?_
                refine ax_goto 9 d_Mo_packBlock_147 (by decide) ?_
                refine ih (i + 1 + m) 0 (ys ++ [gx xs i] ++ [(m : Int)]) (up iz2 2 (iz2 2 + 1)) (upA ar2 3 (up (ar2 3) (iz2 2).toNat (m : Int))) h (by omega) (by have := hrl.2 (by omega); omega) (by omega) (by rw [List.length_append, hlen2]; simp; omega) (fun q => by omega) hH hF (hki2.up 2 _ rfl) (hka2.up 3 _ rfl) ?_ hl3 ?_ _
                · show iz2 2 + 1 = _
                  rw [List.length_append, e22]
                  simp
                · rw [← hs, hm2]
                  simp
              intro g
              induction g with
              | zero =>
                intro m hmg hml hr
                refine ax_iload_n d_Mo_packBlock_84 rfl ?_
                refine az_sipush _ d_Mo_packBlock_85 (by decide) ?_
                refine az_icmp_ge 128 d_Mo_packBlock_88 (by decide) (by omega) (by omega) (fun hc => ?_) (fun hc => ?_)
                · exact putc m (by rw [← hr]; rfl)
                · exfalso
                  omega
              | succ g ih2 =>
                intro m hmg hml hr
                rw [runM] at hr
                refine ax_iload_n d_Mo_packBlock_84 rfl ?_
                refine az_sipush _ d_Mo_packBlock_85 (by decide) ?_
                refine az_icmp_ge 128 d_Mo_packBlock_88 (by decide) (by omega) (by omega) (fun hc => ?_) (fun hc => ?_)
                · exfalso
                  omega
                · refine ax_iload_n d_Mo_packBlock_91 rfl ?_
                  refine ax_aload_n d_Mo_packBlock_92 rfl ?_
                  refine ax_get d_Mo_packBlock_93 fg_Mo_76 (by first | assumption | exact hH.g 0 rfl | exact hH.g 1 rfl | exact hH.g 2 rfl | exact hH.g 3 rfl | exact hH.g 4 rfl | exact hH.g 5 rfl | exact hH.g 6 rfl | exact hH.g 7 rfl | exact hH.g 8 rfl | exact hH.g 9 rfl | exact hH.g 10 rfl | exact hH.g 11 rfl | exact hH.g 12 rfl | exact hH.g 13 rfl | exact hH.g 14 rfl | exact hH.g 15 rfl | exact hH.g 16 rfl | exact hH.g 17 rfl | exact hH.g 18 rfl) (by rfl) ?_
                  refine az_icmp_ge 128 d_Mo_packBlock_96 (by decide) (by omega) (by omega) (fun hend => ?_) (fun hend => ?_)
                  · rw [if_neg (by omega)] at hr
                    exact putc m (by omega)
                  · have hg2 := gx_Bs hbs (i + 1 + m)
                    have hgm : ar2 1 ((i + 1 + m : Nat) : Int).toNat = gx xs (i + 1 + m) := by
                      rw [f1, show ((i + 1 + m : Nat) : Int).toNat = i + 1 + m by omega]
                      exact hb _ (by omega)
                    refine ax_aload_n d_Mo_packBlock_99 rfl ?_
                    refine ax_get d_Mo_packBlock_100 fg_Mo_7 (by first | assumption | exact hH.g 0 rfl | exact hH.g 1 rfl | exact hH.g 2 rfl | exact hH.g 3 rfl | exact hH.g 4 rfl | exact hH.g 5 rfl | exact hH.g 6 rfl | exact hH.g 7 rfl | exact hH.g 8 rfl | exact hH.g 9 rfl | exact hH.g 10 rfl | exact hH.g 11 rfl | exact hH.g 12 rfl | exact hH.g 13 rfl | exact hH.g 14 rfl | exact hH.g 15 rfl | exact hH.g 16 rfl | exact hH.g 17 rfl | exact hH.g 18 rfl) (by rfl) ?_
                    refine ax_iload_n d_Mo_packBlock_103 rfl ?_
                    refine az_iald d_Mo_packBlock_104 (by first | assumption | exact hH.g 0 rfl | exact hH.g 1 rfl | exact hH.g 2 rfl | exact hH.g 3 rfl | exact hH.g 4 rfl | exact hH.g 5 rfl | exact hH.g 6 rfl | exact hH.g 7 rfl | exact hH.g 8 rfl | exact hH.g 9 rfl | exact hH.g 10 rfl | exact hH.g 11 rfl | exact hH.g 12 rfl | exact hH.g 13 rfl | exact hH.g 14 rfl | exact hH.g 15 rfl | exact hH.g 16 rfl | exact hH.g 17 rfl | exact hH.g 18 rfl) (by omega) (by omega) (by omega) ?_
                    rw [hgm]
                    refine ax_aload_n d_Mo_packBlock_105 rfl ?_
                    refine ax_get d_Mo_packBlock_106 fg_Mo_13 (by first | assumption | exact hH.g 0 rfl | exact hH.g 1 rfl | exact hH.g 2 rfl | exact hH.g 3 rfl | exact hH.g 4 rfl | exact hH.g 5 rfl | exact hH.g 6 rfl | exact hH.g 7 rfl | exact hH.g 8 rfl | exact hH.g 9 rfl | exact hH.g 10 rfl | exact hH.g 11 rfl | exact hH.g 12 rfl | exact hH.g 13 rfl | exact hH.g 14 rfl | exact hH.g 15 rfl | exact hH.g 16 rfl | exact hH.g 17 rfl | exact hH.g 18 rfl) (by rfl) ?_
                    refine ax_aload_n d_Mo_packBlock_109 rfl ?_
                    refine ax_get d_Mo_packBlock_110 fg_Mo_87 (by first | assumption | exact hH.g 0 rfl | exact hH.g 1 rfl | exact hH.g 2 rfl | exact hH.g 3 rfl | exact hH.g 4 rfl | exact hH.g 5 rfl | exact hH.g 6 rfl | exact hH.g 7 rfl | exact hH.g 8 rfl | exact hH.g 9 rfl | exact hH.g 10 rfl | exact hH.g 11 rfl | exact hH.g 12 rfl | exact hH.g 13 rfl | exact hH.g 14 rfl | exact hH.g 15 rfl | exact hH.g 16 rfl | exact hH.g 17 rfl | exact hH.g 18 rfl) (by rfl) ?_
                    refine az_iconst d_Mo_packBlock_113 ?_
                    refine az_isub d_Mo_packBlock_114 ?_
                    refine az_iald d_Mo_packBlock_115 (by first | assumption | exact hH.g 0 rfl | exact hH.g 1 rfl | exact hH.g 2 rfl | exact hH.g 3 rfl | exact hH.g 4 rfl | exact hH.g 5 rfl | exact hH.g 6 rfl | exact hH.g 7 rfl | exact hH.g 8 rfl | exact hH.g 9 rfl | exact hH.g 10 rfl | exact hH.g 11 rfl | exact hH.g 12 rfl | exact hH.g 13 rfl | exact hH.g 14 rfl | exact hH.g 15 rfl | exact hH.g 16 rfl | exact hH.g 17 rfl | exact hH.g 18 rfl) (by omega) (by omega) (by omega) ?_
                    rw [hrow]
                    refine az_icmp_ne 128 d_Mo_packBlock_116 (by decide) (by omega) (by omega) (fun hne => ?_) (fun hne => ?_)
                    · rw [if_neg (fun q => hne q.2)] at hr
                      exact putc m (by omega)
                    · rw [if_pos ⟨by omega, hne⟩] at hr
                      refine az_iinc d_Mo_packBlock_119 rfl (by decide) rfl ?_
                      refine az_iinc d_Mo_packBlock_122 rfl (by decide) rfl ?_
                      refine ax_goto 84 d_Mo_packBlock_125 (by decide) ?_
                      exact ih2 (m + 1) (by omega) (by omega) (by rw [← hr, show i + 1 + (m + 1) = i + 1 + m + 1 by omega]; omega)
            exact inner 251 0 (by omega) (by omega) (by rw [Nat.zero_add, Nat.add_zero])
          · rw [if_neg (by omega)] at hs
            refine ax_goto 9 d_Mo_packBlock_79 (by decide) ?_
            refine ih (i + 1) a (ys ++ [gx xs i]) (up iz1 2 (iz1 2 + 1)) (upA ar1 3 (up (ar1 3) (iz1 2).toNat (gx xs i))) h (by omega) (by omega) (by omega) (by rw [hlen2]; omega) (fun _ => ⟨by omega, by rw [hlen2]; omega, by rw [hlen2]; exact hgl⟩) hH hF hki2 hka2 e22 hl2 ?_ _
            rw [List.append_assoc]
            exact hs
        refine ax_iload_n d_Mo_packBlock_17 rfl ?_
        refine az_if_le 47 d_Mo_packBlock_18 (by decide) (by first | exact bz_in _ | omega) (fun hal0 => ?_) (fun hal0 => ?_)
        · refine az_iconst d_Mo_packBlock_47 ?_
          exact rest 1 (by
            rw [alk]
            split <;> omega)
        · have hla := hlast (by omega)
          have hprev : ar1 3 (iz1 2 - 1).toNat = gx xs (i - 1) := by
            rw [e2, show ((ys.length : Int) - 1).toNat = ys.length - 1 by omega, hl _ (by omega)]
            exact hla.2.2
          have hgp := gx_Bs hbs (i - 1)
          refine ax_aload_n d_Mo_packBlock_21 rfl ?_
          refine ax_get d_Mo_packBlock_22 fg_Mo_7 (by first | assumption | exact hH.g 0 rfl | exact hH.g 1 rfl | exact hH.g 2 rfl | exact hH.g 3 rfl | exact hH.g 4 rfl | exact hH.g 5 rfl | exact hH.g 6 rfl | exact hH.g 7 rfl | exact hH.g 8 rfl | exact hH.g 9 rfl | exact hH.g 10 rfl | exact hH.g 11 rfl | exact hH.g 12 rfl | exact hH.g 13 rfl | exact hH.g 14 rfl | exact hH.g 15 rfl | exact hH.g 16 rfl | exact hH.g 17 rfl | exact hH.g 18 rfl) (by rfl) ?_
          refine ax_iload_n d_Mo_packBlock_25 rfl ?_
          refine az_iald d_Mo_packBlock_26 (by first | assumption | exact hH.g 0 rfl | exact hH.g 1 rfl | exact hH.g 2 rfl | exact hH.g 3 rfl | exact hH.g 4 rfl | exact hH.g 5 rfl | exact hH.g 6 rfl | exact hH.g 7 rfl | exact hH.g 8 rfl | exact hH.g 9 rfl | exact hH.g 10 rfl | exact hH.g 11 rfl | exact hH.g 12 rfl | exact hH.g 13 rfl | exact hH.g 14 rfl | exact hH.g 15 rfl | exact hH.g 16 rfl | exact hH.g 17 rfl | exact hH.g 18 rfl) (by omega) (by omega) (by omega) ?_
          rw [eb]
          refine ax_aload_n d_Mo_packBlock_27 rfl ?_
          refine ax_get d_Mo_packBlock_28 fg_Mo_13 (by first | assumption | exact hH.g 0 rfl | exact hH.g 1 rfl | exact hH.g 2 rfl | exact hH.g 3 rfl | exact hH.g 4 rfl | exact hH.g 5 rfl | exact hH.g 6 rfl | exact hH.g 7 rfl | exact hH.g 8 rfl | exact hH.g 9 rfl | exact hH.g 10 rfl | exact hH.g 11 rfl | exact hH.g 12 rfl | exact hH.g 13 rfl | exact hH.g 14 rfl | exact hH.g 15 rfl | exact hH.g 16 rfl | exact hH.g 17 rfl | exact hH.g 18 rfl) (by rfl) ?_
          refine ax_aload_n d_Mo_packBlock_31 rfl ?_
          refine ax_get d_Mo_packBlock_32 fg_Mo_87 (by first | assumption | exact hH.g 0 rfl | exact hH.g 1 rfl | exact hH.g 2 rfl | exact hH.g 3 rfl | exact hH.g 4 rfl | exact hH.g 5 rfl | exact hH.g 6 rfl | exact hH.g 7 rfl | exact hH.g 8 rfl | exact hH.g 9 rfl | exact hH.g 10 rfl | exact hH.g 11 rfl | exact hH.g 12 rfl | exact hH.g 13 rfl | exact hH.g 14 rfl | exact hH.g 15 rfl | exact hH.g 16 rfl | exact hH.g 17 rfl | exact hH.g 18 rfl) (by rfl) ?_
          refine az_iconst d_Mo_packBlock_35 ?_
          refine az_isub d_Mo_packBlock_36 ?_
          refine az_iald d_Mo_packBlock_37 (by first | assumption | exact hH.g 0 rfl | exact hH.g 1 rfl | exact hH.g 2 rfl | exact hH.g 3 rfl | exact hH.g 4 rfl | exact hH.g 5 rfl | exact hH.g 6 rfl | exact hH.g 7 rfl | exact hH.g 8 rfl | exact hH.g 9 rfl | exact hH.g 10 rfl | exact hH.g 11 rfl | exact hH.g 12 rfl | exact hH.g 13 rfl | exact hH.g 14 rfl | exact hH.g 15 rfl | exact hH.g 16 rfl | exact hH.g 17 rfl | exact hH.g 18 rfl) (by omega) (by omega) (by omega) ?_
          rw [hprev]
          refine az_icmp_ne 47 d_Mo_packBlock_38 (by decide) (by omega) (by omega) (fun hne => ?_) (fun hne => ?_)
          · refine az_iconst d_Mo_packBlock_47 ?_
            exact rest 1 (by
              rw [alk, if_neg]
              exact fun q => hne q.2)
          · refine ax_iload_n d_Mo_packBlock_41 rfl ?_
            refine az_iconst d_Mo_packBlock_42 ?_
            refine az_iadd d_Mo_packBlock_43 ?_
            refine ax_goto 48 d_Mo_packBlock_44 (by decide) ?_
            exact rest (al + 1) (by
              rw [alk, if_pos]
              exact ⟨by omega, hne⟩)
  exact key xs.length 0 0 [] (up iz 2 0) ar h (by omega) (by omega) (by omega) (by simp) (fun q => by omega) hH hF (KI.rf.up 2 _ rfl) KA.rf rfl (fun i hi => by simp at hi) rfl none
set_option maxRecDepth 100000 in
theorem c_Mo_pack {h0 : ax_H} {xs T out : List Int} {fp : Int} (hM : MoI h0 xs T out fp) : ax_Ci m_Mo_pack 1 [.ref 47] h0 (fun z h1 => z = (pk xs).length ∧ MoI h1 xs T out fp ∧ Fr MOS h0 h1) := by
  obtain ⟨iz, ar, hH, hQ⟩ := hM
  obtain ⟨q0, q1, q2, q3, -⟩ := id hQ
  refine ax_enter [some (.ref 47)] rfl (Nat.le_of_ble_eq_true rfl) (by decide) ?_
  refine ax_aload_n d_Mo_pack_0 rfl ?_
  refine ax_cV0 d_Mo_pack_1 v_Mo_packBlock lk_Mo_90 (by first | assumption | exact hH.g 0 rfl | exact hH.g 1 rfl | exact hH.g 2 rfl | exact hH.g 3 rfl | exact hH.g 4 rfl | exact hH.g 5 rfl | exact hH.g 6 rfl | exact hH.g 7 rfl | exact hH.g 8 rfl | exact hH.g 9 rfl | exact hH.g 10 rfl | exact hH.g 11 rfl | exact hH.g 12 rfl | exact hH.g 13 rfl | exact hH.g 14 rfl | exact hH.g 15 rfl | exact hH.g 16 rfl | exact hH.g 17 rfl | exact hH.g 18 rfl) (by decide) (Nat.le_of_ble_eq_true rfl) (cm_v (c_Mo_packBlock hH q0 q1 q2 q3) (fun h1 hq => ?_))
  obtain ⟨⟨iz1, ar1, hH1, hki, hka, e2, hl, hle⟩, hF1⟩ := hq
  have hH := hH1
  refine ax_aload_n d_Mo_pack_4 rfl ?_
  refine ax_get d_Mo_pack_5 fg_Mo_87 (by first | assumption | exact hH.g 0 rfl | exact hH.g 1 rfl | exact hH.g 2 rfl | exact hH.g 3 rfl | exact hH.g 4 rfl | exact hH.g 5 rfl | exact hH.g 6 rfl | exact hH.g 7 rfl | exact hH.g 8 rfl | exact hH.g 9 rfl | exact hH.g 10 rfl | exact hH.g 11 rfl | exact hH.g 12 rfl | exact hH.g 13 rfl | exact hH.g 14 rfl | exact hH.g 15 rfl | exact hH.g 16 rfl | exact hH.g 17 rfl | exact hH.g 18 rfl) (by rfl) ?_
  refine ax_iret d_Mo_pack_8 rfl ?_
  exact ⟨_, rfl, e2, ⟨iz1, ar1, hH1, hQ.fr hki hka rfl rfl⟩, hF1⟩
set_option maxRecDepth 100000 in
theorem c_Mo_packed {h0 : ax_H} {xs T out : List Int} {fp : Int} (hM : MoI h0 xs T out fp) {i : Int} (hi : -2147483648 ≤ i ∧ i < 2147483648) : ax_Ci m_Mo_packed 1 [.ref 47, .int (iv i)] h0 (fun z h1 => z = rAt (pk xs) i ∧ MoI h1 xs T out fp ∧ Fr MOS h0 h1) := by
  obtain ⟨iz, ar, hH, hQ⟩ := hM
  obtain ⟨q0, q1, q2, q3, -⟩ := id hQ
  unfold rAt
  refine ax_enter [some (.ref 47), some (.int (iv i))] rfl (Nat.le_of_ble_eq_true rfl) (by decide) ?_
  refine ax_aload_n d_Mo_packed_0 rfl ?_
  refine ax_cV0 d_Mo_packed_1 v_Mo_packBlock lk_Mo_90 (by first | assumption | exact hH.g 0 rfl | exact hH.g 1 rfl | exact hH.g 2 rfl | exact hH.g 3 rfl | exact hH.g 4 rfl | exact hH.g 5 rfl | exact hH.g 6 rfl | exact hH.g 7 rfl | exact hH.g 8 rfl | exact hH.g 9 rfl | exact hH.g 10 rfl | exact hH.g 11 rfl | exact hH.g 12 rfl | exact hH.g 13 rfl | exact hH.g 14 rfl | exact hH.g 15 rfl | exact hH.g 16 rfl | exact hH.g 17 rfl | exact hH.g 18 rfl) (by decide) (Nat.le_of_ble_eq_true rfl) (cm_v (c_Mo_packBlock hH q0 q1 q2 q3) (fun h1 hq => ?_))
  obtain ⟨⟨iz1, ar1, hH1, hki, hka, e2, hl, hle⟩, hF1⟩ := hq
  have hH := hH1
  have hM1 : MoI h1 xs T out fp := ⟨iz1, ar1, hH1, hQ.fr hki hka rfl rfl⟩
  refine ax_iload_n d_Mo_packed_4 rfl ?_
  refine aj_i2l d_Mo_packed_5 (by omega) ?_
  refine aj_lconst 0 d_Mo_packed_6 rfl ?_
  refine ax_aload_n d_Mo_packed_7 rfl ?_
  refine ax_get d_Mo_packed_8 fg_Mo_87 (by first | assumption | exact hH.g 0 rfl | exact hH.g 1 rfl | exact hH.g 2 rfl | exact hH.g 3 rfl | exact hH.g 4 rfl | exact hH.g 5 rfl | exact hH.g 6 rfl | exact hH.g 7 rfl | exact hH.g 8 rfl | exact hH.g 9 rfl | exact hH.g 10 rfl | exact hH.g 11 rfl | exact hH.g 12 rfl | exact hH.g 13 rfl | exact hH.g 14 rfl | exact hH.g 15 rfl | exact hH.g 16 rfl | exact hH.g 17 rfl | exact hH.g 18 rfl) (by rfl) ?_
  refine az_iconst d_Mo_packed_11 ?_
  refine az_isub d_Mo_packed_12 ?_
  refine aj_i2l d_Mo_packed_13 (by omega) ?_
  refine ax_cS3 d_Mo_packed_14 s_Mo_isIn lk_Mo_72 (by decide) (Nat.le_of_ble_eq_true rfl) (cm_z (c_Mo_isIn (v := i) (a := 0) (b := iz1 2 - 1) (by omega) (by omega) (by omega)) (fun b h2 hq => ?_))
  obtain ⟨rfl, rfl⟩ := hq
  refine az_if_eq 29 d_Mo_packed_17 (by decide) (bz_in _) (fun hcb => ?_) (fun hcb => ?_)
  · have hin := of_decide_eq_false (bz_f hcb)
    rw [if_neg (by omega)]
    refine az_bipush _ d_Mo_packed_29 (by decide) ?_
    refine ax_iret d_Mo_packed_31 rfl ?_
    exact ⟨_, rfl, rfl, hM1, hF1⟩
  · have hin := of_decide_eq_true (bz_t hcb)
    rw [if_pos (by omega)]
    refine ax_aload_n d_Mo_packed_20 rfl ?_
    refine ax_get d_Mo_packed_21 fg_Mo_13 (by first | assumption | exact hH.g 0 rfl | exact hH.g 1 rfl | exact hH.g 2 rfl | exact hH.g 3 rfl | exact hH.g 4 rfl | exact hH.g 5 rfl | exact hH.g 6 rfl | exact hH.g 7 rfl | exact hH.g 8 rfl | exact hH.g 9 rfl | exact hH.g 10 rfl | exact hH.g 11 rfl | exact hH.g 12 rfl | exact hH.g 13 rfl | exact hH.g 14 rfl | exact hH.g 15 rfl | exact hH.g 16 rfl | exact hH.g 17 rfl | exact hH.g 18 rfl) (by rfl) ?_
    refine ax_iload_n d_Mo_packed_24 rfl ?_
    refine az_iald d_Mo_packed_25 (by first | assumption | exact hH.g 0 rfl | exact hH.g 1 rfl | exact hH.g 2 rfl | exact hH.g 3 rfl | exact hH.g 4 rfl | exact hH.g 5 rfl | exact hH.g 6 rfl | exact hH.g 7 rfl | exact hH.g 8 rfl | exact hH.g 9 rfl | exact hH.g 10 rfl | exact hH.g 11 rfl | exact hH.g 12 rfl | exact hH.g 13 rfl | exact hH.g 14 rfl | exact hH.g 15 rfl | exact hH.g 16 rfl | exact hH.g 17 rfl | exact hH.g 18 rfl) (by omega) (by omega) (by omega) ?_
    refine ax_goto 31 d_Mo_packed_26 (by decide) ?_
    refine ax_iret d_Mo_packed_31 rfl ?_
    exact ⟨_, rfl, hl _ (by omega), hM1, hF1⟩
