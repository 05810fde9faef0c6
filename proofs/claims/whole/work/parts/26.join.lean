/-! Joiner: joinTwo, measureDepths, findLengths -/
/-- the heap holds the keys of what is there -/
def JnR (h : ax_H) (n : Nat) (st : HSt) (all m : Nat) (dp : Nat → Int) : Prop := ∃ hp nd pr : Nat → Int, Hs h (JnL m hp nd pr dp) ∧ hok hp m ∧ jin hp m ∧ (∀ v, inH hp m v ↔ ∃ k : Nat, k < all ∧ st.2.2 k < 0 ∧ keyH st k = v) ∧ (∀ k : Nat, k < all → st.2.2 k < 0 → nd (st.2.1 k).toNat = k) ∧ (∀ k : Nat, k < all → 0 ≤ st.2.2 k → pr k = st.2.2 k)
theorem keyH_lt {st : HSt} {a j : Nat} (h1 : 0 ≤ st.2.1 a ∧ st.2.1 a < 512) (h2 : 0 ≤ st.2.1 j ∧ st.2.1 j < 512) : keyH st a ≤ keyH st j ↔ st.1 a < st.1 j ∨ (st.1 a = st.1 j ∧ st.2.1 a ≤ st.2.1 j) := by
  unfold keyH
  omega
set_option maxRecDepth 100000 in
set_option maxHeartbeats 4000000 in
theorem c_Jn_joinTwo {h0 : ax_H} {n all m : Nat} {T : Int} {st : HSt} {dp : Nat → Int} (hn : n ≤ 258) (hI : HI n T st all) (hm : fsum (ai st) all = m) (hm2 : 2 ≤ m) (hT : T ≤ 1000000) (hR : JnR h0 n st all m dp) (hall : all < 516) (hnall : n ≤ all) :
    ax_Cv m_Jn_joinTwo 1 [.ref 23, .int (iv all)] h0 (fun h1 => JnR h1 n (stp st all) (all + 1) (m - 1) dp ∧ Fr JS h0 h1) := by
  obtain ⟨a, b, ha, hb, hab, ea, eb, hua, hub, hma, hmb⟩ := lgt_two hI (by rw [hm]; omega)
  have hI2 := hI
  obtain ⟨hU, hL, hW, hd, hc, hTs⟩ := hI
  obtain ⟨hp, nd, pr, hH, hk, hj, hS, hN, hP⟩ := hR
  have hawn : ∀ i : Nat, i < all → 0 ≤ aw st i := by
    intro i hi
    unfold aw
    have := hW i hi
    split <;> omega
  have hawa : aw st a = st.1 a := by unfold aw; rw [if_pos hua]
  have hawb : aw st b = st.1 b := by unfold aw; rw [if_pos hub]
  have hab2 := fsum_ge2 hawn ha hb hab
  rw [hawa, hawb, hTs] at hab2
  have hWb : ∀ k : Nat, k < all → st.2.2 k < 0 → st.1 k ≤ 1000000 := by
    intro k hk hu
    have h1 := fsum_ge hawn hk
    have h2 : aw st k = st.1 k := by unfold aw; rw [if_pos hu]
    rw [h2, hTs] at h1
    omega
  have hkr : ∀ k : Nat, k < all → st.2.2 k < 0 → 0 ≤ keyH st k ∧ keyH st k < 2147483648 := by
    intro k hk hu
    have := hWb k hk hu
    have := hW k hk
    have := hL k hk
    unfold keyH
    omega
  have hr : rgH hp m := by
    intro i hi
    obtain ⟨k, h1, h2, h3⟩ := (hS (hp i)).mp ⟨i, hi, rfl⟩
    rw [← h3]
    exact hkr k h1 h2
  have hmle : m ≤ 258 := by omega
  have hLa := hL a ha
  have hLb := hL b hb
  have hWa := hW a ha
  have hWb1 := hW b hb
  have hWa2 := hWb a ha hua
  have hWb2 := hWb b hb hub
  -- the least key is a's
  have hmin : hp 0 = keyH st a := by
    obtain ⟨i, hi, e⟩ := (hS (keyH st a)).mpr ⟨a, ha, hua, rfl⟩
    have h1 := hok_min hk i hi
    obtain ⟨k, h2, h3, h4⟩ := (hS (hp 0)).mp ⟨0, by omega, rfl⟩
    have h5 := (keyH_lt (a := a) (j := k) (by omega) (by have := hL k h2; omega)).mpr (hma k h2 h3)
    omega
  have hsz := hH.g 0 rfl
  refine ax_enter [some (.ref 23), some (.int (iv all)), none, none, none, none] rfl (Nat.le_of_ble_eq_true rfl) (by decide) ?_
  refine ax_aload_n d_Jn_joinTwo_0 rfl ?_
  refine ax_cV0 d_Jn_joinTwo_1 v_Jn_pop lk_Jn_39 (by first | assumption | exact hH.g 0 rfl | exact hH.g 1 rfl | exact hH.g 2 rfl | exact hH.g 3 rfl | exact hH.g 4 rfl) (by decide) (Nat.le_of_ble_eq_true rfl) (cm_i (c_Jn_pop hH (by omega) hmle hk hj hr) (fun z1 h1 hp1 => ?_))
  obtain ⟨rfl, ⟨hq, hHq, hkq, hjq, hSq⟩, hF1⟩ := hp1
  rw [hmin]
  have hS1 : ∀ v, inH hq (m - 1) v ↔ ∃ k : Nat, k < all ∧ st.2.2 k < 0 ∧ k ≠ a ∧ keyH st k = v := by
    intro v
    rw [hSq v, hS v, hmin]
    constructor
    · rintro ⟨⟨k, e1, e2, e3⟩, e4⟩
      exact ⟨k, e1, e2, fun w => e4 (by rw [← e3, w]), e3⟩
    · rintro ⟨k, e1, e2, e3, e4⟩
      refine ⟨⟨k, e1, e2, e4⟩, fun w => e3 (hd k a e1 ha e2 hua ?_)⟩
      have := hL k e1
      rw [← e4] at w
      unfold keyH at w
      omega
  have hrq : rgH hq (m - 1) := by
    intro i hi
    obtain ⟨k, e1, e2, -, e3⟩ := (hS1 (hq i)).mp ⟨i, hi, rfl⟩
    rw [← e3]
    exact hkr k e1 e2
  have hmin2 : hq 0 = keyH st b := by
    obtain ⟨i, hi, e⟩ := (hS1 (keyH st b)).mpr ⟨b, hb, hub, Ne.symm hab, rfl⟩
    have h1 := hok_min hkq i hi
    obtain ⟨k, h2, h3, h3a, h4⟩ := (hS1 (hq 0)).mp ⟨0, by omega, rfl⟩
    have h5 := (keyH_lt (a := b) (j := k) (by omega) (by have := hL k h2; omega)).mpr (hmb k h2 h3 h3a)
    omega
  refine ax_istore_n d_Jn_joinTwo_4 (by decide) rfl ?_
  refine ax_aload_n d_Jn_joinTwo_5 rfl ?_
  have hH := hHq
  refine ax_cV0 d_Jn_joinTwo_6 v_Jn_pop lk_Jn_39 (by first | assumption | exact hH.g 0 rfl | exact hH.g 1 rfl | exact hH.g 2 rfl | exact hH.g 3 rfl | exact hH.g 4 rfl) (by decide) (Nat.le_of_ble_eq_true rfl) (cm_i (c_Jn_pop hHq (by omega) (by omega) hkq hjq hrq) (fun z2 h2 hp2 => ?_))
  obtain ⟨rfl, ⟨hq2, hHq2, hkq2, hjq2, hSq2⟩, hF2⟩ := hp2
  rw [hmin2]
  have hS2 : ∀ v, inH hq2 (m - 1 - 1) v ↔ ∃ k : Nat, k < all ∧ st.2.2 k < 0 ∧ k ≠ a ∧ k ≠ b ∧ keyH st k = v := by
    intro v
    rw [hSq2 v, hS1 v, hmin2]
    constructor
    · rintro ⟨⟨k, e1, e2, e3, e4⟩, e5⟩
      exact ⟨k, e1, e2, e3, fun w => e5 (by rw [← e4, w]), e4⟩
    · rintro ⟨k, e1, e2, e3, e4, e5⟩
      refine ⟨⟨k, e1, e2, e3, e5⟩, fun w => e4 (hd k b e1 hb e2 hub ?_)⟩
      have := hL k e1
      rw [← e5] at w
      unfold keyH at w
      omega
  -- the parts of the two keys
  obtain ⟨wa, hwa⟩ := Int.eq_ofNat_of_zero_le (show 0 ≤ st.1 a by omega)
  obtain ⟨wb, hwb⟩ := Int.eq_ofNat_of_zero_le (show 0 ≤ st.1 b by omega)
  obtain ⟨la', hla⟩ := Int.eq_ofNat_of_zero_le hLa.1
  obtain ⟨lb', hlb⟩ := Int.eq_ofNat_of_zero_le hLb.1
  have ka : keyH st a = ((wa * 512 + la' : Nat) : Int) := by unfold keyH; rw [hwa, hla]; omega
  have kb : keyH st b = ((wb * 512 + lb' : Nat) : Int) := by unfold keyH; rw [hwb, hlb]; omega
  have za := zand_key (w := wa) (l := la') (by omega) (by omega)
  have zb := zand_key (w := wb) (l := lb') (by omega) (by omega)
  have ra := zshr_key (w := wa) (l := la') (by omega) (by omega)
  have rb := zshr_key (w := wb) (l := lb') (by omega) (by omega)
  have hna := hN a ha hua
  have hnb := hN b hb hub
  rw [hla, Int.toNat_natCast] at hna
  rw [hlb, Int.toNat_natCast] at hnb
  rw [ka, kb]
  have hF : Fr JS h0 h2 := hF1.tr hF2
  have hH := hHq2
  refine ax_istore_n d_Jn_joinTwo_9 (by decide) rfl ?_
  refine ax_iload_n d_Jn_joinTwo_10 rfl ?_
  refine az_sipush _ d_Jn_joinTwo_11 (by decide) ?_
  refine az_iand d_Jn_joinTwo_14 ?_
  rw [za]
  refine ax_iload_n d_Jn_joinTwo_15 rfl ?_
  refine az_sipush _ d_Jn_joinTwo_16 (by decide) ?_
  refine az_iand d_Jn_joinTwo_19 ?_
  rw [zb]
  refine az_mmin d_Jn_joinTwo_20 lk_Jn_43 (by decide) (Nat.le_of_ble_eq_true rfl) (by omega) (by omega) ?_
  refine ax_istore d_Jn_joinTwo_23 (by decide) rfl ?_
  refine ax_aload_n d_Jn_joinTwo_25 rfl ?_
  refine ax_get d_Jn_joinTwo_26 fg_Jn_18 (by first | assumption | exact hH.g 0 rfl | exact hH.g 1 rfl | exact hH.g 2 rfl | exact hH.g 3 rfl | exact hH.g 4 rfl) (by rfl) ?_
  refine ax_aload_n d_Jn_joinTwo_29 rfl ?_
  refine ax_get d_Jn_joinTwo_30 fg_Jn_15 (by first | assumption | exact hH.g 0 rfl | exact hH.g 1 rfl | exact hH.g 2 rfl | exact hH.g 3 rfl | exact hH.g 4 rfl) (by rfl) ?_
  refine ax_iload_n d_Jn_joinTwo_33 rfl ?_
  refine az_sipush _ d_Jn_joinTwo_34 (by decide) ?_
  refine az_iand d_Jn_joinTwo_37 ?_
  rw [za]
  refine az_iald d_Jn_joinTwo_38 (by first | assumption | exact hH.g 0 rfl | exact hH.g 1 rfl | exact hH.g 2 rfl | exact hH.g 3 rfl | exact hH.g 4 rfl) (by omega) (by omega) (by omega) ?_
  rw [Int.toNat_natCast, hna]
  refine ax_iload_n d_Jn_joinTwo_39 rfl ?_
  first | refine ah_iast d_Jn_joinTwo_40 hH hF 0 rfl rfl (by omega) (by omega) (by omega) (by omega) (fun h hH hF => ?_) | refine ah_iast d_Jn_joinTwo_40 hH hF 1 rfl rfl (by omega) (by omega) (by omega) (by omega) (fun h hH hF => ?_) | refine ah_iast d_Jn_joinTwo_40 hH hF 2 rfl rfl (by omega) (by omega) (by omega) (by omega) (fun h hH hF => ?_) | refine ah_iast d_Jn_joinTwo_40 hH hF 3 rfl rfl (by omega) (by omega) (by omega) (by omega) (fun h hH hF => ?_) | refine ah_iast d_Jn_joinTwo_40 hH hF 4 rfl rfl (by omega) (by omega) (by omega) (by omega) (fun h hH hF => ?_)
  refine ax_aload_n d_Jn_joinTwo_41 rfl ?_
  refine ax_get d_Jn_joinTwo_42 fg_Jn_18 (by first | assumption | exact hH.g 0 rfl | exact hH.g 1 rfl | exact hH.g 2 rfl | exact hH.g 3 rfl | exact hH.g 4 rfl) (by rfl) ?_
  refine ax_aload_n d_Jn_joinTwo_45 rfl ?_
  refine ax_get d_Jn_joinTwo_46 fg_Jn_15 (by first | assumption | exact hH.g 0 rfl | exact hH.g 1 rfl | exact hH.g 2 rfl | exact hH.g 3 rfl | exact hH.g 4 rfl) (by rfl) ?_
  refine ax_iload_n d_Jn_joinTwo_49 rfl ?_
  refine az_sipush _ d_Jn_joinTwo_50 (by decide) ?_
  refine az_iand d_Jn_joinTwo_53 ?_
  rw [zb]
  refine az_iald d_Jn_joinTwo_54 (by first | assumption | exact hH.g 0 rfl | exact hH.g 1 rfl | exact hH.g 2 rfl | exact hH.g 3 rfl | exact hH.g 4 rfl) (by omega) (by omega) (by omega) ?_
  rw [Int.toNat_natCast, hnb]
  refine ax_iload_n d_Jn_joinTwo_55 rfl ?_
  first | refine ah_iast d_Jn_joinTwo_56 hH hF 0 rfl rfl (by omega) (by omega) (by omega) (by omega) (fun h hH hF => ?_) | refine ah_iast d_Jn_joinTwo_56 hH hF 1 rfl rfl (by omega) (by omega) (by omega) (by omega) (fun h hH hF => ?_) | refine ah_iast d_Jn_joinTwo_56 hH hF 2 rfl rfl (by omega) (by omega) (by omega) (by omega) (fun h hH hF => ?_) | refine ah_iast d_Jn_joinTwo_56 hH hF 3 rfl rfl (by omega) (by omega) (by omega) (by omega) (fun h hH hF => ?_) | refine ah_iast d_Jn_joinTwo_56 hH hF 4 rfl rfl (by omega) (by omega) (by omega) (by omega) (fun h hH hF => ?_)
  refine ax_aload_n d_Jn_joinTwo_57 rfl ?_
  refine ax_get d_Jn_joinTwo_58 fg_Jn_15 (by first | assumption | exact hH.g 0 rfl | exact hH.g 1 rfl | exact hH.g 2 rfl | exact hH.g 3 rfl | exact hH.g 4 rfl) (by rfl) ?_
  refine ax_iload d_Jn_joinTwo_61 rfl ?_
  refine ax_iload_n d_Jn_joinTwo_63 rfl ?_
  first | refine ah_iast d_Jn_joinTwo_64 hH hF 0 rfl rfl (by omega) (by omega) (by omega) (by omega) (fun h hH hF => ?_) | refine ah_iast d_Jn_joinTwo_64 hH hF 1 rfl rfl (by omega) (by omega) (by omega) (by omega) (fun h hH hF => ?_) | refine ah_iast d_Jn_joinTwo_64 hH hF 2 rfl rfl (by omega) (by omega) (by omega) (by omega) (fun h hH hF => ?_) | refine ah_iast d_Jn_joinTwo_64 hH hF 3 rfl rfl (by omega) (by omega) (by omega) (by omega) (fun h hH hF => ?_) | refine ah_iast d_Jn_joinTwo_64 hH hF 4 rfl rfl (by omega) (by omega) (by omega) (by omega) (fun h hH hF => ?_)
  refine ax_iload_n d_Jn_joinTwo_65 rfl ?_
  refine az_bipush _ d_Jn_joinTwo_66 (by decide) ?_
  refine az_ishr d_Jn_joinTwo_68 ?_
  rw [ra]
  refine ax_iload_n d_Jn_joinTwo_69 rfl ?_
  refine az_bipush _ d_Jn_joinTwo_70 (by decide) ?_
  refine az_ishr d_Jn_joinTwo_72 ?_
  rw [rb]
  refine az_iadd d_Jn_joinTwo_73 ?_
  refine ax_istore d_Jn_joinTwo_74 (by decide) rfl ?_
  refine ax_aload_n d_Jn_joinTwo_76 rfl ?_
  refine ax_iload d_Jn_joinTwo_77 rfl ?_
  refine az_bipush _ d_Jn_joinTwo_79 (by decide) ?_
  refine az_ishl d_Jn_joinTwo_81 ?_
  refine ax_iload d_Jn_joinTwo_82 rfl ?_
  refine az_ior d_Jn_joinTwo_84 ?_
  have ew : (wa : Int) + (wb : Int) = ((wa + wb : Nat) : Int) := by omega
  have em : min (la' : Int) (lb' : Int) = ((min la' lb' : Nat) : Int) := by omega
  rw [em] at hH ⊢
  rw [ew, zor_key (by omega) (by omega)]
  rw [Int.toNat_natCast, Int.toNat_natCast, Int.toNat_natCast] at hH
  have hfresh : ¬ inH hq2 (m - 1 - 1) (((wa + wb) * 512 + min la' lb' : Nat) : Int) := by
    intro w
    obtain ⟨k, e1, e2, e3, e4, e5⟩ := (hS2 _).mp w
    have h9 := hL k e1
    have h8 := hW k e1
    have : st.2.1 k = ((min la' lb' : Nat) : Int) := by unfold keyH at e5; omega
    by_cases q : la' ≤ lb'
    · exact e3 (hd k a e1 ha e2 hua (by rw [this, hla]; omega))
    · exact e4 (hd k b e1 hb e2 hub (by rw [this, hlb]; omega))
  have hrq2 : rgH hq2 (m - 1 - 1) := by
    intro i hi
    obtain ⟨k, e1, e2, -, -, e3⟩ := (hS2 (hq2 i)).mp ⟨i, hi, rfl⟩
    rw [← e3]
    exact hkr k e1 e2
  refine ax_cV1 d_Jn_joinTwo_85 v_Jn_push lk_Jn_28 (hH.g 0 rfl) (by decide) (Nat.le_of_ble_eq_true rfl) (cm_v (c_Jn_push (s := m - 1 - 1) hH (by omega) hkq2 hjq2 hrq2 (key := (((wa + wb) * 512 + min la' lb' : Nat) : Int)) (by omega) hfresh) (fun h3 hp3 => ?_))
  obtain ⟨⟨hq3, hH3, hk3, hj3, hS3⟩, hF3⟩ := hp3
  refine ax_vret d_Jn_joinTwo_88 rfl ?_
  refine ⟨rfl, ?_, hF.tr hF3⟩
  rw [stp_of ea eb]
  have em2 : m - 1 - 1 + 1 = m - 1 := by omega
  rw [em2] at hH3 hk3 hj3 hS3
  have uU : ∀ k : Nat, k < all → (up (up (up st.2.2 all (-1)) a all) b all) k = if k = a ∨ k = b then (all : Int) else st.2.2 k := by
    intro k hk
    by_cases e1 : k = b
    · rw [e1, up_at, if_pos (Or.inr rfl)]
    · rw [up_ne e1]
      by_cases e2 : k = a
      · rw [e2, up_at, if_pos (Or.inl rfl)]
      · rw [up_ne e2, up_ne (by omega), if_neg (by omega)]
  have uA : (up (up (up st.2.2 all (-1)) a all) b all) all = -1 := by rw [up_ne (by omega), up_ne (by omega), up_at]
  have eL : (if st.2.1 a < st.2.1 b then st.2.1 a else st.2.1 b) = ((min la' lb' : Nat) : Int) := by
    rw [hla, hlb]
    split <;> omega
  have old : ∀ k : Nat, k < all → (up (up (up st.2.2 all (-1)) a all) b all) k < 0 → st.2.2 k < 0 ∧ k ≠ a ∧ k ≠ b := by
    intro k hk hu
    rw [uU k hk] at hu
    split at hu
    · omega
    · rename_i hn
      exact ⟨hu, fun w => hn (Or.inl w), fun w => hn (Or.inr w)⟩
  rw [eL]
  refine ⟨hq3, _, _, hH3, hk3, hj3, fun v => ?_, fun k hk hu => ?_, fun k hk hu => ?_⟩
  · rw [hS3 v, hS2 v]
    constructor
    · rintro (⟨k, e1, e2, e3, e4, e5⟩ | e)
      · refine ⟨k, by omega, ?_, ?_⟩
        · show (up (up (up st.2.2 all (-1)) a all) b all) k < 0
          rw [uU k e1, if_neg (by omega)]
          exact e2
        · unfold keyH
          show up st.1 all _ k * 512 + up st.2.1 all _ k = v
          rw [up_ne (by omega), up_ne (by omega)]
          exact e5
      · refine ⟨all, by omega, ?_, ?_⟩
        · show (up (up (up st.2.2 all (-1)) a all) b all) all < 0
          rw [uA]; omega
        · unfold keyH
          show up st.1 all _ all * 512 + up st.2.1 all _ all = v
          rw [up_at, up_at, e, hwa, hwb]
          omega
    · rintro ⟨k, e1, e2, e3⟩
      have e2 : (up (up (up st.2.2 all (-1)) a all) b all) k < 0 := e2
      have e3 : up st.1 all (st.1 a + st.1 b) k * 512 + up st.2.1 all ((min la' lb' : Nat) : Int) k = v := e3
      by_cases ek : k = all
      · right
        rw [ek, up_at, up_at, hwa, hwb] at e3
        omega
      · obtain ⟨o1, o2, o3⟩ := old k (by omega) e2
        rw [up_ne ek, up_ne ek] at e3
        exact Or.inl ⟨k, by omega, o1, o2, o3, e3⟩
  · have hu : (up (up (up st.2.2 all (-1)) a all) b all) k < 0 := hu
    show up nd (min la' lb') all (up st.2.1 all ((min la' lb' : Nat) : Int) k).toNat = k
    by_cases ek : k = all
    · rw [ek, up_at, Int.toNat_natCast, up_at]
    · obtain ⟨o1, o2, o3⟩ := old k (by omega) hu
      have h9 := hL k (by omega)
      rw [up_ne ek, up_ne]
      · exact hN k (by omega) o1
      · intro w
        by_cases q : la' ≤ lb'
        · exact o2 (hd k a (by omega) ha o1 hua (by rw [hla]; omega))
        · exact o3 (hd k b (by omega) hb o1 hub (by rw [hlb]; omega))
  · have hu : 0 ≤ (up (up (up st.2.2 all (-1)) a all) b all) k := hu
    show up (up pr a all) b all k = (up (up (up st.2.2 all (-1)) a all) b all) k
    by_cases ek : k = all
    · rw [ek, uA] at hu; omega
    · rw [uU k (by omega)] at hu ⊢
      by_cases e1 : k = b
      · rw [e1, up_at, if_pos (Or.inr rfl)]
      · rw [up_ne e1]
        by_cases e2 : k = a
        · rw [e2, up_at, if_pos (Or.inl rfl)]
        · rw [up_ne e2]
          rw [if_neg (show ¬ (k = a ∨ k = b) by omega)] at hu ⊢
          exact hP k (by omega) hu
set_option maxRecDepth 100000 in
set_option maxHeartbeats 4000000 in
theorem c_Jn_measureDepths {h0 : ax_H} {n all s ld lcap : Nat} {U hp nd pr dp lg : Nat → Int} (hH : Hs h0 (JnL s hp nd pr dp)) (hLg : h0[ld]? = some (ia lcap lg)) (hld : JS.contains ld = false) (hld0 : 0 < ld) (hlc : n ≤ lcap) (hlc2 : lcap ≤ 3000) (hn : 0 < n) (hna : n ≤ all) (hall : all ≤ 516) (hU : ∀ k : Nat, k < all → U k = -1 ∨ ((k : Int) < U k ∧ U k < all)) (hroot : ∀ k : Nat, k < all → (U k < 0 ↔ k = all - 1)) (hP : ∀ k : Nat, k < all → 0 ≤ U k → pr k = U k) :
    ax_Ci m_Jn_measureDepths 1 [.ref 23, .int (iv n), .int (iv all), .ref ld] h0 (fun z h1 => (∃ dp', Hs h1 (JnL s hp nd pr dp')) ∧ (∃ lg', h1[ld]? = some (ia lcap lg') ∧ ∀ k : Nat, k < n → lg' k = dpt U all k) ∧ (z ≤ 12 ↔ ∀ k : Nat, k < n → dpt U all k ≤ 12) ∧ (-2147483648 ≤ z ∧ z < 2147483648) ∧ Fr (ld :: JS) h0 h1) := by
  have hSl : (ld :: JS).contains ld = true := by simp
  have hS27 : (ld :: JS).contains 27 = true := by simp
  have hne : ∀ a : Nat, JS.contains a = true → a ≠ ld := fun a h w => by rw [w, hld] at h; cases h
  have dle : ∀ (f k : Nat), 0 ≤ dpt U f k ∧ dpt U f k ≤ f := by
    intro f
    induction f with
    | zero => intro k; exact ⟨Int.le_refl _, Int.le_refl _⟩
    | succ f ih =>
      intro k
      rw [dpt]
      have := ih (U k).toNat
      split <;> omega
  have dstep : ∀ k : Nat, k < all → k ≠ all - 1 → dpt U all k = dpt U all (U k).toNat + 1 := by
    intro k hk hne
    have h1 := hU k hk
    have h2 := hroot k hk
    have h3 : ¬ U k < 0 := fun w => hne (h2.mp w)
    rw [dpt_fuel hU all (all + 1) k hk (by omega) (by omega), dpt, if_neg h3]
    omega
  have droot : dpt U all (all - 1) = 0 := by
    have h2 := hroot (all - 1) (by omega)
    rw [dpt_fuel hU all (all + 1) (all - 1) (by omega) (by omega) (by omega), dpt, if_pos (h2.mpr rfl)]
  refine ax_enter [some (.ref 23), some (.int (iv n)), some (.int (iv all)), some (.ref ld), none, none] rfl (Nat.le_of_ble_eq_true rfl) (by decide) ?_
  refine az_iconst d_Jn_measureDepths_0 ?_
  refine ax_istore d_Jn_measureDepths_1 (by decide) rfl ?_
  refine ax_iload_n d_Jn_measureDepths_3 rfl ?_
  refine az_iconst d_Jn_measureDepths_4 ?_
  refine az_isub d_Jn_measureDepths_5 ?_
  refine ax_istore d_Jn_measureDepths_6 (by decide) rfl ?_
  have e1 : (all : Int) - 1 = ((all : Nat) : Int) - 1 := rfl
  have hH6 : Hs h0 ((ld, ia lcap lg) :: JnL s hp nd pr dp) := Hs.c hLg (by
    show ([23, 24, 25, 26, 27] : List Nat).contains ld = false
    exact hld) hH
  have loop : ∀ (i : Nat) (h : ax_H) (dp lg : Nat → Int) (z : Int), i ≤ all → Hs h ((ld, ia lcap lg) :: JnL s hp nd pr dp) → Fr (ld :: JS) h0 h → (∀ k : Nat, i ≤ k → k < all → dp k = dpt U all k) → (∀ k : Nat, i ≤ k → k < n → lg k = dpt U all k) → (0 ≤ z ∧ z ≤ 600) → (z ≤ 12 ↔ ∀ k : Nat, i ≤ k → k < n → dpt U all k ≤ 12) →
      ax_W m_Jn_measureDepths 1 8 [some (.ref 23), some (.int (iv n)), some (.int (iv all)), some (.ref ld), some (.int (iv z)), some (.int (iv ((i : Int) - 1)))] [] h (fun r h1 => ∃ z : Int, r = some (.int (iv z)) ∧ (∃ dp', Hs h1 (JnL s hp nd pr dp')) ∧ (∃ lg', h1[ld]? = some (ia lcap lg') ∧ ∀ k : Nat, k < n → lg' k = dpt U all k) ∧ (z ≤ 12 ↔ ∀ k : Nat, k < n → dpt U all k ≤ 12) ∧ (-2147483648 ≤ z ∧ z < 2147483648) ∧ Fr (ld :: JS) h0 h1) := by
    intro i
    induction i with
    | zero =>
      intro h dp lg z hi hH hF hd hl hz hz2
      refine ax_iload d_Jn_measureDepths_8 rfl ?_
      refine az_if_lt 83 d_Jn_measureDepths_10 (by decide) (by first | exact bz_in _ | omega) (fun hc => ?_) (fun hc => ?_)
      · refine ax_iload d_Jn_measureDepths_83 rfl ?_
        refine ax_iret d_Jn_measureDepths_85 rfl ?_
        refine ⟨z, rfl, ⟨dp, fun i a c e => hH.1 (i + 1) a c e, fun i j a c c' e1 e2 => ?_⟩, ⟨lg, hH.g 0 rfl, fun k hk => hl k (by omega) hk⟩, ⟨fun w k hk => (hz2.mp w) k (by omega) hk, fun w => hz2.mpr (fun k _ hk => w k hk)⟩, by omega, hF⟩
        have := hH.2 (i + 1) (j + 1) a c c' e1 e2
        omega
      · exfalso
        omega
    | succ i ih =>
      intro h dp lg z hi hH hF hd hl hz hz2
      have ei : (((i + 1 : Nat) : Int) - 1) = (i : Int) := by omega
      rw [ei]
      have hdi := dle all i
      refine ax_iload d_Jn_measureDepths_8 rfl ?_
      refine az_if_lt 83 d_Jn_measureDepths_10 (by decide) (by first | exact bz_in _ | omega) (fun hc => ?_) (fun hc => ?_)
      · exfalso
        omega
      · refine ax_aload_n d_Jn_measureDepths_13 rfl ?_
        refine ax_get d_Jn_measureDepths_14 fg_Jn_21 (by first | assumption | exact hH.g 0 rfl | exact hH.g 1 rfl | exact hH.g 2 rfl | exact hH.g 3 rfl | exact hH.g 4 rfl | exact hH.g 5 rfl) (by rfl) ?_
        refine ax_iload d_Jn_measureDepths_17 rfl ?_
        -- behind the choice
        have rest : ax_W m_Jn_measureDepths 1 45 [some (.ref 23), some (.int (iv n)), some (.int (iv all)), some (.ref ld), some (.int (iv z)), some (.int (iv i))] [.int (iv (dpt U all i)), .int (iv i), .ref 27] h (fun r h1 => ∃ z : Int, r = some (.int (iv z)) ∧ (∃ dp', Hs h1 (JnL s hp nd pr dp')) ∧ (∃ lg', h1[ld]? = some (ia lcap lg') ∧ ∀ k : Nat, k < n → lg' k = dpt U all k) ∧ (z ≤ 12 ↔ ∀ k : Nat, k < n → dpt U all k ≤ 12) ∧ (-2147483648 ≤ z ∧ z < 2147483648) ∧ Fr (ld :: JS) h0 h1) := by
          refine ah_iast d_Jn_measureDepths_45 hH hF 5 rfl hS27 (by decide) (by omega) (by omega) (by omega) (fun h hH hF => ?_)
          rw [Int.toNat_natCast] at hH
          have hH : Hs h ((ld, ia lcap lg) :: JnL s hp nd pr (up dp i (dpt U all i))) := hH
          have hdn : ∀ k : Nat, i ≤ k → k < all → up dp i (dpt U all i) k = dpt U all k := by
            intro k h1 h2
            by_cases e : k = i
            · rw [e, up_at]
            · rw [up_ne e]; exact hd k (by omega) h2
          refine ax_iload d_Jn_measureDepths_46 rfl ?_
          refine ax_iload_n d_Jn_measureDepths_48 rfl ?_
          refine az_icmp_ge 77 d_Jn_measureDepths_49 (by decide) (by omega) (by omega) (fun hin => ?_) (fun hin => ?_)
          · refine az_iinc d_Jn_measureDepths_77 rfl (by decide) rfl ?_
            refine ax_goto 8 d_Jn_measureDepths_80 (by decide) ?_
            refine ih h _ lg z (by omega) hH hF hdn (fun k h1 h2 => hl k (by omega) h2) hz ?_
            rw [hz2]
            exact ⟨fun w k h1 h2 => w k (by omega) h2, fun w k h1 h2 => w k (by omega) h2⟩
          · refine ax_aload_n d_Jn_measureDepths_52 rfl ?_
            refine ax_iload d_Jn_measureDepths_53 rfl ?_
            refine ax_aload_n d_Jn_measureDepths_55 rfl ?_
            refine ax_get d_Jn_measureDepths_56 fg_Jn_21 (by first | assumption | exact hH.g 0 rfl | exact hH.g 1 rfl | exact hH.g 2 rfl | exact hH.g 3 rfl | exact hH.g 4 rfl | exact hH.g 5 rfl) (by rfl) ?_
            refine ax_iload d_Jn_measureDepths_59 rfl ?_
            refine az_iald d_Jn_measureDepths_61 (by first | assumption | exact hH.g 0 rfl | exact hH.g 1 rfl | exact hH.g 2 rfl | exact hH.g 3 rfl | exact hH.g 4 rfl | exact hH.g 5 rfl) (by omega) (by omega) (by omega) ?_
            rw [Int.toNat_natCast, up_at]
            refine ah_iast d_Jn_measureDepths_62 hH hF 0 rfl hSl hld0 (by omega) (by omega) (by omega) (fun h hH hF => ?_)
            rw [Int.toNat_natCast] at hH
            have hH : Hs h ((ld, ia lcap (up lg i (dpt U all i))) :: JnL s hp nd pr (up dp i (dpt U all i))) := hH
            refine ax_iload d_Jn_measureDepths_63 rfl ?_
            refine ax_aload_n d_Jn_measureDepths_65 rfl ?_
            refine ax_get d_Jn_measureDepths_66 fg_Jn_21 (by first | assumption | exact hH.g 0 rfl | exact hH.g 1 rfl | exact hH.g 2 rfl | exact hH.g 3 rfl | exact hH.g 4 rfl | exact hH.g 5 rfl) (by rfl) ?_
            refine ax_iload d_Jn_measureDepths_69 rfl ?_
            refine az_iald d_Jn_measureDepths_71 (by first | assumption | exact hH.g 0 rfl | exact hH.g 1 rfl | exact hH.g 2 rfl | exact hH.g 3 rfl | exact hH.g 4 rfl | exact hH.g 5 rfl) (by omega) (by omega) (by omega) ?_
            rw [Int.toNat_natCast, up_at]
            refine az_mmax d_Jn_measureDepths_72 lk_Jn_49 (by decide) (Nat.le_of_ble_eq_true rfl) (by omega) (by omega) ?_
            refine ax_istore d_Jn_measureDepths_75 (by decide) rfl ?_
            refine az_iinc d_Jn_measureDepths_77 rfl (by decide) rfl ?_
            refine ax_goto 8 d_Jn_measureDepths_80 (by decide) ?_
            refine ih h _ _ _ (by omega) hH hF hdn (fun k h1 h2 => ?_) (by omega) ⟨fun w k h1 h2 => ?_, fun w => ?_⟩
            · by_cases e : k = i
              · rw [e, up_at]
              · rw [up_ne e]; exact hl k (by omega) h2
            · by_cases e : k = i
              · rw [e]; omega
              · exact (hz2.mp (by omega)) k (by omega) h2
            · have := hz2.mpr (fun k h1 h2 => w k (by omega) h2)
              have := w i (by omega) (by omega)
              omega
        refine ax_iload d_Jn_measureDepths_19 rfl ?_
        refine ax_iload_n d_Jn_measureDepths_21 rfl ?_
        refine az_iconst d_Jn_measureDepths_22 ?_
        refine az_isub d_Jn_measureDepths_23 ?_
        refine az_icmp_ne 31 d_Jn_measureDepths_24 (by decide) (by omega) (by omega) (fun hc => ?_) (fun hc => ?_)
        · have hni : i ≠ all - 1 := by omega
          have h1 := hU i (by omega)
          have h2 := hroot i (by omega)
          have h3 : ¬ U i < 0 := fun w => hni (h2.mp w)
          have hpi := hP i (by omega) (by omega)
          refine ax_aload_n d_Jn_measureDepths_31 rfl ?_
          refine ax_get d_Jn_measureDepths_32 fg_Jn_21 (by first | assumption | exact hH.g 0 rfl | exact hH.g 1 rfl | exact hH.g 2 rfl | exact hH.g 3 rfl | exact hH.g 4 rfl | exact hH.g 5 rfl) (by rfl) ?_
          refine ax_aload_n d_Jn_measureDepths_35 rfl ?_
          refine ax_get d_Jn_measureDepths_36 fg_Jn_18 (by first | assumption | exact hH.g 0 rfl | exact hH.g 1 rfl | exact hH.g 2 rfl | exact hH.g 3 rfl | exact hH.g 4 rfl | exact hH.g 5 rfl) (by rfl) ?_
          refine ax_iload d_Jn_measureDepths_39 rfl ?_
          refine az_iald d_Jn_measureDepths_41 (by first | assumption | exact hH.g 0 rfl | exact hH.g 1 rfl | exact hH.g 2 rfl | exact hH.g 3 rfl | exact hH.g 4 rfl | exact hH.g 5 rfl) (by omega) (by omega) (by omega) ?_
          rw [Int.toNat_natCast, hpi]
          refine az_iald d_Jn_measureDepths_42 (by first | assumption | exact hH.g 0 rfl | exact hH.g 1 rfl | exact hH.g 2 rfl | exact hH.g 3 rfl | exact hH.g 4 rfl | exact hH.g 5 rfl) (by omega) (by omega) (by omega) ?_
          refine az_iconst d_Jn_measureDepths_43 ?_
          refine az_iadd d_Jn_measureDepths_44 ?_
          have e9 : dp (U i).toNat + 1 = dpt U all i := by
            rw [dstep i (by omega) hni, hd (U i).toNat (by omega) (by omega)]
          rw [e9]
          exact rest
        · refine az_iconst d_Jn_measureDepths_27 ?_
          refine ax_goto 45 d_Jn_measureDepths_28 (by decide) ?_
          have hni : i = all - 1 := by omega
          have e9 : (0 : Int) = dpt U all i := by rw [hni, droot]
          rw [e9]
          exact rest
  exact loop all h0 dp lg 0 (by omega) hH6 Fr.rf (fun k h1 h2 => by omega) (fun k h1 h2 => by omega) (by omega) ⟨fun _ k h1 h2 => by omega, fun _ => by omega⟩
set_option maxRecDepth 100000 in
set_option maxHeartbeats 4000000 in
theorem c_Jn_findLengths {h0 : ax_H} {n s wd wcap ld lcap : Nat} {hp nd pr dp wt lg : Nat → Int} (hH : Hs h0 (JnL s hp nd pr dp)) (hWt : h0[wd]? = some (ia wcap wt)) (hLg : h0[ld]? = some (ia lcap lg)) (hwd : (ld :: JS).contains wd = false) (hld : JS.contains ld = false) (hld0 : 0 < ld) (hwc : n ≤ wcap) (hwc2 : wcap ≤ 3000) (hlc : n ≤ lcap) (hlc2 : lcap ≤ 3000) (hn : 0 < n) (hn2 : n ≤ 258) (hw : ∀ k : Nat, k < n → 1 ≤ wt k) (hT : fsum wt n ≤ 1000000) :
    ax_Ci m_Jn_findLengths 2 [.ref 23, .ref wd, .int (iv n), .ref ld] h0 (fun z h1 => (∃ s hp nd pr dp, Hs h1 (JnL s hp nd pr dp)) ∧ (∃ lg', h1[ld]? = some (ia lcap lg') ∧ ∀ k : Nat, k < n → lg' k = lenH wt n k) ∧ (z ≤ 12 ↔ ∀ k : Nat, k < n → lenH wt n k ≤ 12) ∧ (-2147483648 ≤ z ∧ z < 2147483648) ∧ Fr (ld :: JS) h0 h1) := by
  have hwdJ : JS.contains wd = false := by simp at hwd ⊢; omega
  have hwb : ∀ k : Nat, k < n → wt k ≤ 1000000 := by
    intro k hk
    have := fsum_ge (f := wt) (n := n) (fun i hi => by have := hw i hi; omega) hk
    omega
  have hF : Fr JS h0 h0 := Fr.rf
  refine ax_enter [some (.ref 23), some (.ref wd), some (.int (iv n)), some (.ref ld), none, none] rfl (Nat.le_of_ble_eq_true rfl) (by decide) ?_
  refine ax_aload_n d_Jn_findLengths_0 rfl ?_
  refine az_iconst d_Jn_findLengths_1 ?_
  first | refine ah_put d_Jn_findLengths_2 fp_Jn_24 hH hF 0 rfl rfl rfl (by first | rfl | decide) (Nat.le_of_ble_eq_true rfl) (fun h hH hF => ?_) | refine ah_put d_Jn_findLengths_2 fp_Jn_24 hH hF 1 rfl rfl rfl (by first | rfl | decide) (Nat.le_of_ble_eq_true rfl) (fun h hH hF => ?_) | refine ah_put d_Jn_findLengths_2 fp_Jn_24 hH hF 2 rfl rfl rfl (by first | rfl | decide) (Nat.le_of_ble_eq_true rfl) (fun h hH hF => ?_) | refine ah_put d_Jn_findLengths_2 fp_Jn_24 hH hF 3 rfl rfl rfl (by first | rfl | decide) (Nat.le_of_ble_eq_true rfl) (fun h hH hF => ?_) | refine ah_put d_Jn_findLengths_2 fp_Jn_24 hH hF 4 rfl rfl rfl (by first | rfl | decide) (Nat.le_of_ble_eq_true rfl) (fun h hH hF => ?_)
  refine az_iconst d_Jn_findLengths_5 ?_
  refine ax_istore d_Jn_findLengths_6 (by decide) rfl ?_
  have hR0 : JnR h n (jn wt n 0) 0 0 dp := ⟨hp, nd, pr, hH, fun i h1 h2 => by omega, fun i j hi => by omega, fun v => ⟨fun ⟨i, hi, _⟩ => by omega, fun ⟨k, hk, _⟩ => by omega⟩, fun k hk => by omega, fun k hk => by omega⟩
  -- the joinings
  have loop2 : ∀ (f j : Nat) (h : ax_H), j + f = n - 1 → JnR h n (jn wt n j) (n + j) (n - j) dp → Fr JS h0 h →
      ax_W m_Jn_findLengths 2 49 [some (.ref 23), some (.ref wd), some (.int (iv n)), some (.ref ld), some (.int (iv ((n : Int) + j))), some (.int (iv ((j : Int) + 1)))] [] h (fun r h1 => ∃ z : Int, r = some (.int (iv z)) ∧ (∃ s hp nd pr dp, Hs h1 (JnL s hp nd pr dp)) ∧ (∃ lg', h1[ld]? = some (ia lcap lg') ∧ ∀ k : Nat, k < n → lg' k = lenH wt n k) ∧ (z ≤ 12 ↔ ∀ k : Nat, k < n → lenH wt n k ≤ 12) ∧ (-2147483648 ≤ z ∧ z < 2147483648) ∧ Fr (ld :: JS) h0 h1) := by
    intro f
    induction f with
    | zero =>
      intro j h he hR hF
      have hj : j = n - 1 := by omega
      subst hj
      obtain ⟨hI, hcn⟩ := HI_jn hw (n - 1) (by omega)
      obtain ⟨hp, nd, pr, hH, -, -, -, -, hP⟩ := hR
      have hLg2 : h[ld]? = some (ia lcap lg) := by rw [hF.2.2 ld hld]; exact hLg
      have hroot : ∀ k : Nat, k < n + (n - 1) → ((jn wt n (n - 1)).2.2 k < 0 ↔ k = n + (n - 1) - 1) := by
        intro k hk
        have hlast : (jn wt n (n - 1)).2.2 (n + (n - 1) - 1) < 0 := by
          have := hI.1 (n + (n - 1) - 1) (by omega)
          omega
        constructor
        · intro hu
          by_cases e : k = n + (n - 1) - 1
          · exact e
          · exfalso
            have h9 := fsum_ge2 (f := ai (jn wt n (n - 1))) (n := n + (n - 1)) (fun i _ => by unfold ai; split <;> omega) hk (show n + (n - 1) - 1 < n + (n - 1) by omega) e
            have a1 : ai (jn wt n (n - 1)) k = 1 := by unfold ai; rw [if_pos hu]
            have a2 : ai (jn wt n (n - 1)) (n + (n - 1) - 1) = 1 := by unfold ai; rw [if_pos hlast]
            omega
        · intro e
          rw [e]
          exact hlast
      refine ax_iload d_Jn_findLengths_49 rfl ?_
      refine ax_iload_n d_Jn_findLengths_51 rfl ?_
      refine az_icmp_ge 70 d_Jn_findLengths_52 (by decide) (by omega) (by omega) (fun hc => ?_) (fun hc => ?_)
      · refine ax_aload_n d_Jn_findLengths_70 rfl ?_
        refine ax_iload_n d_Jn_findLengths_71 rfl ?_
        refine ax_iload d_Jn_findLengths_72 rfl ?_
        refine ax_aload_n d_Jn_findLengths_74 rfl ?_
        have ea : (n : Int) + ((n - 1 : Nat) : Int) = ((n + (n - 1) : Nat) : Int) := by omega
        rw [ea]
        refine ax_cV3 d_Jn_findLengths_75 v_Jn_measureDepths lk_Jn_35 (hH.g 0 rfl) (by decide) (Nat.le_of_ble_eq_true rfl) (cm_i (c_Jn_measureDepths hH hLg2 hld hld0 hlc hlc2 hn (by omega) (by omega) hI.1 hroot hP) (fun z h1 hp1 => ?_))
        obtain ⟨⟨dp', hH1⟩, hl1, hz1, hz2, hF1⟩ := hp1
        refine ax_iret d_Jn_findLengths_78 rfl ?_
        refine ⟨z, rfl, ⟨_, _, _, _, _, hH1⟩, hl1, hz1, hz2, (hF.wide ?_).tr hF1⟩
        simp
      · exfalso
        omega
    | succ f ih =>
      intro j h he hR hF
      obtain ⟨hI, hcn⟩ := HI_jn hw j (by omega)
      have hsz : h[23]? = some (ob 5 [.ref 24, .ref 25, .ref 26, .ref 27, .int (iv ((n - j : Nat) : Int))]) := by
        obtain ⟨hp, nd, pr, hH, -⟩ := hR
        exact hH.g 0 rfl
      refine ax_iload d_Jn_findLengths_49 rfl ?_
      refine ax_iload_n d_Jn_findLengths_51 rfl ?_
      refine az_icmp_ge 70 d_Jn_findLengths_52 (by decide) (by omega) (by omega) (fun hc => ?_) (fun hc => ?_)
      · exfalso
        omega
      · refine ax_aload_n d_Jn_findLengths_55 rfl ?_
        refine ax_iload d_Jn_findLengths_56 rfl ?_
        have ea : (n : Int) + (j : Int) = ((n + j : Nat) : Int) := by omega
        rw [ea]
        refine ax_cV1 d_Jn_findLengths_58 v_Jn_joinTwo lk_Jn_32 (by first | assumption | exact hH.g 0 rfl | exact hH.g 1 rfl | exact hH.g 2 rfl | exact hH.g 3 rfl | exact hH.g 4 rfl) (by decide) (Nat.le_of_ble_eq_true rfl) (cm_v (c_Jn_joinTwo hn2 hI (m := n - j) (by rw [hcn]; omega) (by omega) hT hR (by omega) (by omega)) (fun h1 hp1 => ?_))
        obtain ⟨hR1, hF1⟩ := hp1
        refine az_iinc d_Jn_findLengths_61 rfl (by decide) rfl ?_
        refine az_iinc d_Jn_findLengths_64 rfl (by decide) rfl ?_
        refine ax_goto 49 d_Jn_findLengths_67 (by decide) ?_
        have eb : ((n + j : Nat) : Int) + 1 = (n : Int) + ((j + 1 : Nat) : Int) := by omega
        have ec : ((j : Int) + 1 + 1) = ((j + 1 : Nat) : Int) + 1 := by omega
        rw [eb, ec]
        refine ih (j + 1) h1 (by omega) ?_ (hF.tr hF1)
        have e3 : n - (j + 1) = n - j - 1 := by omega
        rw [e3]
        exact hR1
  -- the pushes
  have loop1 : ∀ (f i : Nat) (h : ax_H), i + f = n → JnR h n (jn wt n 0) i i dp → Fr JS h0 h → ∀ v5 : Option Value,
      ax_W m_Jn_findLengths 2 8 [some (.ref 23), some (.ref wd), some (.int (iv n)), some (.ref ld), some (.int (iv i)), v5] [] h (fun r h1 => ∃ z : Int, r = some (.int (iv z)) ∧ (∃ s hp nd pr dp, Hs h1 (JnL s hp nd pr dp)) ∧ (∃ lg', h1[ld]? = some (ia lcap lg') ∧ ∀ k : Nat, k < n → lg' k = lenH wt n k) ∧ (z ≤ 12 ↔ ∀ k : Nat, k < n → lenH wt n k ≤ 12) ∧ (-2147483648 ≤ z ∧ z < 2147483648) ∧ Fr (ld :: JS) h0 h1) := by
    intro f
    induction f with
    | zero =>
      intro i h he hR hF v5
      have hi : i = n := by omega
      subst hi
      refine ax_iload d_Jn_findLengths_8 rfl ?_
      refine ax_iload_n d_Jn_findLengths_10 rfl ?_
      refine az_icmp_ge 43 d_Jn_findLengths_11 (by decide) (by omega) (by omega) (fun hc => ?_) (fun hc => ?_)
      · refine ax_iload_n d_Jn_findLengths_43 rfl ?_
        refine ax_istore d_Jn_findLengths_44 (by decide) rfl ?_
        refine az_iconst d_Jn_findLengths_46 ?_
        refine ax_istore d_Jn_findLengths_47 (by decide) rfl ?_
        exact loop2 (i - 1) 0 h (by omega) hR hF
      · exfalso
        omega
    | succ f ih =>
      intro i h he hR hF v5
      obtain ⟨hp, nd, pr, hH, hk, hj, hS, hN, hP⟩ := hR
      have hwi := hw i (by omega)
      have hwi2 := hwb i (by omega)
      obtain ⟨w, hww⟩ := Int.eq_ofNat_of_zero_le (show 0 ≤ wt i by omega)
      have hr : rgH hp i := by
        intro q hq
        obtain ⟨k, e1, -, e3⟩ := (hS (hp q)).mp ⟨q, hq, rfl⟩
        rw [← e3]
        have h1 := hw k (by omega)
        have h2 := hwb k (by omega)
        show 0 ≤ wt k * 512 + (k : Int) ∧ wt k * 512 + (k : Int) < _
        omega
      refine ax_iload d_Jn_findLengths_8 rfl ?_
      refine ax_iload_n d_Jn_findLengths_10 rfl ?_
      refine az_icmp_ge 43 d_Jn_findLengths_11 (by decide) (by omega) (by omega) (fun hc => ?_) (fun hc => ?_)
      · exfalso
        omega
      · refine ax_aload_n d_Jn_findLengths_14 rfl ?_
        refine ax_get d_Jn_findLengths_15 fg_Jn_15 (by first | assumption | exact hH.g 0 rfl | exact hH.g 1 rfl | exact hH.g 2 rfl | exact hH.g 3 rfl | exact hH.g 4 rfl) (by rfl) ?_
        refine ax_iload d_Jn_findLengths_18 rfl ?_
        refine ax_iload d_Jn_findLengths_20 rfl ?_
        first | refine ah_iast d_Jn_findLengths_22 hH hF 0 rfl rfl (by omega) (by omega) (by omega) (by omega) (fun h hH hF => ?_) | refine ah_iast d_Jn_findLengths_22 hH hF 1 rfl rfl (by omega) (by omega) (by omega) (by omega) (fun h hH hF => ?_) | refine ah_iast d_Jn_findLengths_22 hH hF 2 rfl rfl (by omega) (by omega) (by omega) (by omega) (fun h hH hF => ?_) | refine ah_iast d_Jn_findLengths_22 hH hF 3 rfl rfl (by omega) (by omega) (by omega) (by omega) (fun h hH hF => ?_) | refine ah_iast d_Jn_findLengths_22 hH hF 4 rfl rfl (by omega) (by omega) (by omega) (by omega) (fun h hH hF => ?_)
        refine ax_aload_n d_Jn_findLengths_23 rfl ?_
        refine ax_aload_n d_Jn_findLengths_24 rfl ?_
        rw [Int.toNat_natCast] at hH
        have hWt2 : h[wd]? = some (ia wcap wt) := by rw [hF.2.2 wd hwdJ]; exact hWt
        refine ax_iload d_Jn_findLengths_25 rfl ?_
        refine az_iald d_Jn_findLengths_27 (by first | assumption | exact hH.g 0 rfl | exact hH.g 1 rfl | exact hH.g 2 rfl | exact hH.g 3 rfl | exact hH.g 4 rfl) (by omega) (by omega) (by omega) ?_
        rw [Int.toNat_natCast, hww]
        refine az_bipush _ d_Jn_findLengths_28 (by decide) ?_
        refine az_ishl d_Jn_findLengths_30 ?_
        refine ax_iload d_Jn_findLengths_31 rfl ?_
        refine az_ior d_Jn_findLengths_33 ?_
        rw [zor_key (by omega) (by omega)]
        have hfresh : ¬ inH hp i ((w * 512 + i : Nat) : Int) := by
          intro q
          obtain ⟨k, e1, -, e3⟩ := (hS _).mp q
          have e3 : wt k * 512 + (k : Int) = ((w * 512 + i : Nat) : Int) := e3
          omega
        refine ax_cV1 d_Jn_findLengths_34 v_Jn_push lk_Jn_28 (hH.g 0 rfl) (by decide) (Nat.le_of_ble_eq_true rfl) (cm_v (c_Jn_push (s := i) hH (by omega) hk hj hr (key := ((w * 512 + i : Nat) : Int)) (by omega) hfresh) (fun h3 hp3 => ?_))
        obtain ⟨⟨hq3, hH3, hk3, hj3, hS3⟩, hF3⟩ := hp3
        refine az_iinc d_Jn_findLengths_37 rfl (by decide) rfl ?_
        refine ax_goto 8 d_Jn_findLengths_40 (by decide) ?_
        refine ih (i + 1) h3 (by omega) ⟨hq3, _, _, hH3, hk3, hj3, fun v => ?_, fun k hk hu => ?_, fun k hk hu => by have hu : (0 : Int) ≤ -1 := hu; omega⟩ (hF.tr hF3) _
        · rw [hS3 v, hS v]
          constructor
          · rintro (⟨k, e1, e2, e3⟩ | e)
            · exact ⟨k, by omega, e2, e3⟩
            · refine ⟨i, by omega, by show (-1 : Int) < 0; omega, ?_⟩
              show wt i * 512 + (i : Int) = v
              rw [e, hww]
              omega
          · rintro ⟨k, e1, e2, e3⟩
            by_cases ek : k = i
            · right
              have e3 : wt k * 512 + (k : Int) = v := e3
              rw [ek, hww] at e3
              omega
            · exact Or.inl ⟨k, by omega, e2, e3⟩
        · show up nd i i ((k : Int)).toNat = k
          rw [Int.toNat_natCast]
          by_cases ek : k = i
          · rw [ek, up_at]
          · rw [up_ne ek]
            have := hN k (by omega) hu
            have e9 : nd ((k : Int)).toNat = k := this
            rw [Int.toNat_natCast] at e9
            exact e9
  exact loop1 n 0 h (by omega) hR0 hF none
