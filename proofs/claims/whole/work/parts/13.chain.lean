/-! Chain: NEXT of all places of a LAST -/
def ChL (n : Nat) (nx off : Nat → Int) : List (Nat × ax_C) := [(15, ob 2 [.ref 16, .ref 17, .int (iv n)]), (16, ia 900 nx), (17, ia 257 off)]
abbrev gx (xs : List Int) : Nat → Int := fun i => xs.getD i 0
/-- next holds, at each place of the row put in order, where that one stands -/
def isNx (xs : List Int) (nx : Nat → Int) : Prop := ∀ k : Nat, k < xs.length → nx (plc (kl (gx xs)) xs.length k) = k
def cE (xs : List Int) (k : Nat) (c : Int) : Nat := cnt (fun i => decide (gx xs i = c)) k
def cL (xs : List Int) (c : Int) : Nat := cnt (fun i => decide (gx xs i < c)) xs.length
theorem cE_succ (xs : List Int) (k : Nat) (c : Int) : cE xs (k + 1) c = cE xs k c + (if gx xs k = c then 1 else 0) := ce_succ (gx xs) k c
theorem cL_succ (xs : List Int) (c : Int) : cL xs (c + 1) = cL xs c + cE xs xs.length c := cl_succ (gx xs) xs.length c
theorem cLE_plc {xs : List Int} {k : Nat} (hk : k ≤ xs.length) : plc (kl (gx xs)) xs.length k = cL xs (gx xs k) + cE xs k (gx xs k) := plc_kl hk
set_option maxRecDepth 100000 in
set_option maxHeartbeats 4000000 in
theorem c_Ch_link {h0 : ax_H} {r ra cap n0 : Nat} {xs : List Int} {nx off : Nat → Int} (hR : Rw h0 r ra cap xs) (hbs : Bs xs) (hn : xs.length ≤ 900) (hH : Hs h0 (ChL n0 nx off)) (hd1 : [15, 16, 17].contains r = false) (hd2 : [15, 16, 17].contains ra = false) :
    ax_Cv m_Ch_link 1 [.ref 15, .ref r] h0 (fun h1 => ∃ nx' off', Hs h1 (ChL xs.length nx' off') ∧ isNx xs nx' ∧ Fr [15, 16, 17] h0 h1) := by
  have hF : Fr [15, 16, 17] h0 h0 := Fr.rf
  have hsz := hR.sz
  refine ax_enter [some (.ref 15), some (.ref r), none, none] rfl (Nat.le_of_ble_eq_true rfl) (by decide) ?_
  refine ax_aload_n d_Ch_link_0 rfl ?_
  refine ax_aload_n d_Ch_link_1 rfl ?_
  refine ax_get d_Ch_link_2 fg_Ch_18 (by first | assumption | exact hH.g 0 rfl | exact hH.g 1 rfl | exact hH.g 2 rfl) (by rfl) ?_
  refine az_sipush _ d_Ch_link_5 (by decide) ?_
  refine az_mmin d_Ch_link_8 lk_Ch_24 (by decide) (Nat.le_of_ble_eq_true rfl) (by omega) (by omega) ?_
  first | refine ah_put d_Ch_link_11 fp_Ch_30 hH hF 0 rfl rfl rfl (by first | rfl | decide) (Nat.le_of_ble_eq_true rfl) (fun h hH hF => ?_) | refine ah_put d_Ch_link_11 fp_Ch_30 hH hF 1 rfl rfl rfl (by first | rfl | decide) (Nat.le_of_ble_eq_true rfl) (fun h hH hF => ?_) | refine ah_put d_Ch_link_11 fp_Ch_30 hH hF 2 rfl rfl rfl (by first | rfl | decide) (Nat.le_of_ble_eq_true rfl) (fun h hH hF => ?_)
  have e900 : min (xs.length : Int) 900 = xs.length := by omega
  rw [e900] at hH
  have hH : Hs h (ChL xs.length nx off) := hH
  refine ax_aload_n d_Ch_link_14 rfl ?_
  refine ax_get d_Ch_link_15 fg_Ch_15 (by first | assumption | exact hH.g 0 rfl | exact hH.g 1 rfl | exact hH.g 2 rfl) (by rfl) ?_
  refine az_iconst d_Ch_link_18 ?_
  refine ax_cS2 d_Ch_link_19 s_Ar_fill lk_Ch_31 (by decide) (Nat.le_of_ble_eq_true rfl) (cm_v (c_Ar_fill (hH.g 2 rfl) (by decide) (by decide) 0) (fun h2 hp => ?_))
  obtain ⟨g2, ha2, hg2, hF2⟩ := hp
  have hH2 : Hs h2 (ChL xs.length nx g2) := Hs.c (by rw [hF2.2.2 15 rfl]; exact hH.g 0 rfl) rfl (Hs.c (by rw [hF2.2.2 16 rfl]; exact hH.g 1 rfl) rfl (Hs.c ha2 rfl Hs.n))
  have hF2' : Fr [15, 16, 17] h0 h2 := hF.tr (hF2.wide rfl)
  refine az_iconst d_Ch_link_22 ?_
  refine ax_istore_n d_Ch_link_23 (by decide) rfl ?_
  -- the third loop
  have loop3 : ∀ (k i : Nat) (h : ax_H) (nx off : Nat → Int), i + k = xs.length → Hs h (ChL xs.length nx off) → Fr [15, 16, 17] h0 h → (∀ c : Nat, c < 256 → off c = (cL xs c + cE xs i c : Nat)) → (∀ j : Nat, j < i → nx (plc (kl (gx xs)) xs.length j) = j) → ∀ v3 : Option Value,
      ax_W m_Ch_link 1 88 [some (.ref 15), some (.ref r), some (.int (iv i)), v3] [] h (fun r0 h1 => r0 = none ∧ ∃ nx' off', Hs h1 (ChL xs.length nx' off') ∧ isNx xs nx' ∧ Fr [15, 16, 17] h0 h1) := by
    intro k
    induction k with
    | zero =>
      intro i h nx off he hH hF ho hx v3
      refine ax_iload_n d_Ch_link_88 rfl ?_
      refine ax_aload_n d_Ch_link_89 rfl ?_
      refine ax_get d_Ch_link_90 fg_Ch_30 (by first | assumption | exact hH.g 0 rfl | exact hH.g 1 rfl | exact hH.g 2 rfl) (by rfl) ?_
      refine az_icmp_ge 130 d_Ch_link_93 (by decide) (by omega) (by omega) (fun hc => ?_) (fun hc => ?_)
      · refine ax_vret d_Ch_link_130 rfl ?_
        exact ⟨rfl, nx, off, hH, fun j hj => hx j (by omega), hF⟩
      · exfalso
        omega
    | succ k ih =>
      intro i h nx off he hH hF ho hx v3
      have hR1 := hR.fr hF hd1 hd2
      have hsz1 := hR1.sz
      have b1 := hbs i (by omega)
      have e1 : rAt xs i = gx xs i := by rw [rAt, if_pos (by omega)]; rfl
      have hpl := plc_lt_n (kl_ok (gx xs) xs.length) (show i < xs.length by omega)
      have hpe := cLE_plc (xs := xs) (k := i) (by omega)
      obtain ⟨c, hc⟩ := Int.eq_ofNat_of_zero_le b1.1
      have hoc := ho c (by omega)
      have hgc : gx xs i = (c : Int) := hc
      have hoc2 : off c = (plc (kl (gx xs)) xs.length i : Nat) := by rw [hoc, hpe, hgc]
      refine ax_iload_n d_Ch_link_88 rfl ?_
      refine ax_aload_n d_Ch_link_89 rfl ?_
      refine ax_get d_Ch_link_90 fg_Ch_30 (by first | assumption | exact hH.g 0 rfl | exact hH.g 1 rfl | exact hH.g 2 rfl) (by rfl) ?_
      refine az_icmp_ge 130 d_Ch_link_93 (by decide) (by omega) (by omega) (fun hc => ?_) (fun hc => ?_)
      · exfalso
        omega
      · refine ax_aload_n d_Ch_link_96 rfl ?_
        refine ax_iload_n d_Ch_link_97 rfl ?_
        refine ax_cV1 d_Ch_link_98 v_Rw_at lk_Ch_37 (by first | assumption | exact hH.g 0 rfl | exact hH.g 1 rfl | exact hH.g 2 rfl) (by decide) (Nat.le_of_ble_eq_true rfl) (cm_i (c_Rw_at hR1 (i := i) (by omega)) (fun z h3 hp => ?_))
        obtain ⟨rfl, rfl⟩ := hp
        rw [e1, hgc]
        refine ax_istore_n d_Ch_link_101 (by decide) rfl ?_
        refine ax_aload_n d_Ch_link_102 rfl ?_
        refine ax_get d_Ch_link_103 fg_Ch_9 (by first | assumption | exact hH.g 0 rfl | exact hH.g 1 rfl | exact hH.g 2 rfl) (by rfl) ?_
        refine ax_aload_n d_Ch_link_106 rfl ?_
        refine ax_get d_Ch_link_107 fg_Ch_15 (by first | assumption | exact hH.g 0 rfl | exact hH.g 1 rfl | exact hH.g 2 rfl) (by rfl) ?_
        refine ax_iload_n d_Ch_link_110 rfl ?_
        refine az_iald d_Ch_link_111 (by first | assumption | exact hH.g 0 rfl | exact hH.g 1 rfl | exact hH.g 2 rfl) (by omega) (by omega) (by omega) ?_
        refine ax_iload_n d_Ch_link_112 rfl ?_
        refine ah_iast d_Ch_link_113 hH hF 1 rfl rfl (by decide) (by rw [Int.toNat_natCast, hoc2]; omega) (by rw [Int.toNat_natCast, hoc2]; omega) (by omega) (fun h hH hF => ?_)
        have hH : Hs h (ChL xs.length (up nx (plc (kl (gx xs)) xs.length i) i) off) := by
          rw [Int.toNat_natCast, hoc2, Int.toNat_natCast] at hH
          exact hH
        refine ax_aload_n d_Ch_link_114 rfl ?_
        refine ax_get d_Ch_link_115 fg_Ch_15 (by first | assumption | exact hH.g 0 rfl | exact hH.g 1 rfl | exact hH.g 2 rfl) (by rfl) ?_
        refine ax_iload_n d_Ch_link_118 rfl ?_
        refine ax_dup2 d_Ch_link_119 rfl rfl ?_
        refine az_iald d_Ch_link_120 (by first | assumption | exact hH.g 0 rfl | exact hH.g 1 rfl | exact hH.g 2 rfl) (by omega) (by omega) (by omega) ?_
        refine az_iconst d_Ch_link_121 ?_
        refine az_iadd d_Ch_link_122 ?_
        first | refine ah_iast d_Ch_link_123 hH hF 0 rfl rfl (by omega) (by omega) (by omega) (by omega) (fun h hH hF => ?_) | refine ah_iast d_Ch_link_123 hH hF 1 rfl rfl (by omega) (by omega) (by omega) (by omega) (fun h hH hF => ?_) | refine ah_iast d_Ch_link_123 hH hF 2 rfl rfl (by omega) (by omega) (by omega) (by omega) (fun h hH hF => ?_)
        refine az_iinc d_Ch_link_124 rfl (by decide) rfl ?_
        refine ax_goto 88 d_Ch_link_127 (by decide) ?_
        refine ih (i + 1) h _ _ (by omega) hH hF (fun c2 hc2 => ?_) (fun j hj => ?_) _
        · have hs := cE_succ xs i c2
          show up off (c : Int).toNat _ c2 = _
          rw [Int.toNat_natCast]
          by_cases e : c2 = c
          · subst e
            rw [up_at, hoc, hs, if_pos hgc]
            omega
          · rw [up_ne e, ho c2 hc2, hs, if_neg (by omega)]
            rfl
        · by_cases e : j = i
          · subst e; rw [up_at]
          · rw [up_ne (fun q => e (plc_inj (kl_ok (gx xs) xs.length) (by omega) (by omega) q))]
            exact hx j (by omega)
  -- the second loop
  have loop2 : ∀ (k b : Nat) (h : ax_H) (nx off : Nat → Int), b + k = 256 → Hs h (ChL xs.length nx off) → Fr [15, 16, 17] h0 h → (∀ j : Nat, j ≤ 256 → off j = if j ≤ b then (cL xs j : Int) else (cE xs xs.length (j - 1 : Nat) : Int)) →
      ax_W m_Ch_link 1 56 [some (.ref 15), some (.ref r), some (.int (iv b)), none] [] h (fun r0 h1 => r0 = none ∧ ∃ nx' off', Hs h1 (ChL xs.length nx' off') ∧ isNx xs nx' ∧ Fr [15, 16, 17] h0 h1) := by
    intro k
    induction k with
    | zero =>
      intro b h nx off he hH hF ho
      refine ax_iload_n d_Ch_link_56 rfl ?_
      refine az_sipush _ d_Ch_link_57 (by decide) ?_
      refine az_icmp_ge 86 d_Ch_link_60 (by decide) (by omega) (by omega) (fun hc => ?_) (fun hc => ?_)
      · refine az_iconst d_Ch_link_86 ?_
        refine ax_istore_n d_Ch_link_87 (by decide) rfl ?_
        refine loop3 xs.length 0 h nx off (by omega) hH hF (fun c hc => ?_) (fun j hj => by omega) none
        rw [ho c (by omega), if_pos (by omega)]
        rfl
      · exfalso
        omega
    | succ k ih =>
      intro b h nx off he hH hF ho
      refine ax_iload_n d_Ch_link_56 rfl ?_
      refine az_sipush _ d_Ch_link_57 (by decide) ?_
      refine az_icmp_ge 86 d_Ch_link_60 (by decide) (by omega) (by omega) (fun hc => ?_) (fun hc => ?_)
      · exfalso
        omega
      · refine ax_aload_n d_Ch_link_63 rfl ?_
        refine ax_get d_Ch_link_64 fg_Ch_15 (by first | assumption | exact hH.g 0 rfl | exact hH.g 1 rfl | exact hH.g 2 rfl) (by rfl) ?_
        refine ax_iload_n d_Ch_link_67 rfl ?_
        refine az_iconst d_Ch_link_68 ?_
        refine az_iadd d_Ch_link_69 ?_
        refine ax_dup2 d_Ch_link_70 rfl rfl ?_
        refine az_iald d_Ch_link_71 (by first | assumption | exact hH.g 0 rfl | exact hH.g 1 rfl | exact hH.g 2 rfl) (by omega) (by omega) (by omega) ?_
        refine ax_aload_n d_Ch_link_72 rfl ?_
        refine ax_get d_Ch_link_73 fg_Ch_15 (by first | assumption | exact hH.g 0 rfl | exact hH.g 1 rfl | exact hH.g 2 rfl) (by rfl) ?_
        refine ax_iload_n d_Ch_link_76 rfl ?_
        refine az_iald d_Ch_link_77 (by first | assumption | exact hH.g 0 rfl | exact hH.g 1 rfl | exact hH.g 2 rfl) (by omega) (by omega) (by omega) ?_
        refine az_iadd d_Ch_link_78 ?_
        first | refine ah_iast d_Ch_link_79 hH hF 0 rfl rfl (by omega) (by omega) (by omega) (by omega) (fun h hH hF => ?_) | refine ah_iast d_Ch_link_79 hH hF 1 rfl rfl (by omega) (by omega) (by omega) (by omega) (fun h hH hF => ?_) | refine ah_iast d_Ch_link_79 hH hF 2 rfl rfl (by omega) (by omega) (by omega) (by omega) (fun h hH hF => ?_)
        refine az_iinc d_Ch_link_80 rfl (by decide) rfl ?_
        refine ax_goto 56 d_Ch_link_83 (by decide) ?_
        refine ih (b + 1) h _ _ (by omega) hH hF (fun j hj => ?_)
        show up off ((b : Int) + 1).toNat _ j = _
        rw [show ((b : Int) + 1).toNat = b + 1 by omega, Int.toNat_natCast]
        by_cases e : j = b + 1
        · subst e
          rw [up_at, if_pos (by omega), ho (b + 1) (by omega), ho b (by omega), if_neg (by omega), if_pos (by omega)]
          rw [show ((b + 1 : Nat) : Int) = (b : Int) + 1 by omega, cL_succ, Nat.add_sub_cancel]
          omega
        · rw [up_ne e, ho j hj]
          by_cases e2 : j ≤ b
          · rw [if_pos e2, if_pos (by omega)]
          · rw [if_neg e2, if_neg (by omega)]
  -- the first loop
  have loop1 : ∀ (k i : Nat) (h : ax_H) (off : Nat → Int), i + k = xs.length → Hs h (ChL xs.length nx off) → Fr [15, 16, 17] h0 h → (∀ j : Nat, j ≤ 256 → off j = if j = 0 then 0 else (cE xs i (j - 1 : Nat) : Int)) →
      ax_W m_Ch_link 1 24 [some (.ref 15), some (.ref r), some (.int (iv i)), none] [] h (fun r0 h1 => r0 = none ∧ ∃ nx' off', Hs h1 (ChL xs.length nx' off') ∧ isNx xs nx' ∧ Fr [15, 16, 17] h0 h1) := by
    intro k
    induction k with
    | zero =>
      intro i h off he hH hF ho
      refine ax_iload_n d_Ch_link_24 rfl ?_
      refine ax_aload_n d_Ch_link_25 rfl ?_
      refine ax_get d_Ch_link_26 fg_Ch_30 (by first | assumption | exact hH.g 0 rfl | exact hH.g 1 rfl | exact hH.g 2 rfl) (by rfl) ?_
      refine az_icmp_ge 54 d_Ch_link_29 (by decide) (by omega) (by omega) (fun hc => ?_) (fun hc => ?_)
      · refine az_iconst d_Ch_link_54 ?_
        refine ax_istore_n d_Ch_link_55 (by decide) rfl ?_
        refine loop2 256 0 h nx off (by omega) hH hF (fun j hj => ?_)
        rw [ho j hj]
        by_cases e : j = 0
        · subst e
          rw [if_pos rfl, if_pos (by omega)]
          have : cL xs ((0 : Nat) : Int) = 0 := cnt_false (fun i hi => by
            have h9 : 0 ≤ gx xs i := (hbs i hi).1
            exact decide_eq_false (by omega))
          rw [this]
          rfl
        · rw [if_neg e, if_neg (by omega), show i = xs.length by omega]
      · exfalso
        omega
    | succ k ih =>
      intro i h off he hH hF ho
      have hR1 := hR.fr hF hd1 hd2
      have hsz1 := hR1.sz
      have b1 := hbs i (by omega)
      have e1 : rAt xs i = gx xs i := by rw [rAt, if_pos (by omega)]; rfl
      obtain ⟨c, hc⟩ := Int.eq_ofNat_of_zero_le b1.1
      have hgc : gx xs i = (c : Int) := hc
      refine ax_iload_n d_Ch_link_24 rfl ?_
      refine ax_aload_n d_Ch_link_25 rfl ?_
      refine ax_get d_Ch_link_26 fg_Ch_30 (by first | assumption | exact hH.g 0 rfl | exact hH.g 1 rfl | exact hH.g 2 rfl) (by rfl) ?_
      refine az_icmp_ge 54 d_Ch_link_29 (by decide) (by omega) (by omega) (fun hc => ?_) (fun hc => ?_)
      · exfalso
        omega
      · refine ax_aload_n d_Ch_link_32 rfl ?_
        refine ax_get d_Ch_link_33 fg_Ch_15 (by first | assumption | exact hH.g 0 rfl | exact hH.g 1 rfl | exact hH.g 2 rfl) (by rfl) ?_
        refine ax_aload_n d_Ch_link_36 rfl ?_
        refine ax_iload_n d_Ch_link_37 rfl ?_
        refine ax_cV1 d_Ch_link_38 v_Rw_at lk_Ch_37 (by first | assumption | exact hH.g 0 rfl | exact hH.g 1 rfl | exact hH.g 2 rfl) (by decide) (Nat.le_of_ble_eq_true rfl) (cm_i (c_Rw_at hR1 (i := i) (by omega)) (fun z h3 hp => ?_))
        obtain ⟨rfl, rfl⟩ := hp
        rw [e1, hgc]
        refine az_iconst d_Ch_link_41 ?_
        refine az_iadd d_Ch_link_42 ?_
        refine ax_dup2 d_Ch_link_43 rfl rfl ?_
        refine az_iald d_Ch_link_44 (by first | assumption | exact hH.g 0 rfl | exact hH.g 1 rfl | exact hH.g 2 rfl) (by omega) (by omega) (by omega) ?_
        refine az_iconst d_Ch_link_45 ?_
        refine az_iadd d_Ch_link_46 ?_
        first | refine ah_iast d_Ch_link_47 hH hF 0 rfl rfl (by omega) (by omega) (by omega) (by omega) (fun h hH hF => ?_) | refine ah_iast d_Ch_link_47 hH hF 1 rfl rfl (by omega) (by omega) (by omega) (by omega) (fun h hH hF => ?_) | refine ah_iast d_Ch_link_47 hH hF 2 rfl rfl (by omega) (by omega) (by omega) (by omega) (fun h hH hF => ?_)
        refine az_iinc d_Ch_link_48 rfl (by decide) rfl ?_
        refine ax_goto 24 d_Ch_link_51 (by decide) ?_
        refine ih (i + 1) h _ (by omega) hH hF (fun j hj => ?_)
        have hs := cE_succ xs i
        show up off ((c : Int) + 1).toNat _ j = _
        rw [show ((c : Int) + 1).toNat = c + 1 by omega]
        by_cases e : j = c + 1
        · subst e
          rw [up_at, ho (c + 1) (by omega), if_neg (by omega), if_neg (by omega), hs, if_pos (by omega)]
          omega
        · rw [up_ne e, ho j hj]
          by_cases e2 : j = 0
          · rw [if_pos e2, if_pos e2]
          · rw [if_neg e2, if_neg e2, hs, if_neg (by omega)]
            rfl
  refine loop1 xs.length 0 h2 g2 (by omega) hH2 hF2' (fun j hj => ?_)
  rw [hg2 j (by omega)]
  by_cases e : j = 0
  · rw [if_pos e]
  · rw [if_neg e]
    rfl
/-- how many steps lead from k to itself again, at most n -/
def ringN (nx : Nat → Int) (k : Int) : Nat → Int → Int → Int
  | 0, _, len => len
  | f + 1, at_, len => if at_ = k then len else ringN nx k f (nx at_.toNat) (len + 1)
theorem nx_in {xs : List Int} {nx : Nat → Int} (h : isNx xs nx) {j : Nat} (hj : j < xs.length) : ∃ k : Nat, k < xs.length ∧ nx j = k ∧ plc (kl (gx xs)) xs.length k = j := by
  obtain ⟨p, hp, e⟩ := plc_onto (kl_ok (gx xs) xs.length) hj
  exact ⟨p, hp, by rw [← e]; exact h p hp, e⟩
set_option maxRecDepth 100000 in
set_option maxHeartbeats 4000000 in
theorem c_Ch_ringLength {h0 : ax_H} {xs : List Int} {nx off : Nat → Int} (hn : xs.length ≤ 900) (hH : Hs h0 (ChL xs.length nx off)) (hnx : isNx xs nx) {k : Nat} (hk : k < xs.length) :
    ax_Ci m_Ch_ringLength 0 [.ref 15, .int (iv k)] h0 (fun z h1 => h1 = h0 ∧ z = ringN nx k (xs.length - 1) (nx k) 1) := by
  refine ax_enter [some (.ref 15), some (.int (iv k)), none, none] rfl (Nat.le_of_ble_eq_true rfl) (by decide) ?_
  refine ax_iload_n d_Ch_ringLength_0 rfl ?_
  refine az_if_lt 12 d_Ch_ringLength_1 (by decide) (by first | exact bz_in _ | omega) (fun hc => ?_) (fun hc => ?_)
  · exfalso
    omega
  · refine ax_iload_n d_Ch_ringLength_4 rfl ?_
    refine ax_aload_n d_Ch_ringLength_5 rfl ?_
    refine ax_get d_Ch_ringLength_6 fg_Ch_30 (by first | assumption | exact hH.g 0 rfl | exact hH.g 1 rfl | exact hH.g 2 rfl) (by rfl) ?_
    refine az_icmp_lt 14 d_Ch_ringLength_9 (by decide) (by omega) (by omega) (fun hc => ?_) (fun hc => ?_)
    · refine ax_aload_n d_Ch_ringLength_14 rfl ?_
      refine ax_get d_Ch_ringLength_15 fg_Ch_9 (by first | assumption | exact hH.g 0 rfl | exact hH.g 1 rfl | exact hH.g 2 rfl) (by rfl) ?_
      refine ax_iload_n d_Ch_ringLength_18 rfl ?_
      refine az_iald d_Ch_ringLength_19 (by first | assumption | exact hH.g 0 rfl | exact hH.g 1 rfl | exact hH.g 2 rfl) (by omega) (by omega) (by omega) ?_
      refine ax_istore_n d_Ch_ringLength_20 (by decide) rfl ?_
      refine az_iconst d_Ch_ringLength_21 ?_
      refine ax_istore_n d_Ch_ringLength_22 (by decide) rfl ?_
      have key : ∀ (f p : Nat) (len : Nat), len + f = xs.length → p < xs.length →
          ax_W m_Ch_ringLength 0 23 [some (.ref 15), some (.int (iv k)), some (.int (iv p)), some (.int (iv len))] [] h0 (fun r h1 => ∃ z : Int, r = some (.int (iv z)) ∧ h1 = h0 ∧ z = ringN nx k f p len) := by
        intro f
        induction f with
        | zero =>
          intro p len he hp
          refine ax_iload_n d_Ch_ringLength_23 rfl ?_
          refine ax_iload_n d_Ch_ringLength_24 rfl ?_
          refine az_icmp_eq 49 d_Ch_ringLength_25 (by decide) (by omega) (by omega) (fun hc => ?_) (fun hc => ?_)
          · refine ax_iload_n d_Ch_ringLength_49 rfl ?_
            refine ax_iret d_Ch_ringLength_50 rfl ?_
            exact ⟨_, rfl, rfl, rfl⟩
          · refine ax_iload_n d_Ch_ringLength_28 rfl ?_
            refine ax_aload_n d_Ch_ringLength_29 rfl ?_
            refine ax_get d_Ch_ringLength_30 fg_Ch_30 (by first | assumption | exact hH.g 0 rfl | exact hH.g 1 rfl | exact hH.g 2 rfl) (by rfl) ?_
            refine az_icmp_ge 49 d_Ch_ringLength_33 (by decide) (by omega) (by omega) (fun hc => ?_) (fun hc => ?_)
            · refine ax_iload_n d_Ch_ringLength_49 rfl ?_
              refine ax_iret d_Ch_ringLength_50 rfl ?_
              exact ⟨_, rfl, rfl, rfl⟩
            · exfalso
              omega
        | succ f ih =>
          intro p len he hp
          refine ax_iload_n d_Ch_ringLength_23 rfl ?_
          refine ax_iload_n d_Ch_ringLength_24 rfl ?_
          refine az_icmp_eq 49 d_Ch_ringLength_25 (by decide) (by omega) (by omega) (fun hpk => ?_) (fun hpk => ?_)
          · refine ax_iload_n d_Ch_ringLength_49 rfl ?_
            refine ax_iret d_Ch_ringLength_50 rfl ?_
            refine ⟨_, rfl, rfl, ?_⟩
            rw [ringN, if_pos hpk]
          · refine ax_iload_n d_Ch_ringLength_28 rfl ?_
            refine ax_aload_n d_Ch_ringLength_29 rfl ?_
            refine ax_get d_Ch_ringLength_30 fg_Ch_30 (by first | assumption | exact hH.g 0 rfl | exact hH.g 1 rfl | exact hH.g 2 rfl) (by rfl) ?_
            refine az_icmp_ge 49 d_Ch_ringLength_33 (by decide) (by omega) (by omega) (fun hc => ?_) (fun hc => ?_)
            · exfalso
              omega
            · refine ax_aload_n d_Ch_ringLength_36 rfl ?_
              refine ax_get d_Ch_ringLength_37 fg_Ch_9 (by first | assumption | exact hH.g 0 rfl | exact hH.g 1 rfl | exact hH.g 2 rfl) (by rfl) ?_
              refine ax_iload_n d_Ch_ringLength_40 rfl ?_
              refine az_iald d_Ch_ringLength_41 (by first | assumption | exact hH.g 0 rfl | exact hH.g 1 rfl | exact hH.g 2 rfl) (by omega) (by omega) (by omega) ?_
              obtain ⟨q, hq, e, -⟩ := nx_in hnx hp
              rw [Int.toNat_natCast, e]
              refine ax_istore_n d_Ch_ringLength_42 (by decide) rfl ?_
              refine az_iinc d_Ch_ringLength_43 rfl (by decide) rfl ?_
              refine ax_goto 23 d_Ch_ringLength_46 (by decide) ?_
              have := ih q (len + 1) (by omega) hq
              rw [ringN, if_neg hpk, Int.toNat_natCast, e]
              exact this
      obtain ⟨q, hq, e, -⟩ := nx_in hnx hk
      rw [Int.toNat_natCast, e]
      have := key (xs.length - 1) q 1 (by omega) hq
      exact this
    · exfalso
      omega
/-- the way back: n bytes from a place on -/
def goN (xs : List Int) (nx : Nat → Int) : Nat → Int → List Int
  | 0, _ => []
  | f + 1, at_ => gx xs (nx at_.toNat).toNat :: goN xs nx f (nx at_.toNat)
theorem goN_len (xs : List Int) (nx : Nat → Int) : ∀ (f : Nat) (p : Int), (goN xs nx f p).length = f
  | 0, _ => rfl
  | f + 1, p => by simp [goN, goN_len xs nx f]
set_option maxRecDepth 100000 in
set_option maxHeartbeats 4000000 in
theorem c_Ch_follow {h0 : ax_H} {r ra cap t ta tcap : Nat} {xs ts : List Int} {nx off : Nat → Int} (hR : Rw h0 r ra cap xs) (hT : Rw h0 t ta tcap ts) (hn : xs.length ≤ 900) (hnt : xs.length ≤ tcap) (hH : Hs h0 (ChL xs.length nx off)) (hnx : isNx xs nx) {o : Nat} (ho : o < xs.length ∨ (o = 0 ∧ xs.length = 0))
    (hd1 : [t, ta].contains r = false) (hd2 : [t, ta].contains ra = false) (hd3 : ([15, 16, 17].all fun a => ![t, ta].contains a) = true) :
    ax_Cv m_Ch_follow 1 [.ref 15, .ref r, .int (iv o), .ref t] h0 (fun h1 => Rw h1 t ta tcap (goN xs nx xs.length o) ∧ Fr [t, ta] h0 h1) := by
  have hszt := hT.sz
  refine ax_enter [some (.ref 15), some (.ref r), some (.int (iv o)), some (.ref t), none, none] rfl (Nat.le_of_ble_eq_true rfl) (by decide) ?_
  refine ax_aload_n d_Ch_follow_0 rfl ?_
  refine az_iconst d_Ch_follow_1 ?_
  refine ax_cV1 d_Ch_follow_2 v_Rw_shorten lk_Ch_41 (by first | assumption | exact hH.g 0 rfl | exact hH.g 1 rfl | exact hH.g 2 rfl) (by decide) (Nat.le_of_ble_eq_true rfl) (cm_v (c_Rw_shorten hT (n := 0) (by omega)) (fun h1 hp => ?_))
  obtain ⟨hT1, hF1⟩ := hp
  refine ax_iload_n d_Ch_follow_5 rfl ?_
  refine ax_istore d_Ch_follow_6 (by decide) rfl ?_
  refine az_iconst d_Ch_follow_8 ?_
  refine ax_istore d_Ch_follow_9 (by decide) rfl ?_
  have key : ∀ (f i p : Nat) (h : ax_H) (ys : List Int), i + f = xs.length → (p < xs.length ∨ f = 0) → Rw h t ta tcap ys → ys.length = i → ys ++ goN xs nx f p = goN xs nx xs.length o → Fr [t, ta] h0 h →
      ax_W m_Ch_follow 1 11 [some (.ref 15), some (.ref r), some (.int (iv o)), some (.ref t), some (.int (iv p)), some (.int (iv i))] [] h (fun r0 h1 => r0 = none ∧ Rw h1 t ta tcap (goN xs nx xs.length o) ∧ Fr [t, ta] h0 h1) := by
    intro f
    induction f with
    | zero =>
      intro i p h ys he hp hT hl hy hF
      have hH := hH.fr hF hd3
      refine ax_iload d_Ch_follow_11 rfl ?_
      refine ax_aload_n d_Ch_follow_13 rfl ?_
      refine ax_get d_Ch_follow_14 fg_Ch_30 (by first | assumption | exact hH.g 0 rfl | exact hH.g 1 rfl | exact hH.g 2 rfl) (by rfl) ?_
      refine az_icmp_ge 59 d_Ch_follow_17 (by decide) (by omega) (by omega) (fun hc => ?_) (fun hc => ?_)
      · refine ax_vret d_Ch_follow_59 rfl ?_
        refine ⟨rfl, ?_, hF⟩
        rw [← hy]
        simp only [goN, List.append_nil]
        exact hT
      · exfalso
        omega
    | succ f ih =>
      intro i p h ys he hp hT hl hy hF
      have hH := hH.fr hF hd3
      have hR := hR.fr hF hd1 hd2
      have hszr := hR.sz
      have hszt := hT.sz
      have hp : p < xs.length := by omega
      refine ax_iload d_Ch_follow_11 rfl ?_
      refine ax_aload_n d_Ch_follow_13 rfl ?_
      refine ax_get d_Ch_follow_14 fg_Ch_30 (by first | assumption | exact hH.g 0 rfl | exact hH.g 1 rfl | exact hH.g 2 rfl) (by rfl) ?_
      refine az_icmp_ge 59 d_Ch_follow_17 (by decide) (by omega) (by omega) (fun hc => ?_) (fun hc => ?_)
      · exfalso
        omega
      · refine ax_iload d_Ch_follow_20 rfl ?_
        refine az_if_lt 59 d_Ch_follow_22 (by decide) (by first | exact bz_in _ | omega) (fun hc => ?_) (fun hc => ?_)
        · exfalso
          omega
        · refine ax_iload d_Ch_follow_25 rfl ?_
          refine ax_aload_n d_Ch_follow_27 rfl ?_
          refine ax_get d_Ch_follow_28 fg_Ch_30 (by first | assumption | exact hH.g 0 rfl | exact hH.g 1 rfl | exact hH.g 2 rfl) (by rfl) ?_
          refine az_icmp_ge 59 d_Ch_follow_31 (by decide) (by omega) (by omega) (fun hc => ?_) (fun hc => ?_)
          · exfalso
            omega
          · refine ax_aload_n d_Ch_follow_34 rfl ?_
            refine ax_get d_Ch_follow_35 fg_Ch_9 (by first | assumption | exact hH.g 0 rfl | exact hH.g 1 rfl | exact hH.g 2 rfl) (by rfl) ?_
            refine ax_iload d_Ch_follow_38 rfl ?_
            refine az_iald d_Ch_follow_40 (by first | assumption | exact hH.g 0 rfl | exact hH.g 1 rfl | exact hH.g 2 rfl) (by omega) (by omega) (by omega) ?_
            obtain ⟨q, hq, e, -⟩ := nx_in hnx hp
            rw [Int.toNat_natCast, e]
            refine ax_istore d_Ch_follow_41 (by decide) rfl ?_
            refine ax_aload_n d_Ch_follow_43 rfl ?_
            refine ax_aload_n d_Ch_follow_44 rfl ?_
            refine ax_iload d_Ch_follow_45 rfl ?_
            have e1 : rAt xs q = gx xs q := by rw [rAt, if_pos (by omega)]; rfl
            refine ax_cV1 d_Ch_follow_47 v_Rw_at lk_Ch_37 (by first | assumption | exact hH.g 0 rfl | exact hH.g 1 rfl | exact hH.g 2 rfl) (by decide) (Nat.le_of_ble_eq_true rfl) (cm_i (c_Rw_at hR (i := q) (by omega)) (fun z h3 hz => ?_))
            obtain ⟨rfl, rfl⟩ := hz
            refine ax_cV1 d_Ch_follow_50 v_Rw_add lk_Ch_45 (by first | assumption | exact hH.g 0 rfl | exact hH.g 1 rfl | exact hH.g 2 rfl) (by decide) (Nat.le_of_ble_eq_true rfl) (cm_v (c_Rw_add hT _) (fun h4 hz => ?_))
            obtain ⟨hT4, hF4⟩ := hz
            refine az_iinc d_Ch_follow_53 rfl (by decide) rfl ?_
            refine ax_goto 11 d_Ch_follow_56 (by decide) ?_
            rw [radd, if_pos (by omega)] at hT4
            refine ih (i + 1) q h4 _ (by omega) (by omega) hT4 (by simp; omega) ?_ (hF.tr hF4)
            rw [← hy, List.append_assoc, goN, Int.toNat_natCast, e, Int.toNat_natCast, e1]
            rfl
  exact key xs.length 0 o h1 [] (by omega) (by omega) hT1 rfl rfl hF1
