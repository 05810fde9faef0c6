/-! the reference: turns in order -/
theorem mod_nat (a i n : Nat) : ((a : Int) + (i : Int)) % (n : Int) = (((a + i) % n : Nat) : Int) := by
  rw [Int.natCast_emod]
  rfl
/-- the row it works with -/
def RwS (iz : Nat → Int) (ar : Nat → Nat → Int) (xs : List Int) : Prop := iz 2 = xs.length ∧ xs.length ≤ 900 ∧ la (ar 3) xs ∧ Bs xs
theorem RwS.fr {iz iz1 : Nat → Int} {ar ar1 : Nat → Nat → Int} {xs : List Int} {K K' : List Nat} (k : RwS iz ar xs) (hi : KI K iz iz1) (ha : KA K' ar ar1) (h1 : K.contains 2 = false) (h2 : K'.contains 3 = false) : RwS iz1 ar1 xs := by
  unfold RwS at k ⊢
  rw [hi 2 h1, ha 3 h2]
  exact k
theorem cx_Bs {xs : List Int} (hb : Bs xs) (i : Nat) : 0 ≤ cx xs i ∧ cx xs i < 256 := gx_Bs hb _
set_option maxRecDepth 100000 in
set_option maxHeartbeats 4000000 in
theorem c_Mo_parts {h0 : ax_H} {iz : Nat → Int} {ar : Nat → Nat → Int} {xs : List Int} (hH : MoH h0 iz ar) (hR : RwS iz ar xs) {a b : Nat} (ha : a < xs.length) (hb : b < xs.length) : ax_Ci m_Mo_parts 0 [.ref 47, .int (iv a), .int (iv b)] h0 (fun z h1 => h1 = h0 ∧ ∃ p : Nat, z = p ∧ isPt xs a b p) := by
  obtain ⟨e2, hn, hl, hbs⟩ := hR
  refine ax_enter [some (.ref 47), some (.int (iv a)), some (.int (iv b)), none] rfl (Nat.le_of_ble_eq_true rfl) (by decide) ?_
  refine az_iconst d_Mo_parts_0 ?_
  refine ax_istore_n d_Mo_parts_1 (by decide) rfl ?_
  have key : ∀ (f i : Nat), i + f = xs.length → (∀ j : Nat, j < i → cx xs (a + j) = cx xs (b + j)) →
      ax_W m_Mo_parts 0 2 [some (.ref 47), some (.int (iv a)), some (.int (iv b)), some (.int (iv i))] [] h0 (fun r0 h1 => ∃ z : Int, r0 = some (.int (iv z)) ∧ h1 = h0 ∧ ∃ p : Nat, z = p ∧ isPt xs a b p) := by
    intro f
    induction f with
    | zero =>
      intro i he hj
      refine ax_iload_n d_Mo_parts_2 rfl ?_
      refine ax_aload_n d_Mo_parts_3 rfl ?_
      refine ax_get d_Mo_parts_4 fg_Mo_87 (by first | assumption | exact hH.g 0 rfl | exact hH.g 1 rfl | exact hH.g 2 rfl | exact hH.g 3 rfl | exact hH.g 4 rfl | exact hH.g 5 rfl | exact hH.g 6 rfl | exact hH.g 7 rfl | exact hH.g 8 rfl | exact hH.g 9 rfl | exact hH.g 10 rfl | exact hH.g 11 rfl | exact hH.g 12 rfl | exact hH.g 13 rfl | exact hH.g 14 rfl | exact hH.g 15 rfl | exact hH.g 16 rfl | exact hH.g 17 rfl | exact hH.g 18 rfl) (by rfl) ?_
      refine az_icmp_ge 45 d_Mo_parts_7 (by decide) (by omega) (by omega) (fun hc => ?_) (fun hc => ?_)
      · refine ax_iload_n d_Mo_parts_45 rfl ?_
        refine ax_iret d_Mo_parts_46 rfl ?_
        exact ⟨_, rfl, rfl, i, rfl, by omega, hj, fun q => by omega⟩
      · exfalso
        omega
    | succ f ih =>
      intro i he hj
      have hma : ((a : Int) + (i : Int)) % iz 2 = (((a + i) % xs.length : Nat) : Int) := by rw [e2]; exact mod_nat a i _
      have hmb : ((b : Int) + (i : Int)) % iz 2 = (((b + i) % xs.length : Nat) : Int) := by rw [e2]; exact mod_nat b i _
      have la1 : (a + i) % xs.length < xs.length := Nat.mod_lt _ (by omega)
      have lb1 : (b + i) % xs.length < xs.length := Nat.mod_lt _ (by omega)
      have ga : ar 3 (((a + i) % xs.length : Nat) : Int).toNat = cx xs (a + i) := by rw [show (((a + i) % xs.length : Nat) : Int).toNat = (a + i) % xs.length by omega]; exact hl _ la1
      have gb : ar 3 (((b + i) % xs.length : Nat) : Int).toNat = cx xs (b + i) := by rw [show (((b + i) % xs.length : Nat) : Int).toNat = (b + i) % xs.length by omega]; exact hl _ lb1
      have ba1 := cx_Bs hbs (a + i)
      have bb1 := cx_Bs hbs (b + i)
      refine ax_iload_n d_Mo_parts_2 rfl ?_
      refine ax_aload_n d_Mo_parts_3 rfl ?_
      refine ax_get d_Mo_parts_4 fg_Mo_87 (by first | assumption | exact hH.g 0 rfl | exact hH.g 1 rfl | exact hH.g 2 rfl | exact hH.g 3 rfl | exact hH.g 4 rfl | exact hH.g 5 rfl | exact hH.g 6 rfl | exact hH.g 7 rfl | exact hH.g 8 rfl | exact hH.g 9 rfl | exact hH.g 10 rfl | exact hH.g 11 rfl | exact hH.g 12 rfl | exact hH.g 13 rfl | exact hH.g 14 rfl | exact hH.g 15 rfl | exact hH.g 16 rfl | exact hH.g 17 rfl | exact hH.g 18 rfl) (by rfl) ?_
      refine az_icmp_ge 45 d_Mo_parts_7 (by decide) (by omega) (by omega) (fun hc => ?_) (fun hc => ?_)
      · exfalso
        omega
      · refine ax_aload_n d_Mo_parts_10 rfl ?_
        refine ax_get d_Mo_parts_11 fg_Mo_13 (by first | assumption | exact hH.g 0 rfl | exact hH.g 1 rfl | exact hH.g 2 rfl | exact hH.g 3 rfl | exact hH.g 4 rfl | exact hH.g 5 rfl | exact hH.g 6 rfl | exact hH.g 7 rfl | exact hH.g 8 rfl | exact hH.g 9 rfl | exact hH.g 10 rfl | exact hH.g 11 rfl | exact hH.g 12 rfl | exact hH.g 13 rfl | exact hH.g 14 rfl | exact hH.g 15 rfl | exact hH.g 16 rfl | exact hH.g 17 rfl | exact hH.g 18 rfl) (by rfl) ?_
        refine ax_iload_n d_Mo_parts_14 rfl ?_
        refine ax_iload_n d_Mo_parts_15 rfl ?_
        refine az_iadd d_Mo_parts_16 ?_
        refine ax_aload_n d_Mo_parts_17 rfl ?_
        refine ax_get d_Mo_parts_18 fg_Mo_87 (by first | assumption | exact hH.g 0 rfl | exact hH.g 1 rfl | exact hH.g 2 rfl | exact hH.g 3 rfl | exact hH.g 4 rfl | exact hH.g 5 rfl | exact hH.g 6 rfl | exact hH.g 7 rfl | exact hH.g 8 rfl | exact hH.g 9 rfl | exact hH.g 10 rfl | exact hH.g 11 rfl | exact hH.g 12 rfl | exact hH.g 13 rfl | exact hH.g 14 rfl | exact hH.g 15 rfl | exact hH.g 16 rfl | exact hH.g 17 rfl | exact hH.g 18 rfl) (by rfl) ?_
        refine az_irem d_Mo_parts_21 (by omega) (by omega) ?_
        rw [hma]
        refine az_iald d_Mo_parts_22 (by first | assumption | exact hH.g 0 rfl | exact hH.g 1 rfl | exact hH.g 2 rfl | exact hH.g 3 rfl | exact hH.g 4 rfl | exact hH.g 5 rfl | exact hH.g 6 rfl | exact hH.g 7 rfl | exact hH.g 8 rfl | exact hH.g 9 rfl | exact hH.g 10 rfl | exact hH.g 11 rfl | exact hH.g 12 rfl | exact hH.g 13 rfl | exact hH.g 14 rfl | exact hH.g 15 rfl | exact hH.g 16 rfl | exact hH.g 17 rfl | exact hH.g 18 rfl) (by omega) (by omega) (by omega) ?_
        rw [ga]
        refine ax_aload_n d_Mo_parts_23 rfl ?_
        refine ax_get d_Mo_parts_24 fg_Mo_13 (by first | assumption | exact hH.g 0 rfl | exact hH.g 1 rfl | exact hH.g 2 rfl | exact hH.g 3 rfl | exact hH.g 4 rfl | exact hH.g 5 rfl | exact hH.g 6 rfl | exact hH.g 7 rfl | exact hH.g 8 rfl | exact hH.g 9 rfl | exact hH.g 10 rfl | exact hH.g 11 rfl | exact hH.g 12 rfl | exact hH.g 13 rfl | exact hH.g 14 rfl | exact hH.g 15 rfl | exact hH.g 16 rfl | exact hH.g 17 rfl | exact hH.g 18 rfl) (by rfl) ?_
        refine ax_iload_n d_Mo_parts_27 rfl ?_
        refine ax_iload_n d_Mo_parts_28 rfl ?_
        refine az_iadd d_Mo_parts_29 ?_
        refine ax_aload_n d_Mo_parts_30 rfl ?_
        refine ax_get d_Mo_parts_31 fg_Mo_87 (by first | assumption | exact hH.g 0 rfl | exact hH.g 1 rfl | exact hH.g 2 rfl | exact hH.g 3 rfl | exact hH.g 4 rfl | exact hH.g 5 rfl | exact hH.g 6 rfl | exact hH.g 7 rfl | exact hH.g 8 rfl | exact hH.g 9 rfl | exact hH.g 10 rfl | exact hH.g 11 rfl | exact hH.g 12 rfl | exact hH.g 13 rfl | exact hH.g 14 rfl | exact hH.g 15 rfl | exact hH.g 16 rfl | exact hH.g 17 rfl | exact hH.g 18 rfl) (by rfl) ?_
        refine az_irem d_Mo_parts_34 (by omega) (by omega) ?_
        rw [hmb]
        refine az_iald d_Mo_parts_35 (by first | assumption | exact hH.g 0 rfl | exact hH.g 1 rfl | exact hH.g 2 rfl | exact hH.g 3 rfl | exact hH.g 4 rfl | exact hH.g 5 rfl | exact hH.g 6 rfl | exact hH.g 7 rfl | exact hH.g 8 rfl | exact hH.g 9 rfl | exact hH.g 10 rfl | exact hH.g 11 rfl | exact hH.g 12 rfl | exact hH.g 13 rfl | exact hH.g 14 rfl | exact hH.g 15 rfl | exact hH.g 16 rfl | exact hH.g 17 rfl | exact hH.g 18 rfl) (by omega) (by omega) (by omega) ?_
        rw [gb]
        refine az_icmp_ne 45 d_Mo_parts_36 (by decide) (by omega) (by omega) (fun hne => ?_) (fun hne => ?_)
        · refine ax_iload_n d_Mo_parts_45 rfl ?_
          refine ax_iret d_Mo_parts_46 rfl ?_
          exact ⟨_, rfl, rfl, i, rfl, by omega, hj, fun _ => hne⟩
        · refine az_iinc d_Mo_parts_39 rfl (by decide) rfl ?_
          refine ax_goto 2 d_Mo_parts_42 (by decide) ?_
          refine ih (i + 1) (by omega) (fun j hj2 => ?_)
          by_cases e : j = i
          · subst e; exact hne
          · exact hj j (by omega)
  exact key xs.length 0 (by omega) (fun j hj => by omega)
set_option maxRecDepth 100000 in
set_option maxHeartbeats 4000000 in
theorem c_Mo_isAbove {h0 : ax_H} {iz : Nat → Int} {ar : Nat → Nat → Int} {xs : List Int} (hH : MoH h0 iz ar) (hR : RwS iz ar xs) {a b : Nat} (ha : a < xs.length) (hb : b < xs.length) : ax_Cz m_Mo_isAbove 1 [.ref 47, .int (iv a), .int (iv b)] h0 (fun z h1 => h1 = h0 ∧ z = decide (0 < cmpT xs a b)) := by
  have hR0 := hR
  obtain ⟨e2, hn, hl, hbs⟩ := hR
  refine ax_enter [some (.ref 47), some (.int (iv a)), some (.int (iv b)), none] rfl (Nat.le_of_ble_eq_true rfl) (by decide) ?_
  refine ax_aload_n d_Mo_isAbove_0 rfl ?_
  refine ax_iload_n d_Mo_isAbove_1 rfl ?_
  refine ax_iload_n d_Mo_isAbove_2 rfl ?_
  refine ax_cV2 d_Mo_isAbove_3 v_Mo_parts lk_Mo_93 (by first | assumption | exact hH.g 0 rfl | exact hH.g 1 rfl | exact hH.g 2 rfl | exact hH.g 3 rfl | exact hH.g 4 rfl | exact hH.g 5 rfl | exact hH.g 6 rfl | exact hH.g 7 rfl | exact hH.g 8 rfl | exact hH.g 9 rfl | exact hH.g 10 rfl | exact hH.g 11 rfl | exact hH.g 12 rfl | exact hH.g 13 rfl | exact hH.g 14 rfl | exact hH.g 15 rfl | exact hH.g 16 rfl | exact hH.g 17 rfl | exact hH.g 18 rfl) (by decide) (Nat.le_of_ble_eq_true rfl) (cm_i (c_Mo_parts hH hR0 ha hb) (fun z h1 hq => ?_))
  obtain ⟨rfl, p, rfl, hp⟩ := hq
  have hc := isPt_cmp hp
  obtain ⟨hp1, hp2, hp3⟩ := hp
  have hma : ((a : Int) + (p : Int)) % iz 2 = (((a + p) % xs.length : Nat) : Int) := by rw [e2]; exact mod_nat a p _
  have hmb : ((b : Int) + (p : Int)) % iz 2 = (((b + p) % xs.length : Nat) : Int) := by rw [e2]; exact mod_nat b p _
  have la1 : (a + p) % xs.length < xs.length := Nat.mod_lt _ (by omega)
  have lb1 : (b + p) % xs.length < xs.length := Nat.mod_lt _ (by omega)
  have ga : ar 3 (((a + p) % xs.length : Nat) : Int).toNat = cx xs (a + p) := by rw [show (((a + p) % xs.length : Nat) : Int).toNat = (a + p) % xs.length by omega]; exact hl _ la1
  have gb : ar 3 (((b + p) % xs.length : Nat) : Int).toNat = cx xs (b + p) := by rw [show (((b + p) % xs.length : Nat) : Int).toNat = (b + p) % xs.length by omega]; exact hl _ lb1
  have ba1 := cx_Bs hbs (a + p)
  have bb1 := cx_Bs hbs (b + p)
  refine ax_istore_n d_Mo_isAbove_6 (by decide) rfl ?_
  refine ax_iload_n d_Mo_isAbove_7 rfl ?_
  refine ax_aload_n d_Mo_isAbove_8 rfl ?_
  refine ax_get d_Mo_isAbove_9 fg_Mo_87 (by first | assumption | exact hH.g 0 rfl | exact hH.g 1 rfl | exact hH.g 2 rfl | exact hH.g 3 rfl | exact hH.g 4 rfl | exact hH.g 5 rfl | exact hH.g 6 rfl | exact hH.g 7 rfl | exact hH.g 8 rfl | exact hH.g 9 rfl | exact hH.g 10 rfl | exact hH.g 11 rfl | exact hH.g 12 rfl | exact hH.g 13 rfl | exact hH.g 14 rfl | exact hH.g 15 rfl | exact hH.g 16 rfl | exact hH.g 17 rfl | exact hH.g 18 rfl) (by rfl) ?_
  refine az_icmp_ge 48 d_Mo_isAbove_12 (by decide) (by omega) (by omega) (fun hpn => ?_) (fun hpn => ?_)
  · rw [if_pos (by omega)] at hc
    refine az_iconst d_Mo_isAbove_48 ?_
    refine ax_zret d_Mo_isAbove_49 rfl (by decide) ?_
    refine ⟨false, rfl, rfl, ?_⟩
    rw [hc]
    rfl
  · rw [if_neg (by omega)] at hc
    have hne := hp3 (by omega)
    refine ax_aload_n d_Mo_isAbove_15 rfl ?_
    refine ax_get d_Mo_isAbove_16 fg_Mo_13 (by first | assumption | exact hH.g 0 rfl | exact hH.g 1 rfl | exact hH.g 2 rfl | exact hH.g 3 rfl | exact hH.g 4 rfl | exact hH.g 5 rfl | exact hH.g 6 rfl | exact hH.g 7 rfl | exact hH.g 8 rfl | exact hH.g 9 rfl | exact hH.g 10 rfl | exact hH.g 11 rfl | exact hH.g 12 rfl | exact hH.g 13 rfl | exact hH.g 14 rfl | exact hH.g 15 rfl | exact hH.g 16 rfl | exact hH.g 17 rfl | exact hH.g 18 rfl) (by rfl) ?_
    refine ax_iload_n d_Mo_isAbove_19 rfl ?_
    refine ax_iload_n d_Mo_isAbove_20 rfl ?_
    refine az_iadd d_Mo_isAbove_21 ?_
    refine ax_aload_n d_Mo_isAbove_22 rfl ?_
    refine ax_get d_Mo_isAbove_23 fg_Mo_87 (by first | assumption | exact hH.g 0 rfl | exact hH.g 1 rfl | exact hH.g 2 rfl | exact hH.g 3 rfl | exact hH.g 4 rfl | exact hH.g 5 rfl | exact hH.g 6 rfl | exact hH.g 7 rfl | exact hH.g 8 rfl | exact hH.g 9 rfl | exact hH.g 10 rfl | exact hH.g 11 rfl | exact hH.g 12 rfl | exact hH.g 13 rfl | exact hH.g 14 rfl | exact hH.g 15 rfl | exact hH.g 16 rfl | exact hH.g 17 rfl | exact hH.g 18 rfl) (by rfl) ?_
    refine az_irem d_Mo_isAbove_26 (by omega) (by omega) ?_
    rw [hma]
    refine az_iald d_Mo_isAbove_27 (by first | assumption | exact hH.g 0 rfl | exact hH.g 1 rfl | exact hH.g 2 rfl | exact hH.g 3 rfl | exact hH.g 4 rfl | exact hH.g 5 rfl | exact hH.g 6 rfl | exact hH.g 7 rfl | exact hH.g 8 rfl | exact hH.g 9 rfl | exact hH.g 10 rfl | exact hH.g 11 rfl | exact hH.g 12 rfl | exact hH.g 13 rfl | exact hH.g 14 rfl | exact hH.g 15 rfl | exact hH.g 16 rfl | exact hH.g 17 rfl | exact hH.g 18 rfl) (by omega) (by omega) (by omega) ?_
    rw [ga]
    refine ax_aload_n d_Mo_isAbove_28 rfl ?_
    refine ax_get d_Mo_isAbove_29 fg_Mo_13 (by first | assumption | exact hH.g 0 rfl | exact hH.g 1 rfl | exact hH.g 2 rfl | exact hH.g 3 rfl | exact hH.g 4 rfl | exact hH.g 5 rfl | exact hH.g 6 rfl | exact hH.g 7 rfl | exact hH.g 8 rfl | exact hH.g 9 rfl | exact hH.g 10 rfl | exact hH.g 11 rfl | exact hH.g 12 rfl | exact hH.g 13 rfl | exact hH.g 14 rfl | exact hH.g 15 rfl | exact hH.g 16 rfl | exact hH.g 17 rfl | exact hH.g 18 rfl) (by rfl) ?_
    refine ax_iload_n d_Mo_isAbove_32 rfl ?_
    refine ax_iload_n d_Mo_isAbove_33 rfl ?_
    refine az_iadd d_Mo_isAbove_34 ?_
    refine ax_aload_n d_Mo_isAbove_35 rfl ?_
    refine ax_get d_Mo_isAbove_36 fg_Mo_87 (by first | assumption | exact hH.g 0 rfl | exact hH.g 1 rfl | exact hH.g 2 rfl | exact hH.g 3 rfl | exact hH.g 4 rfl | exact hH.g 5 rfl | exact hH.g 6 rfl | exact hH.g 7 rfl | exact hH.g 8 rfl | exact hH.g 9 rfl | exact hH.g 10 rfl | exact hH.g 11 rfl | exact hH.g 12 rfl | exact hH.g 13 rfl | exact hH.g 14 rfl | exact hH.g 15 rfl | exact hH.g 16 rfl | exact hH.g 17 rfl | exact hH.g 18 rfl) (by rfl) ?_
    refine az_irem d_Mo_isAbove_39 (by omega) (by omega) ?_
    rw [hmb]
    refine az_iald d_Mo_isAbove_40 (by first | assumption | exact hH.g 0 rfl | exact hH.g 1 rfl | exact hH.g 2 rfl | exact hH.g 3 rfl | exact hH.g 4 rfl | exact hH.g 5 rfl | exact hH.g 6 rfl | exact hH.g 7 rfl | exact hH.g 8 rfl | exact hH.g 9 rfl | exact hH.g 10 rfl | exact hH.g 11 rfl | exact hH.g 12 rfl | exact hH.g 13 rfl | exact hH.g 14 rfl | exact hH.g 15 rfl | exact hH.g 16 rfl | exact hH.g 17 rfl | exact hH.g 18 rfl) (by omega) (by omega) (by omega) ?_
    rw [gb]
    refine az_icmp_le 48 d_Mo_isAbove_41 (by decide) (by omega) (by omega) (fun hle => ?_) (fun hle => ?_)
    · rw [if_pos (by omega)] at hc
      refine az_iconst d_Mo_isAbove_48 ?_
      refine ax_zret d_Mo_isAbove_49 rfl (by decide) ?_
      refine ⟨false, rfl, rfl, ?_⟩
      rw [hc]
      rfl
    · rw [if_neg (by omega)] at hc
      refine az_iconst d_Mo_isAbove_44 ?_
      refine ax_goto 49 d_Mo_isAbove_45 (by decide) ?_
      refine ax_zret d_Mo_isAbove_49 rfl (by decide) ?_
      refine ⟨true, rfl, rfl, ?_⟩
      rw [hc]
      rfl
theorem ltT_lt {xs : List Int} {a b : Nat} (hab : a < b) : ltT xs a b = decide (¬ 0 < cmpT xs a b) := by
  have h1 := cmpL_rng (cx xs) xs.length a b
  unfold ltT
  by_cases e : cmpT xs a b < 0
  · simp [e]; omega
  · by_cases e2 : cmpT xs a b = 0
    · simp [e2, hab]
    · have : 0 < cmpT xs a b := by omega
      simp [e, e2, this]
theorem ltT_gt {xs : List Int} {a b : Nat} (h : 0 < cmpT xs a b) : ltT xs b a = true := by
  have h1 := cmpL_anti (cx xs) xs.length a b
  rw [ltT_iff]
  left
  show cmpL (cx xs) xs.length b a < 0
  have h2 : 0 < cmpL (cx xs) xs.length a b := h
  omega
