/-! SortTransform's static helpers -/
section AXLZ
variable {M : ax_M} {d pc : Nat} {lv : ax_L} {st : List Value} {h : ax_H} {Q : Option Value → ax_H → Prop}
theorem az_l2i {x : Int64} (hd : decode M.2.1 pc = .ok (.l2i, 1)) (k : ax_W M d (pc + 1) lv (.int (iv x.toInt32.toInt) :: st) h Q) : ax_W M d pc lv (.long x :: st) h Q := ax_l2i hd (by rw [iv_of] at k; exact k)
end AXLZ
set_option maxRecDepth 100000 in
theorem c_S_byteOf {h0 : ax_H} {x : Int64} {k : Nat} (hk : k < 8) : ax_Ci m_S_byteOf 0 [.long x, .int (iv k)] h0 (fun z h1 => h1 = h0 ∧ z = byN x k) := by
  refine ax_enter [some (.long x), none, some (.int (iv k))] rfl (Nat.le_of_ble_eq_true rfl) (by decide) ?_
  refine ax_lload_n d_S_byteOf_0 rfl ?_
  refine az_bipush _ d_S_byteOf_1 (by decide) ?_
  refine ax_iload_n d_S_byteOf_3 rfl ?_
  refine az_imul d_S_byteOf_4 ?_
  refine ax_lushr d_S_byteOf_5 ?_
  refine az_l2i d_S_byteOf_6 ?_
  refine az_sipush _ d_S_byteOf_7 (by decide) ?_
  refine az_iand d_S_byteOf_10 ?_
  refine ax_iret d_S_byteOf_11 rfl ?_
  exact ⟨_, rfl, rfl, by_class x hk⟩
set_option maxRecDepth 100000 in
theorem c_S_isByte {h0 : ax_H} {i : Int} (hi : -2147483648 ≤ i ∧ i < 2147483648) : ax_Cz m_S_isByte 0 [.int (iv i)] h0 (fun b h1 => h1 = h0 ∧ b = decide (0 ≤ i ∧ i < 256)) := by
  refine ax_enter [some (.int (iv i))] rfl (Nat.le_of_ble_eq_true rfl) (by decide) ?_
  refine ax_iload_n d_S_isByte_0 rfl ?_
  refine az_if_lt 15 d_S_isByte_1 (by decide) (by first | exact bz_in _ | omega) (fun hc => ?_) (fun hc => ?_)
  · refine az_iconst d_S_isByte_15 ?_
    refine ax_zret d_S_isByte_16 rfl (by decide) ?_
    refine ⟨false, rfl, rfl, ?_⟩
    simp; omega
  · refine ax_iload_n d_S_isByte_4 rfl ?_
    refine az_sipush _ d_S_isByte_5 (by decide) ?_
    refine az_icmp_ge 15 d_S_isByte_8 (by decide) (by omega) (by omega) (fun hc => ?_) (fun hc => ?_)
    · refine az_iconst d_S_isByte_15 ?_
      refine ax_zret d_S_isByte_16 rfl (by decide) ?_
      refine ⟨false, rfl, rfl, ?_⟩
      simp; omega
    · refine az_iconst d_S_isByte_11 ?_
      refine ax_goto 16 d_S_isByte_12 (by decide) ?_
      refine ax_zret d_S_isByte_16 rfl (by decide) ?_
      refine ⟨true, rfl, rfl, ?_⟩
      simp; omega
def byL (x : Int64) (n : Nat) : List Int := mk n (fun j => byN x j)
theorem byL_succ (x : Int64) (n : Nat) : byL x (n + 1) = byL x n ++ [byN x n] := by
  unfold byL mk
  rw [List.range_succ, List.map_append]
  rfl
theorem byL_len (x : Int64) (n : Nat) : (byL x n).length = n := mk_len _ _
set_option maxRecDepth 100000 in
theorem c_S_addLowest {h0 : ax_H} {r ra cap : Nat} {xs : List Int} (hR : Rw h0 r ra cap xs) {x : Int64} {n : Int} (hn : -2147483648 ≤ n ∧ n < 2147483648) :
    ax_Ci m_S_addLowest 1 [.ref r, .long x, .int (iv n)] h0 (fun z h1 => if n < 1 ∨ 8 < n then z = -1 ∧ h1 = h0 else if (cap : Int) - xs.length < n then z = -3 ∧ h1 = h0 else z = xs.length + n ∧ Rw h1 r ra cap (xs ++ byL x n.toNat) ∧ Fr [r, ra] h0 h1) := by
  have hsz := hR.sz
  have hcc : cap ≤ 3000 := by obtain ⟨g, -, -, -, h1, -⟩ := hR; exact h1
  have hlc : xs.length ≤ cap := by obtain ⟨g, -, -, h1, -⟩ := hR; exact h1
  refine ax_enter [some (.ref r), some (.long x), none, some (.int (iv n)), none] rfl (Nat.le_of_ble_eq_true rfl) (by decide) ?_
  refine ax_iload_n d_S_addLowest_0 rfl ?_
  refine az_iconst d_S_addLowest_1 ?_
  refine az_icmp_lt 11 d_S_addLowest_2 (by decide) (by omega) (by omega) (fun hc => ?_) (fun hc => ?_)
  · refine az_iconst d_S_addLowest_11 ?_
    refine ax_iret d_S_addLowest_12 rfl ?_
    refine ⟨_, rfl, ?_⟩
    try dsimp only
    rw [if_pos (by omega)]
    exact ⟨rfl, rfl⟩
  · refine ax_iload_n d_S_addLowest_5 rfl ?_
    refine az_bipush _ d_S_addLowest_6 (by decide) ?_
    refine az_icmp_le 13 d_S_addLowest_8 (by decide) (by omega) (by omega) (fun hc => ?_) (fun hc => ?_)
    · refine ax_aload_n d_S_addLowest_13 rfl ?_
      refine ax_iload_n d_S_addLowest_14 rfl ?_
      refine ax_cV1 d_S_addLowest_15 v_Rw_hasRoom lk_S_53 (by first | assumption ) (by decide) (Nat.le_of_ble_eq_true rfl) (cm_z (c_Rw_hasRoom hR hn) (fun b h1 hp => ?_))
      obtain ⟨rfl, rfl⟩ := hp
      refine az_if_ne 24 d_S_addLowest_18 (by decide) (bz_in _) (fun hcb => ?_) (fun hcb => ?_)
      · have hroom := of_decide_eq_true (bz_t hcb)
        refine az_iconst d_S_addLowest_24 ?_
        refine ax_istore d_S_addLowest_25 (by decide) rfl ?_
        have key : ∀ (f j : Nat) (h : ax_H), j + f = n.toNat → Rw h r ra cap (xs ++ byL x j) → Fr [r, ra] h1 h →
            ax_W m_S_addLowest 1 27 [some (.ref r), some (.long x), none, some (.int (iv n)), some (.int (iv j))] [] h (fun r0 h2 => ∃ z : Int, r0 = some (.int (iv z)) ∧ (if n < 1 ∨ 8 < n then z = -1 ∧ h2 = h1 else if (cap : Int) - xs.length < n then z = -3 ∧ h2 = h1 else z = xs.length + n ∧ Rw h2 r ra cap (xs ++ byL x n.toNat) ∧ Fr [r, ra] h1 h2)) := by
          intro f
          induction f with
          | zero =>
            intro j h he hR2 hF2
            have hj : j = n.toNat := by omega
            subst hj
            have hsz := hR2.sz
            refine ax_iload d_S_addLowest_27 rfl ?_
            refine ax_iload_n d_S_addLowest_29 rfl ?_
            refine az_icmp_ge 49 d_S_addLowest_30 (by decide) (by omega) (by omega) (fun hc => ?_) (fun hc => ?_)
            · refine ax_aload_n d_S_addLowest_49 rfl ?_
              refine ax_get d_S_addLowest_50 fg_S_60 (by first | assumption ) (by rfl) ?_
              refine ax_iret d_S_addLowest_53 rfl ?_
              refine ⟨_, rfl, ?_⟩
              try dsimp only
              rw [if_neg (by omega), if_neg (by omega)]
              refine ⟨?_, hR2, hF2⟩
              rw [List.length_append, byL_len]
              omega
            · exfalso
              omega
          | succ f ih =>
            intro j h he hR2 hF2
            have hsz := hR2.sz
            refine ax_iload d_S_addLowest_27 rfl ?_
            refine ax_iload_n d_S_addLowest_29 rfl ?_
            refine az_icmp_ge 49 d_S_addLowest_30 (by decide) (by omega) (by omega) (fun hc => ?_) (fun hc => ?_)
            · exfalso
              omega
            · refine ax_aload_n d_S_addLowest_33 rfl ?_
              refine ax_lload_n d_S_addLowest_34 rfl ?_
              refine ax_iload d_S_addLowest_35 rfl ?_
              refine ax_cS2 d_S_addLowest_37 s_S_byteOf lk_S_207 (by decide) (Nat.le_of_ble_eq_true rfl) (cm_i (c_S_byteOf (x := x) (k := j) (by omega)) (fun z h3 hp => ?_))
              obtain ⟨rfl, rfl⟩ := hp
              refine ax_cV1 d_S_addLowest_40 v_Rw_add lk_S_211 (by first | assumption ) (by decide) (Nat.le_of_ble_eq_true rfl) (cm_v (c_Rw_add hR2 _) (fun h4 hp => ?_))
              obtain ⟨hR4, hF4⟩ := hp
              refine az_iinc d_S_addLowest_43 rfl (by decide) rfl ?_
              refine ax_goto 27 d_S_addLowest_46 (by decide) ?_
              refine ih (j + 1) h4 (by omega) ?_ (hF2.tr hF4)
              rw [radd, if_pos (by rw [List.length_append, byL_len]; omega), List.append_assoc, ← byL_succ] at hR4
              exact hR4
        refine key n.toNat 0 h1 (by omega) ?_ Fr.rf
        have e : byL x 0 = [] := rfl
        rw [e, List.append_nil]
        exact hR
      · have hroom := of_decide_eq_false (bz_f hcb)
        refine az_bipush _ d_S_addLowest_21 (by decide) ?_
        refine ax_iret d_S_addLowest_23 rfl ?_
        refine ⟨_, rfl, ?_⟩
        try dsimp only
        rw [if_neg (by omega), if_pos (by omega)]
        exact ⟨rfl, rfl⟩
    · refine az_iconst d_S_addLowest_11 ?_
      refine ax_iret d_S_addLowest_12 rfl ?_
      refine ⟨_, rfl, ?_⟩
      try dsimp only
      rw [if_pos (by omega)]
      exact ⟨rfl, rfl⟩
/-! THE CHECK -/
def cr1 (c : Int) : Int := if c < 0 then zxor (zshl c 1) 79764919 else zshl c 1
def crN : Nat → Int → Int
  | 0, c => c
  | n + 1, c => crN n (cr1 c)
def crB (c b : Int) : Int := crN 8 (zxor c (zshl b 24))
def crL (xs : List Int) : Int := xs.foldl crB (-1)
def crc (xs : List Int) : Int := zxor (crL xs) (-1)
theorem cr1_in (c : Int) : -2147483648 ≤ cr1 c ∧ cr1 c < 2147483648 := by
  unfold cr1
  split
  · exact zxor_in _ _
  · exact zshl_in _ _
theorem crN_in : ∀ (n : Nat) (c : Int), (-2147483648 ≤ c ∧ c < 2147483648) → -2147483648 ≤ crN n c ∧ crN n c < 2147483648
  | 0, c, h => h
  | n + 1, c, _ => crN_in n (cr1 c) (cr1_in c)
theorem crN_out : ∀ (n : Nat) (c : Int), crN (n + 1) c = cr1 (crN n c)
  | 0, c => rfl
  | n + 1, c => by
    rw [crN, crN_out n (cr1 c)]
    rfl
theorem crc_in (xs : List Int) : -2147483648 ≤ crc xs ∧ crc xs < 2147483648 := zxor_in _ _
set_option maxRecDepth 100000 in
theorem c_S_checkOf {h0 : ax_H} {r ra cap : Nat} {xs : List Int} (hR : Rw h0 r ra cap xs) : ax_Ci m_S_checkOf 1 [.ref r] h0 (fun z h1 => h1 = h0 ∧ z = crc xs) := by
  have hsz := hR.sz
  have hcc : cap ≤ 3000 := by obtain ⟨g, -, -, -, h1, -⟩ := hR; exact h1
  have hlc : xs.length ≤ cap := by obtain ⟨g, -, -, h1, -⟩ := hR; exact h1
  refine ax_enter [some (.ref r), none, none, none] rfl (Nat.le_of_ble_eq_true rfl) (by decide) ?_
  refine az_iconst d_S_checkOf_0 ?_
  refine ax_istore_n d_S_checkOf_1 (by decide) rfl ?_
  refine az_iconst d_S_checkOf_2 ?_
  refine ax_istore_n d_S_checkOf_3 (by decide) rfl ?_
  have outer : ∀ (f i : Nat) (c : Int), i + f = xs.length → (-2147483648 ≤ c ∧ c < 2147483648) → c = crL (xs.take i) → ∀ v3 : Option Value,
      ax_W m_S_checkOf 1 4 [some (.ref r), some (.int (iv c)), some (.int (iv i)), v3] [] h0 (fun r0 h1 => ∃ z : Int, r0 = some (.int (iv z)) ∧ h1 = h0 ∧ z = crc xs) := by
    intro f
    induction f with
    | zero =>
      intro i c he hc0 hcc2 v3
      refine ax_iload_n d_S_checkOf_4 rfl ?_
      refine ax_aload_n d_S_checkOf_5 rfl ?_
      refine ax_get d_S_checkOf_6 fg_S_60 (by first | assumption ) (by rfl) ?_
      refine az_icmp_ge 60 d_S_checkOf_9 (by decide) (by omega) (by omega) (fun hc => ?_) (fun hc => ?_)
      · refine ax_iload_n d_S_checkOf_60 rfl ?_
        refine az_iconst d_S_checkOf_61 ?_
        refine az_ixor d_S_checkOf_62 ?_
        refine ax_iret d_S_checkOf_63 rfl ?_
        refine ⟨_, rfl, rfl, ?_⟩
        rw [hcc2, List.take_of_length_le (by omega)]
        rfl
      · exfalso
        omega
    | succ f ih =>
      intro i c he hc0 hcc2 v3
      have e1 : rAt xs i = gx xs i := by rw [rAt, if_pos (by omega)]; rfl
      refine ax_iload_n d_S_checkOf_4 rfl ?_
      refine ax_aload_n d_S_checkOf_5 rfl ?_
      refine ax_get d_S_checkOf_6 fg_S_60 (by first | assumption ) (by rfl) ?_
      refine az_icmp_ge 60 d_S_checkOf_9 (by decide) (by omega) (by omega) (fun hc => ?_) (fun hc => ?_)
      · exfalso
        omega
      · refine ax_iload_n d_S_checkOf_12 rfl ?_
        refine ax_aload_n d_S_checkOf_13 rfl ?_
        refine ax_iload_n d_S_checkOf_14 rfl ?_
        refine ax_cV1 d_S_checkOf_15 v_Rw_at lk_S_67 (by first | assumption ) (by decide) (Nat.le_of_ble_eq_true rfl) (cm_i (c_Rw_at hR (i := i) (by omega)) (fun z h3 hp => ?_))
        obtain ⟨rfl, rfl⟩ := hp
        rw [e1]
        refine az_bipush _ d_S_checkOf_18 (by decide) ?_
        refine az_ishl d_S_checkOf_20 ?_
        refine az_ixor d_S_checkOf_21 ?_
        refine ax_istore_n d_S_checkOf_22 (by decide) rfl ?_
        refine az_iconst d_S_checkOf_23 ?_
        refine ax_istore_n d_S_checkOf_24 (by decide) rfl ?_
        have inner : ∀ (g t : Nat) (c2 : Int), t + g = 8 → c2 = crN t (zxor c (zshl (gx xs i) 24)) → (-2147483648 ≤ c2 ∧ c2 < 2147483648) →
            ax_W m_S_checkOf 1 25 [some (.ref r), some (.int (iv c2)), some (.int (iv i)), some (.int (iv t))] [] h3 (fun r0 h1 => ∃ z : Int, r0 = some (.int (iv z)) ∧ h1 = h3 ∧ z = crc xs) := by
          intro g
          induction g with
          | zero =>
            intro t c2 he2 hc2 hb2
            have ht : t = 8 := by omega
            subst ht
            refine ax_iload_n d_S_checkOf_25 rfl ?_
            refine az_bipush _ d_S_checkOf_26 (by decide) ?_
            refine az_icmp_ge 54 d_S_checkOf_28 (by decide) (by omega) (by omega) (fun hc => ?_) (fun hc => ?_)
            · refine az_iinc d_S_checkOf_54 rfl (by decide) rfl ?_
              refine ax_goto 4 d_S_checkOf_57 (by decide) ?_
              refine ih (i + 1) c2 (by omega) hb2 ?_ _
              rw [← take_succ_getD xs (by omega), crL, List.foldl_append, hc2, hcc2]
              rfl
            · exfalso
              omega
          | succ g ih2 =>
            intro t c2 he2 hc2 hb2
            refine ax_iload_n d_S_checkOf_25 rfl ?_
            refine az_bipush _ d_S_checkOf_26 (by decide) ?_
            refine az_icmp_ge 54 d_S_checkOf_28 (by decide) (by omega) (by omega) (fun hc => ?_) (fun hc => ?_)
            · exfalso
              omega
            · refine ax_iload_n d_S_checkOf_31 rfl ?_
              refine az_if_ge 44 d_S_checkOf_32 (by decide) (by first | exact bz_in _ | omega) (fun hc => ?_) (fun hc => ?_)
              · refine ax_iload_n d_S_checkOf_44 rfl ?_
                refine az_iconst d_S_checkOf_45 ?_
                refine az_ishl d_S_checkOf_46 ?_
                refine ax_istore_n d_S_checkOf_47 (by decide) rfl ?_
                refine az_iinc d_S_checkOf_48 rfl (by decide) rfl ?_
                refine ax_goto 25 d_S_checkOf_51 (by decide) ?_
                refine ih2 (t + 1) _ (by omega) ?_ (zshl_in _ _)
                rw [crN_out, ← hc2, cr1, if_neg (by omega)]
              · refine ax_iload_n d_S_checkOf_35 rfl ?_
                refine az_iconst d_S_checkOf_36 ?_
                refine az_ishl d_S_checkOf_37 ?_
                refine az_ldc 79764919 d_S_checkOf_38 cn_S_214 ?_
                refine az_ixor d_S_checkOf_40 ?_
                refine ax_goto 47 d_S_checkOf_41 (by decide) ?_
                refine ax_istore_n d_S_checkOf_47 (by decide) rfl ?_
                refine az_iinc d_S_checkOf_48 rfl (by decide) rfl ?_
                refine ax_goto 25 d_S_checkOf_51 (by decide) ?_
                refine ih2 (t + 1) _ (by omega) ?_ (zxor_in _ _)
                rw [crN_out, ← hc2, cr1, if_pos (by omega)]
        exact inner 8 0 _ (by omega) rfl (zxor_in _ _)
  exact outer xs.length 0 (-1) (by omega) (by omega) rfl none
