/-! StreamWriter's walks -/
def SwB (h : ax_H) (B : List Nat) : Prop := SwS h (P0 B) ∧ okB B
theorem SwB.fr {h h1 : ax_H} {B : List Nat} {S : List Nat} (k : SwB h B) (hF : Fr S h h1) (hd : ([39, 40, 41].all fun a => !S.contains a) = true) : SwB h1 B := ⟨k.1.fr hF hd, k.2⟩
theorem SwB.sz {h : ax_H} {B : List Nat} (k : SwB h B) : h[39]? = some (ob 8 [.ref 40, .int (iv (P0 B).2.1), .int (iv (P0 B).2.2)]) := k.1.1.g 0 rfl
theorem c_Sw_putB {h0 : ax_H} {B : List Nat} {v : Int} {w : Nat} (hS : SwB h0 B) (hw : w ≤ 32) (hcap : B.length + w ≤ 16000) :
    ax_Cv m_Sw_put 1 [.ref 39, .int (iv v), .int (iv w)] h0 (fun h1 => SwB h1 (B ++ bitsV v w) ∧ Fr WS h0 h1) := by
  have h1 := (P0_ok hS.2).2
  refine ax_Cl.mono (c_Sw_put (v := v) hS.1 hw (by omega)) (fun r h2 hp => ?_)
  obtain ⟨hr, hp1, hp2⟩ := hp
  refine ⟨hr, ⟨?_, okB_app hS.2 (okB_V _ _)⟩, hp2⟩
  rw [P0_app]
  exact hp1
theorem bt_or2 (m k p : Nat) : bt ((m ||| 2 ^ k : Nat) : Int) p = if p = k then 1 else bt (m : Int) p := by
  rw [bt_nat, bt_nat]
  have e : ∀ x : Nat, x / 2 ^ p % 2 = if x.testBit p = true then 1 else 0 := by
    intro x
    rw [Nat.testBit_eq_decide_div_mod_eq]
    have := Nat.mod_lt (x / 2 ^ p) (show 0 < 2 by decide)
    by_cases h : x / 2 ^ p % 2 = 1
    · simp [h]
    · simp [h]; omega
  rw [e, e, Nat.testBit_or, Nat.testBit_two_pow]
  by_cases h : p = k
  · subst h
    simp
  · have h2 : ¬ k = p := fun q => h q.symm
    simp [h, h2]
theorem bt_zero {m : Nat} (hm : m < 65536) (h : ∀ p : Nat, p < 16 → bt (m : Int) p = 0) : m = 0 := by
  apply Nat.eq_of_testBit_eq
  intro i
  rw [Nat.zero_testBit, Nat.testBit_eq_decide_div_mod_eq, decide_eq_false_iff_not]
  by_cases hi : i < 16
  · have := h i hi
    rw [bt_nat] at this
    omega
  · have : m < 2 ^ i := Nat.lt_of_lt_of_le hm (by
      have := Nat.pow_le_pow_right (show 0 < 2 by decide) (show 16 ≤ i by omega)
      omega)
    rw [Nat.div_eq_of_lt this]
    omega
theorem zor_pow {m k : Nat} (hm : m < 65536) (hk : k < 16) : zor (m : Int) ((2 ^ k : Nat) : Int) = ((m ||| 2 ^ k : Nat) : Int) ∧ m ||| 2 ^ k < 65536 := by
  have hb : m ||| 2 ^ k < 2 ^ 16 := Nat.or_lt_two_pow hm (Nat.pow_lt_pow_right (by decide) hk)
  refine ⟨?_, hb⟩
  unfold zor
  rw [iv_nat, iv_nat, nI_or, toInt_nI (by omega)]
set_option maxRecDepth 100000 in
theorem c_Sw_markOf {h0 : ax_H} {p : Nat} (hp : p < 16) : ax_Ci m_Sw_markOf 0 [.int (iv p)] h0 (fun z h1 => h1 = h0 ∧ z = ((2 ^ (15 - p) : Nat) : Int)) := by
  refine ax_enter [some (.int (iv p))] rfl (Nat.le_of_ble_eq_true rfl) (by decide) ?_
  refine az_iconst d_Sw_markOf_0 ?_
  refine az_bipush _ d_Sw_markOf_1 (by decide) ?_
  refine ax_iload_n d_Sw_markOf_3 rfl ?_
  refine az_isub d_Sw_markOf_4 ?_
  refine az_ishl d_Sw_markOf_5 ?_
  refine ax_iret d_Sw_markOf_6 rfl ?_
  refine ⟨_, rfl, rfl, ?_⟩
  have e : (15 : Int) - (p : Int) = ((15 - p : Nat) : Int) := by omega
  have h2 : 2 ^ (15 - p) ≤ 2 ^ 15 := Nat.pow_le_pow_right (by decide) (by omega)
  have := zshl_pow (v := 1) (k := 15 - p) (by omega) (by omega)
  rw [e, show (1 : Int) = ((1 : Nat) : Int) from rfl, this, Nat.one_mul]
set_option maxRecDepth 100000 in
set_option maxHeartbeats 4000000 in
theorem c_Sw_marksIn {h0 : ax_H} {l : List Int} (hL : Fl h0 l) (hb : Bs l) {g : Nat} (hg : g < 16) :
    ax_Ci m_Sw_marksIn 1 [.ref 19, .int (iv g)] h0 (fun z h1 => h1 = h0 ∧ ∃ m : Nat, z = m ∧ m < 65536 ∧ ∀ p : Nat, p < 16 → bt (m : Int) p = mkN l (16 * g + (15 - p))) := by
  have hsz := hL.sz
  have hl : l.length ≤ 256 := by obtain ⟨_, -, -, q⟩ := hL; exact q
  refine ax_enter [some (.ref 19), some (.int (iv g)), none, none, none] rfl (Nat.le_of_ble_eq_true rfl) (by decide) ?_
  refine az_iconst d_Sw_marksIn_0 ?_
  refine ax_istore_n d_Sw_marksIn_1 (by decide) rfl ?_
  refine az_iconst d_Sw_marksIn_2 ?_
  refine ax_istore_n d_Sw_marksIn_3 (by decide) rfl ?_
  have key : ∀ (f i m : Nat), i + f = l.length → m < 65536 → (∀ p : Nat, p < 16 → bt (m : Int) p = mkN (l.take i) (16 * g + (15 - p))) → ∀ v4 : Option Value,
      ax_W m_Sw_marksIn 1 4 [some (.ref 19), some (.int (iv g)), some (.int (iv m)), some (.int (iv i)), v4] [] h0 (fun r0 h1 => ∃ z : Int, r0 = some (.int (iv z)) ∧ h1 = h0 ∧ ∃ m : Nat, z = m ∧ m < 65536 ∧ ∀ p : Nat, p < 16 → bt (m : Int) p = mkN l (16 * g + (15 - p))) := by
    intro f
    induction f with
    | zero =>
      intro i m he hm hbt v4
      refine ax_iload_n d_Sw_marksIn_4 rfl ?_
      refine ax_aload_n d_Sw_marksIn_5 rfl ?_
      refine ax_get d_Sw_marksIn_6 fg_Sw_100 (by first | assumption ) (by rfl) ?_
      refine az_icmp_ge 45 d_Sw_marksIn_9 (by decide) (by omega) (by omega) (fun hc => ?_) (fun hc => ?_)
      · refine ax_iload_n d_Sw_marksIn_45 rfl ?_
        refine ax_iret d_Sw_marksIn_46 rfl ?_
        rw [List.take_of_length_le (by omega)] at hbt
        exact ⟨_, rfl, rfl, m, rfl, hm, hbt⟩
      · exfalso
        omega
    | succ f ih =>
      intro i m he hm hbt v4
      have b1 := hb i (by omega)
      have hb1 : 0 ≤ gx l i ∧ gx l i < 256 := b1
      have e1 : rAt l i = gx l i := by rw [rAt, if_pos (by omega)]; rfl
      have et : ∀ j : Nat, mkN (l.take (i + 1)) j = if gx l i = (j : Int) then 1 else mkN (l.take i) j := by
        intro j
        unfold mkN
        rw [← take_succ_getD l (by omega), cont_snoc]
        show (if ((l.take i).contains (j : Int) || decide (gx l i = (j : Int))) = true then 1 else 0) = _
        by_cases q : gx l i = (j : Int)
        · rw [if_pos q, decide_eq_true q, Bool.or_true, if_pos rfl]
        · rw [if_neg q, decide_eq_false q, Bool.or_false]
      refine ax_iload_n d_Sw_marksIn_4 rfl ?_
      refine ax_aload_n d_Sw_marksIn_5 rfl ?_
      refine ax_get d_Sw_marksIn_6 fg_Sw_100 (by first | assumption ) (by rfl) ?_
      refine az_icmp_ge 45 d_Sw_marksIn_9 (by decide) (by omega) (by omega) (fun hc => ?_) (fun hc => ?_)
      · exfalso
        omega
      · refine ax_aload_n d_Sw_marksIn_12 rfl ?_
        refine ax_iload_n d_Sw_marksIn_13 rfl ?_
        refine ax_cV1 d_Sw_marksIn_14 v_Fl_at lk_Sw_103 (by first | assumption ) (by decide) (Nat.le_of_ble_eq_true rfl) (cm_i (c_Fl_at hL (i := i) (by omega)) (fun z h3 hp => ?_))
        obtain ⟨rfl, rfl⟩ := hp
        rw [e1]
        refine ax_istore d_Sw_marksIn_17 (by decide) rfl ?_
        refine ax_iload d_Sw_marksIn_19 rfl ?_
        refine az_bipush _ d_Sw_marksIn_21 (by decide) ?_
        refine az_idiv d_Sw_marksIn_23 (by omega) (by omega) ?_
        refine ax_iload_n d_Sw_marksIn_24 rfl ?_
        refine az_icmp_ne 39 d_Sw_marksIn_25 (by decide) (by omega) (by omega) (fun hq => ?_) (fun hq => ?_)
        · refine az_iinc d_Sw_marksIn_39 rfl (by decide) rfl ?_
          refine ax_goto 4 d_Sw_marksIn_42 (by decide) ?_
          refine ih (i + 1) m (by omega) hm (fun p hp => ?_) _
          rw [hbt p hp, et, if_neg (by omega)]
        · refine ax_iload_n d_Sw_marksIn_28 rfl ?_
          refine ax_iload d_Sw_marksIn_29 rfl ?_
          refine az_bipush _ d_Sw_marksIn_31 (by decide) ?_
          refine az_irem d_Sw_marksIn_33 (by omega) (by omega) ?_
          have em : gx l i % 16 = ((gx l i % 16).toNat : Int) := by omega
          rw [em]
          refine ax_cS1 d_Sw_marksIn_34 s_Sw_markOf lk_Sw_97 (by decide) (Nat.le_of_ble_eq_true rfl) (cm_i (c_Sw_markOf (p := (gx l i % 16).toNat) (by omega)) (fun z h4 hp => ?_))
          obtain ⟨rfl, rfl⟩ := hp
          have hz := zor_pow hm (show 15 - (gx l i % 16).toNat < 16 by omega)
          refine az_ior d_Sw_marksIn_37 ?_
          refine ax_istore_n d_Sw_marksIn_38 (by decide) rfl ?_
          rw [hz.1]
          refine az_iinc d_Sw_marksIn_39 rfl (by decide) rfl ?_
          refine ax_goto 4 d_Sw_marksIn_42 (by decide) ?_
          refine ih (i + 1) _ (by omega) hz.2 (fun p hp => ?_) _
          rw [bt_or2, hbt p hp, et]
          by_cases q : p = 15 - (gx l i % 16).toNat
          · rw [if_pos q, if_pos (by omega)]
          · rw [if_neg q, if_neg (by omega)]
  refine key l.length 0 0 (by omega) (by omega) (fun p hp => ?_) none
  rw [bt_nat]
  unfold mkN
  simp
theorem marks_any {l : List Int} {g m : Nat} (hm : m < 65536) (h : ∀ p : Nat, p < 16 → bt (m : Int) p = mkN l (16 * g + (15 - p))) : m = 0 ↔ anyG l g ≠ 1 := by
  rw [ne_eq, anyG_iff]
  constructor
  · rintro rfl ⟨i, hi, hx⟩
    have := h (15 - i) (by omega)
    rw [show 15 - (15 - i) = i by omega, hx, bt_nat] at this
    simp at this
  · intro hn
    apply bt_zero hm
    intro p hp
    rw [h p hp]
    have := mkN_lt l (16 * g + (15 - p))
    by_cases q : mkN l (16 * g + (15 - p)) = 1
    · exact absurd ⟨15 - p, by omega, q⟩ hn
    · omega
set_option maxRecDepth 100000 in
set_option maxHeartbeats 4000000 in
theorem c_Sw_putList {h0 : ax_H} {l : List Int} {B : List Nat} (hL : Fl h0 l) (hb : Bs l) (hS : SwB h0 B) (hcap : B.length + 272 ≤ 16000) :
    ax_Cv m_Sw_putList 2 [.ref 39, .ref 19] h0 (fun h1 => SwB h1 (B ++ listB l) ∧ Fr WS h0 h1) := by
  have hszl := hL.sz
  refine ax_enter [some (.ref 39), some (.ref 19), none, none, none] rfl (Nat.le_of_ble_eq_true rfl) (by decide) ?_
  refine az_iconst d_Sw_putList_0 ?_
  refine ax_istore_n d_Sw_putList_1 (by decide) rfl ?_
  refine az_iconst d_Sw_putList_2 ?_
  refine ax_istore_n d_Sw_putList_3 (by decide) rfl ?_
  have second : ∀ (f g : Nat) (C : List Nat) (h : ax_H), g + f = 16 → SwB h C → Fr WS h0 h → C.length + 16 * f ≤ 16000 → C ++ gB l f g = B ++ listB l → ∀ (v2 : Int) (v4 : Option Value),
      ax_W m_Sw_putList 2 44 [some (.ref 39), some (.ref 19), some (.int (iv v2)), some (.int (iv g)), v4] [] h (fun r0 h1 => r0 = none ∧ SwB h1 (B ++ listB l) ∧ Fr WS h0 h1) := by
    intro f
    induction f with
    | zero =>
      intro g C h he hS hF hcap hs v2 v4
      refine ax_iload_n d_Sw_putList_44 rfl ?_
      refine az_bipush _ d_Sw_putList_45 (by decide) ?_
      refine az_icmp_ge 76 d_Sw_putList_47 (by decide) (by omega) (by omega) (fun hc => ?_) (fun hc => ?_)
      · refine ax_vret d_Sw_putList_76 rfl ?_
        rw [gB, List.append_nil] at hs
        rw [← hs]
        exact ⟨rfl, hS, hF⟩
      · exfalso
        omega
    | succ f ih =>
      intro g C h he hS hF hcap hs v2 v4
      have hL1 := hL.fr hF rfl
      have hszl := hL1.sz
      have hszw := hS.sz
      rw [gB] at hs
      refine ax_iload_n d_Sw_putList_44 rfl ?_
      refine az_bipush _ d_Sw_putList_45 (by decide) ?_
      refine az_icmp_ge 76 d_Sw_putList_47 (by decide) (by omega) (by omega) (fun hc => ?_) (fun hc => ?_)
      · exfalso
        omega
      · refine ax_aload_n d_Sw_putList_50 rfl ?_
        refine ax_iload_n d_Sw_putList_51 rfl ?_
        refine ax_cS2 d_Sw_putList_52 s_Sw_marksIn lk_Sw_93 (by decide) (Nat.le_of_ble_eq_true rfl) (cm_i (c_Sw_marksIn hL1 hb (g := g) (by omega)) (fun z h3 hp => ?_))
        obtain ⟨rfl, m, rfl, hm, hbt⟩ := hp
        have ha := marks_any hm hbt
        refine ax_istore d_Sw_putList_55 (by decide) rfl ?_
        refine ax_iload d_Sw_putList_57 rfl ?_
        refine az_if_eq 70 d_Sw_putList_59 (by decide) (by first | exact bz_in _ | omega) (fun hz => ?_) (fun hz => ?_)
        · rw [if_neg (ha.mp (by omega)), List.nil_append] at hs
          refine az_iinc d_Sw_putList_70 rfl (by decide) rfl ?_
          refine ax_goto 44 d_Sw_putList_73 (by decide) ?_
          exact ih (g + 1) C h3 (by omega) hS hF (by omega) hs _ _
        · rw [if_pos (by
            by_cases q : anyG l g = 1
            · exact q
            · have := ha.mpr q; omega)] at hs
          refine ax_aload_n d_Sw_putList_62 rfl ?_
          refine ax_iload d_Sw_putList_63 rfl ?_
          refine az_bipush _ d_Sw_putList_65 (by decide) ?_
          refine ax_cV2 d_Sw_putList_67 v_Sw_put lk_Sw_42 (by first | assumption ) (by decide) (Nat.le_of_ble_eq_true rfl) (cm_v (c_Sw_putB hS (v := m) (w := 16) (by omega) (by omega)) (fun h4 hp => ?_))
          obtain ⟨hS4, hF4⟩ := hp
          have eb : bitsV (m : Int) 16 = bitsF (fun p => mkN l (16 * g + (15 - p))) 16 := bitsF_cg hbt
          rw [eb] at hS4
          refine az_iinc d_Sw_putList_70 rfl (by decide) rfl ?_
          refine ax_goto 44 d_Sw_putList_73 (by decide) ?_
          refine ih (g + 1) _ h4 (by omega) hS4 (hF.tr hF4) (by rw [List.length_append, bitsF_len]; omega) ?_ _ _
          rw [List.append_assoc]
          exact hs
  have first : ∀ (f i m : Nat), i + f = 16 → m < 65536 → (∀ p : Nat, p < 16 → bt (m : Int) p = if 15 - p < i then anyG l (15 - p) else 0) → ∀ v4 : Option Value,
      ax_W m_Sw_putList 2 4 [some (.ref 39), some (.ref 19), some (.int (iv m)), some (.int (iv i)), v4] [] h0 (fun r0 h1 => r0 = none ∧ SwB h1 (B ++ listB l) ∧ Fr WS h0 h1) := by
    intro f
    induction f with
    | zero =>
      intro i m he hm hbt v4
      have hszw := hS.sz
      refine ax_iload_n d_Sw_putList_4 rfl ?_
      refine az_bipush _ d_Sw_putList_5 (by decide) ?_
      refine az_icmp_ge 35 d_Sw_putList_7 (by decide) (by omega) (by omega) (fun hc => ?_) (fun hc => ?_)
      · refine ax_aload_n d_Sw_putList_35 rfl ?_
        refine ax_iload_n d_Sw_putList_36 rfl ?_
        refine az_bipush _ d_Sw_putList_37 (by decide) ?_
        refine ax_cV2 d_Sw_putList_39 v_Sw_put lk_Sw_42 (by first | assumption ) (by decide) (Nat.le_of_ble_eq_true rfl) (cm_v (c_Sw_putB hS (v := m) (w := 16) (by omega) (by omega)) (fun h4 hp => ?_))
        obtain ⟨hS4, hF4⟩ := hp
        have e : bitsV (m : Int) 16 = bitsF (fun p => anyG l (15 - p)) 16 := bitsF_cg (fun p hp => by rw [hbt p hp, if_pos (by omega)])
        rw [e] at hS4
        refine az_iconst d_Sw_putList_42 ?_
        refine ax_istore_n d_Sw_putList_43 (by decide) rfl ?_
        refine second 16 0 _ h4 (by omega) hS4 hF4 (by rw [List.length_append, bitsF_len]; omega) ?_ _ _
        rw [List.append_assoc]
        rfl
      · exfalso
        omega
    | succ f ih =>
      intro i m he hm hbt v4
      have hlt := anyG_lt l i
      refine ax_iload_n d_Sw_putList_4 rfl ?_
      refine az_bipush _ d_Sw_putList_5 (by decide) ?_
      refine az_icmp_ge 35 d_Sw_putList_7 (by decide) (by omega) (by omega) (fun hc => ?_) (fun hc => ?_)
      · exfalso
        omega
      · refine ax_iload_n d_Sw_putList_10 rfl ?_
        refine ax_aload_n d_Sw_putList_11 rfl ?_
        refine ax_iload_n d_Sw_putList_12 rfl ?_
        refine ax_cS2 d_Sw_putList_13 s_Sw_marksIn lk_Sw_93 (by decide) (Nat.le_of_ble_eq_true rfl) (cm_i (c_Sw_marksIn hL hb (g := i) (by omega)) (fun z h3 hp => ?_))
        obtain ⟨rfl, m2, rfl, hm2, hbt2⟩ := hp
        have ha := marks_any hm2 hbt2
        refine az_if_ne 23 d_Sw_putList_16 (by decide) (by first | exact bz_in _ | omega) (fun hz => ?_) (fun hz => ?_)
        · refine ax_iload_n d_Sw_putList_23 rfl ?_
          refine ax_cS1 d_Sw_putList_24 s_Sw_markOf lk_Sw_97 (by decide) (Nat.le_of_ble_eq_true rfl) (cm_i (c_Sw_markOf (p := i) (by omega)) (fun z h4 hp => ?_))
          obtain ⟨rfl, rfl⟩ := hp
          have hz2 := zor_pow hm (show 15 - i < 16 by omega)
          refine az_ior d_Sw_putList_27 ?_
          rw [hz2.1]
          refine ax_istore_n d_Sw_putList_28 (by decide) rfl ?_
          refine az_iinc d_Sw_putList_29 rfl (by decide) rfl ?_
          refine ax_goto 4 d_Sw_putList_32 (by decide) ?_
          refine ih (i + 1) _ (by omega) hz2.2 (fun p hp => ?_) _
          rw [bt_or2, hbt p hp]
          have h1 : anyG l i = 1 := by
            by_cases q : anyG l i = 1
            · exact q
            · have := ha.mpr q; omega
          by_cases q : p = 15 - i
          · rw [if_pos q, if_pos (by omega), show 15 - p = i by omega, h1]
          · rw [if_neg q]
            by_cases q2 : 15 - p < i
            · rw [if_pos q2, if_pos (by omega)]
            · rw [if_neg q2, if_neg (by omega)]
        · refine az_iconst d_Sw_putList_19 ?_
          refine ax_goto 27 d_Sw_putList_20 (by decide) ?_
          refine az_ior d_Sw_putList_27 ?_
          have e0 : zor (m : Int) 0 = m := by
            have := nI_or m 0
            unfold zor
            rw [iv_nat, show iv 0 = nI 0 from rfl, nI_or, Nat.or_zero, toInt_nI (by omega)]
          rw [e0]
          refine ax_istore_n d_Sw_putList_28 (by decide) rfl ?_
          refine az_iinc d_Sw_putList_29 rfl (by decide) rfl ?_
          refine ax_goto 4 d_Sw_putList_32 (by decide) ?_
          refine ih (i + 1) m (by omega) hm (fun p hp => ?_) _
          rw [hbt p hp]
          by_cases q : 15 - p < i
          · rw [if_pos q, if_pos (by omega)]
          · rw [if_neg q]
            by_cases q2 : 15 - p < i + 1
            · rw [if_pos q2, show 15 - p = i by omega]
              have := ha.mp (by omega)
              omega
            · rw [if_neg q2]
  refine first 16 0 0 (by omega) (by omega) (fun p hp => ?_) none
  rw [if_neg (by omega), bt_nat]
  simp

set_option maxRecDepth 100000 in
set_option maxHeartbeats 4000000 in
theorem c_Sw_putLengths {h0 : ax_H} {n : Nat} {wt lg vl bl pl : Nat → Int} {B : List Nat} (hH : Hs h0 (CdL n wt lg vl bl pl)) (hn : n ≤ 258) (hn1 : 1 ≤ n) (hlg : okLg lg n) (hS : SwB h0 B) (hcap : B.length + (4 + 23 * n) ≤ 16000) :
    ax_Cv m_Sw_putLengths 2 [.ref 39, .ref 22] h0 (fun h1 => SwB h1 (B ++ lenB lg n) ∧ Fr WS h0 h1) := by
  have hszw := hS.sz
  have h0l := hlg 0 (by omega)
  have hsz : h0[22]? = _ := hH.g 0 rfl
  refine ax_enter [some (.ref 39), some (.ref 22), none, none, none] rfl (Nat.le_of_ble_eq_true rfl) (by decide) ?_
  refine ax_aload_n d_Sw_putLengths_0 rfl ?_
  refine az_iconst d_Sw_putLengths_1 ?_
  refine ax_cV1 d_Sw_putLengths_2 v_Cd_lengthOf lk_Sw_106 (by first | assumption ) (by decide) (Nat.le_of_ble_eq_true rfl) (cm_i (c_Cd_lengthOf hH hn (i := 0) (by omega)) (fun z h1 hp => ?_))
  obtain ⟨rfl, rfl⟩ := hp
  rw [if_pos (by omega)]
  have e0 : lg (Int.toNat 0) = lg 0 := rfl
  rw [e0]
  refine ax_istore_n d_Sw_putLengths_5 (by decide) rfl ?_
  refine ax_aload_n d_Sw_putLengths_6 rfl ?_
  refine ax_iload_n d_Sw_putLengths_7 rfl ?_
  refine az_iconst d_Sw_putLengths_8 ?_
  refine ax_cV2 d_Sw_putLengths_9 v_Sw_put lk_Sw_42 (by first | assumption ) (by decide) (Nat.le_of_ble_eq_true rfl) (cm_v (c_Sw_putB hS (v := lg 0) (w := 4) (by omega) (by omega)) (fun h4 hp => ?_))
  obtain ⟨hS4, hF4⟩ := hp
  refine az_iconst d_Sw_putLengths_12 ?_
  refine ax_istore_n d_Sw_putLengths_13 (by decide) rfl ?_
  have outer : ∀ (f s : Nat) (hd : Int) (C : List Nat) (h : ax_H), s + f = n → (1 ≤ hd ∧ hd ≤ 12) → SwB h C → Fr WS h1 h → C.length + 23 * f ≤ 16000 → C ++ lenR lg f s hd = B ++ lenB lg n → ∀ v4 : Option Value,
      ax_W m_Sw_putLengths 2 14 [some (.ref 39), some (.ref 22), some (.int (iv hd)), some (.int (iv s)), v4] [] h (fun r0 h2 => r0 = none ∧ SwB h2 (B ++ lenB lg n) ∧ Fr WS h1 h2) := by
    intro f
    induction f with
    | zero =>
      intro s hd C h he hh hS hF hcap hs v4
      have hsz : h[22]? = _ := (hH.fr hF rfl).g 0 rfl
      refine ax_iload_n d_Sw_putLengths_14 rfl ?_
      refine ax_aload_n d_Sw_putLengths_15 rfl ?_
      refine ax_get d_Sw_putLengths_16 fg_Sw_109 (by first | assumption ) (by rfl) ?_
      refine az_icmp_ge 77 d_Sw_putLengths_19 (by decide) (by omega) (by omega) (fun hc => ?_) (fun hc => ?_)
      · refine ax_vret d_Sw_putLengths_77 rfl ?_
        rw [lenR, List.append_nil] at hs
        rw [← hs]
        exact ⟨rfl, hS, hF⟩
      · exfalso
        omega
    | succ f ih =>
      intro s hd C h he hh hS hF hcap hs v4
      have hH1 := hH.fr hF rfl
      have hsz : h[22]? = _ := hH1.g 0 rfl
      have hls := hlg s (by omega)
      rw [lenR] at hs
      refine ax_iload_n d_Sw_putLengths_14 rfl ?_
      refine ax_aload_n d_Sw_putLengths_15 rfl ?_
      refine ax_get d_Sw_putLengths_16 fg_Sw_109 (by first | assumption ) (by rfl) ?_
      refine az_icmp_ge 77 d_Sw_putLengths_19 (by decide) (by omega) (by omega) (fun hc => ?_) (fun hc => ?_)
      · exfalso
        omega
      · refine ax_aload_n d_Sw_putLengths_22 rfl ?_
        refine ax_iload_n d_Sw_putLengths_23 rfl ?_
        refine ax_cV1 d_Sw_putLengths_24 v_Cd_lengthOf lk_Sw_106 (by first | assumption ) (by decide) (Nat.le_of_ble_eq_true rfl) (cm_i (c_Cd_lengthOf hH1 hn (i := s) (by omega)) (fun z h3 hp => ?_))
        obtain ⟨rfl, rfl⟩ := hp
        rw [if_pos (by omega), show ((s : Nat) : Int).toNat = s by omega]
        refine ax_istore d_Sw_putLengths_27 (by decide) rfl ?_
        have down : ∀ (k : Nat) (hd2 : Int) (C2 : List Nat) (h2 : ax_H), hd2 = lg s + k → (1 ≤ hd2 ∧ hd2 ≤ 12) → SwB h2 C2 → Fr WS h1 h2 → C2.length + 2 * k + 1 + 23 * f ≤ 16000 → C2 ++ (dnB k ++ ([0] ++ lenR lg f (s + 1) (lg s))) = B ++ lenB lg n →
            ax_W m_Sw_putLengths 2 47 [some (.ref 39), some (.ref 22), some (.int (iv hd2)), some (.int (iv s)), some (.int (iv (lg s)))] [] h2 (fun r0 h2 => r0 = none ∧ SwB h2 (B ++ lenB lg n) ∧ Fr WS h1 h2) := by
          intro k
          induction k with
          | zero =>
            intro hd2 C2 h2 e2 hh2 hS2 hF2 hc2 hs2
            have hszw := hS2.sz
            refine ax_iload_n d_Sw_putLengths_47 rfl ?_
            refine ax_iload d_Sw_putLengths_48 rfl ?_
            refine az_icmp_le 65 d_Sw_putLengths_50 (by decide) (by omega) (by omega) (fun hc => ?_) (fun hc => ?_)
            · refine ax_aload_n d_Sw_putLengths_65 rfl ?_
              refine az_iconst d_Sw_putLengths_66 ?_
              refine az_iconst d_Sw_putLengths_67 ?_
              refine ax_cV2 d_Sw_putLengths_68 v_Sw_put lk_Sw_42 (by first | assumption ) (by decide) (Nat.le_of_ble_eq_true rfl) (cm_v (c_Sw_putB hS2 (v := 0) (w := 1) (by omega) (by omega)) (fun h5 hp => ?_))
              obtain ⟨hS5, hF5⟩ := hp
              refine az_iinc d_Sw_putLengths_71 rfl (by decide) rfl ?_
              refine ax_goto 14 d_Sw_putLengths_74 (by decide) ?_
              have eh : hd2 = lg s := by omega
              subst eh
              refine ih (s + 1) _ _ h5 (by omega) hh2 hS5 (hF2.tr hF5) (by rw [List.length_append, bitsF_len]; omega) ?_ _
              rw [List.append_assoc]
              exact hs2
            · exfalso
              omega
          | succ k ih2 =>
            intro hd2 C2 h2 e2 hh2 hS2 hF2 hc2 hs2
            have hszw := hS2.sz
            refine ax_iload_n d_Sw_putLengths_47 rfl ?_
            refine ax_iload d_Sw_putLengths_48 rfl ?_
            refine az_icmp_le 65 d_Sw_putLengths_50 (by decide) (by omega) (by omega) (fun hc => ?_) (fun hc => ?_)
            · exfalso
              omega
            · refine ax_aload_n d_Sw_putLengths_53 rfl ?_
              refine az_iconst d_Sw_putLengths_54 ?_
              refine az_iconst d_Sw_putLengths_55 ?_
              refine ax_cV2 d_Sw_putLengths_56 v_Sw_put lk_Sw_42 (by first | assumption ) (by decide) (Nat.le_of_ble_eq_true rfl) (cm_v (c_Sw_putB hS2 (v := 3) (w := 2) (by omega) (by omega)) (fun h5 hp => ?_))
              obtain ⟨hS5, hF5⟩ := hp
              refine az_iinc d_Sw_putLengths_59 rfl (by decide) rfl ?_
              refine ax_goto 47 d_Sw_putLengths_62 (by decide) ?_
              refine ih2 (hd2 + -1) _ h5 (by omega) (by omega) hS5 (hF2.tr hF5) (by rw [List.length_append, bitsF_len]; omega) ?_
              rw [List.append_assoc]
              exact hs2
        have up : ∀ (k : Nat) (hd2 : Int) (C2 : List Nat) (h2 : ax_H), k = (lg s - hd2).toNat → (1 ≤ hd2 ∧ hd2 ≤ 12) → SwB h2 C2 → Fr WS h1 h2 → C2.length + 2 * k + 2 * (hd2 - lg s).toNat + 1 + 23 * f ≤ 16000 → C2 ++ (upB k ++ (dnB (hd2 - lg s).toNat ++ ([0] ++ lenR lg f (s + 1) (lg s)))) = B ++ lenB lg n →
            ax_W m_Sw_putLengths 2 29 [some (.ref 39), some (.ref 22), some (.int (iv hd2)), some (.int (iv s)), some (.int (iv (lg s)))] [] h2 (fun r0 h2 => r0 = none ∧ SwB h2 (B ++ lenB lg n) ∧ Fr WS h1 h2) := by
          intro k
          induction k with
          | zero =>
            intro hd2 C2 h2 e2 hh2 hS2 hF2 hc2 hs2
            refine ax_iload_n d_Sw_putLengths_29 rfl ?_
            refine ax_iload d_Sw_putLengths_30 rfl ?_
            refine az_icmp_ge 47 d_Sw_putLengths_32 (by decide) (by omega) (by omega) (fun hc => ?_) (fun hc => ?_)
            · exact down (hd2 - lg s).toNat hd2 C2 h2 (by omega) hh2 hS2 hF2 (by omega) hs2
            · exfalso
              omega
          | succ k ih2 =>
            intro hd2 C2 h2 e2 hh2 hS2 hF2 hc2 hs2
            have hszw := hS2.sz
            refine ax_iload_n d_Sw_putLengths_29 rfl ?_
            refine ax_iload d_Sw_putLengths_30 rfl ?_
            refine az_icmp_ge 47 d_Sw_putLengths_32 (by decide) (by omega) (by omega) (fun hc => ?_) (fun hc => ?_)
            · exfalso
              omega
            · refine ax_aload_n d_Sw_putLengths_35 rfl ?_
              refine az_iconst d_Sw_putLengths_36 ?_
              refine az_iconst d_Sw_putLengths_37 ?_
              refine ax_cV2 d_Sw_putLengths_38 v_Sw_put lk_Sw_42 (by first | assumption ) (by decide) (Nat.le_of_ble_eq_true rfl) (cm_v (c_Sw_putB hS2 (v := 2) (w := 2) (by omega) (by omega)) (fun h5 hp => ?_))
              obtain ⟨hS5, hF5⟩ := hp
              refine az_iinc d_Sw_putLengths_41 rfl (by decide) rfl ?_
              refine ax_goto 29 d_Sw_putLengths_44 (by decide) ?_
              have ed : (hd2 + 1 - lg s).toNat = (hd2 - lg s).toNat := by omega
              refine ih2 (hd2 + 1) _ h5 (by omega) (by omega) hS5 (hF2.tr hF5) (by rw [List.length_append, bitsF_len]; omega) ?_
              rw [List.append_assoc, ed]
              exact hs2
        refine up _ hd C h3 rfl hh hS hF (by omega) ?_
        rw [adjB, List.append_assoc, List.append_assoc] at hs
        exact hs
  refine outer n 0 (lg 0) _ h4 (by omega) h0l hS4 hF4 (by rw [List.length_append, bitsF_len]; omega) ?_ none
  rw [List.append_assoc]
  rfl
set_option maxRecDepth 100000 in
set_option maxHeartbeats 4000000 in
theorem c_Sw_putCodes {h0 : ax_H} {n : Nat} {wt lg vl bl pl : Nat → Int} {ss : List Int} {e : Int} {B : List Nat} (hH : Hs h0 (CdL n wt lg vl bl pl)) (hn : n ≤ 258) (hlg : okLg lg n) (hSy : Sy h0 ss e) (hss : inS ss n) (hS : SwB h0 B) (hcap : B.length + 12 * ss.length ≤ 16000) :
    ax_Cv m_Sw_putCodes 2 [.ref 39, .ref 18, .ref 22] h0 (fun h1 => SwB h1 (B ++ codB lg vl ss) ∧ Fr WS h0 h1) := by
  have hl9 : ss.length ≤ 901 := by obtain ⟨g, -, -, h1⟩ := hSy; exact h1
  refine ax_enter [some (.ref 39), some (.ref 18), some (.ref 22), none, none] rfl (Nat.le_of_ble_eq_true rfl) (by decide) ?_
  refine az_iconst d_Sw_putCodes_0 ?_
  refine ax_istore_n d_Sw_putCodes_1 (by decide) rfl ?_
  have key : ∀ (f i : Nat) (C : List Nat) (h : ax_H), i + f = ss.length → SwB h C → Fr WS h0 h → C.length + 12 * f ≤ 16000 → C ++ codB lg vl (ss.drop i) = B ++ codB lg vl ss → ∀ v4 : Option Value,
      ax_W m_Sw_putCodes 2 2 [some (.ref 39), some (.ref 18), some (.ref 22), some (.int (iv i)), v4] [] h (fun r0 h2 => r0 = none ∧ SwB h2 (B ++ codB lg vl ss) ∧ Fr WS h0 h2) := by
    intro f
    induction f with
    | zero =>
      intro i C h he hS hF hcap hs v4
      have hsz := (hSy.fr hF rfl).sz
      refine ax_iload_n d_Sw_putCodes_2 rfl ?_
      refine ax_aload_n d_Sw_putCodes_3 rfl ?_
      refine ax_get d_Sw_putCodes_4 fg_Sw_112 (by first | assumption ) (by rfl) ?_
      refine az_icmp_ge 39 d_Sw_putCodes_7 (by decide) (by omega) (by omega) (fun hc => ?_) (fun hc => ?_)
      · refine ax_vret d_Sw_putCodes_39 rfl ?_
        rw [List.drop_of_length_le (by omega), codB, List.append_nil] at hs
        rw [← hs]
        exact ⟨rfl, hS, hF⟩
      · exfalso
        omega
    | succ f ih =>
      intro i C h he hS hF hcap hs v4
      have hSy1 := hSy.fr hF rfl
      have hsz := hSy1.sz
      have hH1 := hH.fr hF rfl
      have hsz2 : h[22]? = _ := hH1.g 0 rfl
      have hszw := hS.sz
      have hg := hss (gx ss i) (inL_mem ⟨i, by omega, rfl⟩)
      have hls := hlg (gx ss i).toNat (by omega)
      have e1 : rAt ss i = gx ss i := by rw [rAt, if_pos (by omega)]; rfl
      rw [drop_gx (show i < ss.length by omega), codB] at hs
      refine ax_iload_n d_Sw_putCodes_2 rfl ?_
      refine ax_aload_n d_Sw_putCodes_3 rfl ?_
      refine ax_get d_Sw_putCodes_4 fg_Sw_112 (by first | assumption ) (by rfl) ?_
      refine az_icmp_ge 39 d_Sw_putCodes_7 (by decide) (by omega) (by omega) (fun hc => ?_) (fun hc => ?_)
      · exfalso
        omega
      · refine ax_aload_n d_Sw_putCodes_10 rfl ?_
        refine ax_iload_n d_Sw_putCodes_11 rfl ?_
        refine ax_cV1 d_Sw_putCodes_12 v_Sy_at lk_Sw_113 (by first | assumption ) (by decide) (Nat.le_of_ble_eq_true rfl) (cm_i (c_Sy_at hSy1 (i := i) (by omega)) (fun z h3 hp => ?_))
        obtain ⟨rfl, rfl⟩ := hp
        rw [e1]
        refine ax_istore d_Sw_putCodes_15 (by decide) rfl ?_
        refine ax_aload_n d_Sw_putCodes_17 rfl ?_
        refine ax_aload_n d_Sw_putCodes_18 rfl ?_
        refine ax_iload d_Sw_putCodes_19 rfl ?_
        refine ax_cV1 d_Sw_putCodes_21 v_Cd_valueOf lk_Sw_114 (by first | assumption ) (by decide) (Nat.le_of_ble_eq_true rfl) (cm_i (c_Cd_valueOf hH1 hn (i := gx ss i) (by omega)) (fun z h3 hp => ?_))
        obtain ⟨rfl, rfl⟩ := hp
        rw [if_pos (by omega)]
        refine ax_aload_n d_Sw_putCodes_24 rfl ?_
        refine ax_iload d_Sw_putCodes_25 rfl ?_
        refine ax_cV1 d_Sw_putCodes_27 v_Cd_lengthOf lk_Sw_106 (by first | assumption ) (by decide) (Nat.le_of_ble_eq_true rfl) (cm_i (c_Cd_lengthOf hH1 hn (i := gx ss i) (by omega)) (fun z h3 hp => ?_))
        obtain ⟨rfl, rfl⟩ := hp
        rw [if_pos (by omega), show lg (gx ss i).toNat = (((lg (gx ss i).toNat).toNat : Nat) : Int) by omega]
        refine ax_cV2 d_Sw_putCodes_30 v_Sw_put lk_Sw_42 (by first | assumption ) (by decide) (Nat.le_of_ble_eq_true rfl) (cm_v (c_Sw_putB hS (v := vl (gx ss i).toNat) (w := (lg (gx ss i).toNat).toNat) (by omega) (by omega)) (fun h5 hp => ?_))
        obtain ⟨hS5, hF5⟩ := hp
        refine az_iinc d_Sw_putCodes_33 rfl (by decide) rfl ?_
        refine ax_goto 2 d_Sw_putCodes_36 (by decide) ?_
        refine ih (i + 1) _ h5 (by omega) hS5 (hF.tr hF5) (by rw [List.length_append, bitsF_len]; omega) ?_ _
        rw [List.append_assoc]
        exact hs
  exact key ss.length 0 B h0 (by omega) hS Fr.rf (by omega) rfl none
