/-! Joiner: the heap -/
def hok (hp : Nat → Int) (s : Nat) : Prop := ∀ i : Nat, 0 < i → i < s → hp ((i - 1) / 2) ≤ hp i
def inH (hp : Nat → Int) (s : Nat) (v : Int) : Prop := ∃ i : Nat, i < s ∧ hp i = v
def jin (hp : Nat → Int) (s : Nat) : Prop := ∀ i j : Nat, i < s → j < s → hp i = hp j → i = j
theorem hok_min {hp : Nat → Int} {s : Nat} (h : hok hp s) : ∀ i : Nat, i < s → hp 0 ≤ hp i := by
  intro i
  induction i using Nat.strongRecOn with
  | ind i ih =>
    intro hi
    by_cases e : i = 0
    · rw [e]; exact Int.le_refl _
    · have h1 := h i (by omega) hi
      have h2 := ih ((i - 1) / 2) (by omega) (by omega)
      omega
theorem swap_in {hv hw : Nat → Int} {s a b : Nat} (ha : a < s) (hb : b < s) (hab : a ≠ b) (h1 : hw a = hv b) (h2 : hw b = hv a) (h3 : ∀ i : Nat, i ≠ a → i ≠ b → hw i = hv i) : (∀ v, inH hw s v ↔ inH hv s v) ∧ (jin hv s → jin hw s) := by
  refine ⟨fun v => ⟨?_, ?_⟩, fun h i j hi hj e => ?_⟩
  · rintro ⟨i, hi, e⟩
    by_cases e1 : i = a
    · exact ⟨b, hb, by rw [← h1, ← e1]; exact e⟩
    · by_cases e2 : i = b
      · exact ⟨a, ha, by rw [← h2, ← e2]; exact e⟩
      · exact ⟨i, hi, by rw [← h3 i e1 e2]; exact e⟩
  · rintro ⟨i, hi, e⟩
    by_cases e1 : i = a
    · exact ⟨b, hb, by rw [h2, ← e1]; exact e⟩
    · by_cases e2 : i = b
      · exact ⟨a, ha, by rw [h1, ← e2]; exact e⟩
      · exact ⟨i, hi, by rw [h3 i e1 e2]; exact e⟩
  · have val : ∀ i : Nat, i < s → ∃ i' : Nat, i' < s ∧ hw i = hv i' ∧ ((i = a ∧ i' = b) ∨ (i = b ∧ i' = a) ∨ (i ≠ a ∧ i ≠ b ∧ i' = i)) := by
      intro i hi
      by_cases e1 : i = a
      · exact ⟨b, hb, by rw [e1, h1], Or.inl ⟨e1, rfl⟩⟩
      · by_cases e2 : i = b
        · exact ⟨a, ha, by rw [e2, h2], Or.inr (Or.inl ⟨e2, rfl⟩)⟩
        · exact ⟨i, hi, h3 i e1 e2, Or.inr (Or.inr ⟨e1, e2, rfl⟩)⟩
    obtain ⟨i', hi', ei, ci⟩ := val i hi
    obtain ⟨j', hj', ej, cj⟩ := val j hj
    have := h i' j' hi' hj' (by rw [← ei, ← ej]; exact e)
    omega
def JnL (s : Nat) (hp nd pr dp : Nat → Int) : List (Nat × ax_C) := [(23, ob 5 [.ref 24, .ref 25, .ref 26, .ref 27, .int (iv s)]), (24, ia 258 hp), (25, ia 258 nd), (26, ia 516 pr), (27, ia 516 dp)]
abbrev JS : List Nat := [23, 24, 25, 26, 27]
def rgH (hp : Nat → Int) (s : Nat) : Prop := ∀ i : Nat, i < s → 0 ≤ hp i ∧ hp i < 2147483648
theorem rgH_of {hp hq : Nat → Int} {s t : Nat} {k : Int} (h : rgH hp s) (hk : 0 ≤ k ∧ k < 2147483648) (hs : ∀ v, inH hq t v → inH hp s v ∨ v = k) : rgH hq t := by
  intro i hi
  rcases hs _ ⟨i, hi, rfl⟩ with ⟨j, hj, e⟩ | e
  · rw [← e]; exact h j hj
  · rw [e]; exact hk
set_option maxRecDepth 100000 in
set_option maxHeartbeats 4000000 in
theorem c_Jn_push {h0 : ax_H} {s : Nat} {hp nd pr dp : Nat → Int} (hH : Hs h0 (JnL s hp nd pr dp)) (hs : s < 258) (hk : hok hp s) (hj : jin hp s) (hr : rgH hp s) {key : Int} (hkey : 0 ≤ key ∧ key < 2147483648) (hne : ¬ inH hp s key) :
    ax_Cv m_Jn_push 0 [.ref 23, .int (iv key)] h0 (fun h1 => (∃ hp', Hs h1 (JnL (s + 1) hp' nd pr dp) ∧ hok hp' (s + 1) ∧ jin hp' (s + 1) ∧ ∀ v, inH hp' (s + 1) v ↔ inH hp s v ∨ v = key) ∧ Fr JS h0 h1) := by
  have hF : Fr JS h0 h0 := Fr.rf
  refine ax_enter [some (.ref 23), some (.int (iv key)), none] rfl (Nat.le_of_ble_eq_true rfl) (by decide) ?_
  refine ax_aload_n d_Jn_push_0 rfl ?_
  refine ax_get d_Jn_push_1 fg_Jn_24 (by first | assumption | exact hH.g 0 rfl | exact hH.g 1 rfl | exact hH.g 2 rfl | exact hH.g 3 rfl | exact hH.g 4 rfl) (by rfl) ?_
  refine ax_aload_n d_Jn_push_4 rfl ?_
  refine ax_get d_Jn_push_5 fg_Jn_11 (by first | assumption | exact hH.g 0 rfl | exact hH.g 1 rfl | exact hH.g 2 rfl | exact hH.g 3 rfl | exact hH.g 4 rfl) (by rfl) ?_
  refine az_alen d_Jn_push_8 (by first | assumption | exact hH.g 0 rfl | exact hH.g 1 rfl | exact hH.g 2 rfl | exact hH.g 3 rfl | exact hH.g 4 rfl) ?_
  refine az_icmp_lt 13 d_Jn_push_9 (by decide) (by omega) (by omega) (fun hc => ?_) (fun hc => ?_)
  · refine ax_aload_n d_Jn_push_13 rfl ?_
    refine ax_get d_Jn_push_14 fg_Jn_24 (by first | assumption | exact hH.g 0 rfl | exact hH.g 1 rfl | exact hH.g 2 rfl | exact hH.g 3 rfl | exact hH.g 4 rfl) (by rfl) ?_
    refine ax_istore_n d_Jn_push_17 (by decide) rfl ?_
    refine ax_aload_n d_Jn_push_18 rfl ?_
    refine ax_dup d_Jn_push_19 rfl ?_
    refine ax_get d_Jn_push_20 fg_Jn_24 (by first | assumption | exact hH.g 0 rfl | exact hH.g 1 rfl | exact hH.g 2 rfl | exact hH.g 3 rfl | exact hH.g 4 rfl) (by rfl) ?_
    refine az_iconst d_Jn_push_23 ?_
    refine az_iadd d_Jn_push_24 ?_
    first | refine ah_put d_Jn_push_25 fp_Jn_24 hH hF 0 rfl rfl rfl (by first | rfl | decide) (Nat.le_of_ble_eq_true rfl) (fun h hH hF => ?_) | refine ah_put d_Jn_push_25 fp_Jn_24 hH hF 1 rfl rfl rfl (by first | rfl | decide) (Nat.le_of_ble_eq_true rfl) (fun h hH hF => ?_) | refine ah_put d_Jn_push_25 fp_Jn_24 hH hF 2 rfl rfl rfl (by first | rfl | decide) (Nat.le_of_ble_eq_true rfl) (fun h hH hF => ?_) | refine ah_put d_Jn_push_25 fp_Jn_24 hH hF 3 rfl rfl rfl (by first | rfl | decide) (Nat.le_of_ble_eq_true rfl) (fun h hH hF => ?_) | refine ah_put d_Jn_push_25 fp_Jn_24 hH hF 4 rfl rfl rfl (by first | rfl | decide) (Nat.le_of_ble_eq_true rfl) (fun h hH hF => ?_)
    have loop : ∀ (f at_ : Nat) (h : ax_H) (hq : Nat → Int), at_ ≤ f → at_ < s + 1 → Hs h (JnL (s + 1) hq nd pr dp) → Fr JS h0 h →
        (∀ i : Nat, 0 < i → i < s + 1 → i ≠ at_ → (i - 1) / 2 ≠ at_ → hq ((i - 1) / 2) ≤ hq i) → (∀ i : Nat, 0 < i → i < s + 1 → (i - 1) / 2 = at_ → key ≤ hq i ∧ (0 < at_ → hq ((at_ - 1) / 2) ≤ hq i)) →
        (∀ v, inH (up hq at_ key) (s + 1) v ↔ inH hp s v ∨ v = key) → jin (up hq at_ key) (s + 1) →
        ax_W m_Jn_push 0 28 [some (.ref 23), some (.int (iv key)), some (.int (iv at_))] [] h (fun r h1 => r = none ∧ (∃ hp', Hs h1 (JnL (s + 1) hp' nd pr dp) ∧ hok hp' (s + 1) ∧ jin hp' (s + 1) ∧ ∀ v, inH hp' (s + 1) v ↔ inH hp s v ∨ v = key) ∧ Fr JS h0 h1) := by
      intro f
      induction f with
      | zero =>
        intro at_ h hq hf hat hH hF hA hB hS hJ
        refine ax_iload_n d_Jn_push_28 rfl ?_
        refine az_if_le 71 d_Jn_push_29 (by decide) (by first | exact bz_in _ | omega) (fun hc => ?_) (fun hc => ?_)
        · refine ax_aload_n d_Jn_push_71 rfl ?_
          refine ax_get d_Jn_push_72 fg_Jn_11 (by first | assumption | exact hH.g 0 rfl | exact hH.g 1 rfl | exact hH.g 2 rfl | exact hH.g 3 rfl | exact hH.g 4 rfl) (by rfl) ?_
          refine ax_iload_n d_Jn_push_75 rfl ?_
          refine ax_iload_n d_Jn_push_76 rfl ?_
          first | refine ah_iast d_Jn_push_77 hH hF 0 rfl rfl (by omega) (by omega) (by omega) (by omega) (fun h hH hF => ?_) | refine ah_iast d_Jn_push_77 hH hF 1 rfl rfl (by omega) (by omega) (by omega) (by omega) (fun h hH hF => ?_) | refine ah_iast d_Jn_push_77 hH hF 2 rfl rfl (by omega) (by omega) (by omega) (by omega) (fun h hH hF => ?_) | refine ah_iast d_Jn_push_77 hH hF 3 rfl rfl (by omega) (by omega) (by omega) (by omega) (fun h hH hF => ?_) | refine ah_iast d_Jn_push_77 hH hF 4 rfl rfl (by omega) (by omega) (by omega) (by omega) (fun h hH hF => ?_)
          refine ax_vret d_Jn_push_78 rfl ?_
          rw [Int.toNat_natCast] at hH
          refine ⟨rfl, ⟨up hq at_ key, hH, fun i h1 h2 => ?_, hJ, hS⟩, hF⟩
          by_cases e1 : (i - 1) / 2 = at_
          · rw [e1, up_at, up_ne (by omega)]
            exact (hB i h1 h2 e1).1
          · rw [up_ne e1, up_ne (by omega)]
            exact hA i h1 h2 (by omega) e1
        · exfalso
          omega
      | succ f ih =>
        intro at_ h hq hf hat hH hF hA hB hS hJ
        have fin : (at_ = 0 ∨ hq ((at_ - 1) / 2) ≤ key) → ax_W m_Jn_push 0 71 [some (.ref 23), some (.int (iv key)), some (.int (iv at_))] [] h (fun r h1 => r = none ∧ (∃ hp', Hs h1 (JnL (s + 1) hp' nd pr dp) ∧ hok hp' (s + 1) ∧ jin hp' (s + 1) ∧ ∀ v, inH hp' (s + 1) v ↔ inH hp s v ∨ v = key) ∧ Fr JS h0 h1) := by
          intro hpar
          refine ax_aload_n d_Jn_push_71 rfl ?_
          refine ax_get d_Jn_push_72 fg_Jn_11 (by first | assumption | exact hH.g 0 rfl | exact hH.g 1 rfl | exact hH.g 2 rfl | exact hH.g 3 rfl | exact hH.g 4 rfl) (by rfl) ?_
          refine ax_iload_n d_Jn_push_75 rfl ?_
          refine ax_iload_n d_Jn_push_76 rfl ?_
          first | refine ah_iast d_Jn_push_77 hH hF 0 rfl rfl (by omega) (by omega) (by omega) (by omega) (fun h hH hF => ?_) | refine ah_iast d_Jn_push_77 hH hF 1 rfl rfl (by omega) (by omega) (by omega) (by omega) (fun h hH hF => ?_) | refine ah_iast d_Jn_push_77 hH hF 2 rfl rfl (by omega) (by omega) (by omega) (by omega) (fun h hH hF => ?_) | refine ah_iast d_Jn_push_77 hH hF 3 rfl rfl (by omega) (by omega) (by omega) (by omega) (fun h hH hF => ?_) | refine ah_iast d_Jn_push_77 hH hF 4 rfl rfl (by omega) (by omega) (by omega) (by omega) (fun h hH hF => ?_)
          refine ax_vret d_Jn_push_78 rfl ?_
          rw [Int.toNat_natCast] at hH
          refine ⟨rfl, ⟨up hq at_ key, hH, fun i h1 h2 => ?_, hJ, hS⟩, hF⟩
          by_cases e1 : (i - 1) / 2 = at_
          · rw [e1, up_at, up_ne (by omega)]
            exact (hB i h1 h2 e1).1
          · by_cases e2 : i = at_
            · subst e2
              rw [up_at, up_ne e1]
              omega
            · rw [up_ne e1, up_ne e2]
              exact hA i h1 h2 e2 e1
        refine ax_iload_n d_Jn_push_28 rfl ?_
        refine az_if_le 71 d_Jn_push_29 (by decide) (by first | exact bz_in _ | omega) (fun h0a => ?_) (fun h0a => ?_)
        · exact fin (Or.inl (by omega))
        · have hrp : 0 ≤ hq ((at_ - 1) / 2) ∧ hq ((at_ - 1) / 2) < 2147483648 := by
            have : rgH (up hq at_ key) (s + 1) := rgH_of hr hkey (fun v hv => (hS v).mp hv)
            have h9 := this ((at_ - 1) / 2) (by omega)
            rw [up_ne (by omega)] at h9
            exact h9
          have ep : ((at_ : Int) - 1) / 2 = (((at_ - 1) / 2 : Nat) : Int) := by omega
          refine ax_aload_n d_Jn_push_32 rfl ?_
          refine ax_get d_Jn_push_33 fg_Jn_11 (by first | assumption | exact hH.g 0 rfl | exact hH.g 1 rfl | exact hH.g 2 rfl | exact hH.g 3 rfl | exact hH.g 4 rfl) (by rfl) ?_
          refine ax_iload_n d_Jn_push_36 rfl ?_
          refine az_iconst d_Jn_push_37 ?_
          refine az_isub d_Jn_push_38 ?_
          refine az_iconst d_Jn_push_39 ?_
          refine az_idiv d_Jn_push_40 (by omega) (by omega) ?_
          refine az_iald d_Jn_push_41 (by first | assumption | exact hH.g 0 rfl | exact hH.g 1 rfl | exact hH.g 2 rfl | exact hH.g 3 rfl | exact hH.g 4 rfl) (by omega) (by omega) (by omega) ?_
          rw [ep, Int.toNat_natCast]
          refine ax_iload_n d_Jn_push_42 rfl ?_
          refine az_icmp_le 71 d_Jn_push_43 (by decide) (by omega) (by omega) (fun hc => ?_) (fun hc => ?_)
          · exact fin (Or.inr hc)
          · refine ax_aload_n d_Jn_push_46 rfl ?_
            refine ax_get d_Jn_push_47 fg_Jn_11 (by first | assumption | exact hH.g 0 rfl | exact hH.g 1 rfl | exact hH.g 2 rfl | exact hH.g 3 rfl | exact hH.g 4 rfl) (by rfl) ?_
            refine ax_iload_n d_Jn_push_50 rfl ?_
            refine ax_aload_n d_Jn_push_51 rfl ?_
            refine ax_get d_Jn_push_52 fg_Jn_11 (by first | assumption | exact hH.g 0 rfl | exact hH.g 1 rfl | exact hH.g 2 rfl | exact hH.g 3 rfl | exact hH.g 4 rfl) (by rfl) ?_
            refine ax_iload_n d_Jn_push_55 rfl ?_
            refine az_iconst d_Jn_push_56 ?_
            refine az_isub d_Jn_push_57 ?_
            refine az_iconst d_Jn_push_58 ?_
            refine az_idiv d_Jn_push_59 (by omega) (by omega) ?_
            refine az_iald d_Jn_push_60 (by first | assumption | exact hH.g 0 rfl | exact hH.g 1 rfl | exact hH.g 2 rfl | exact hH.g 3 rfl | exact hH.g 4 rfl) (by omega) (by omega) (by omega) ?_
            rw [ep, Int.toNat_natCast]
            first | refine ah_iast d_Jn_push_61 hH hF 0 rfl rfl (by omega) (by omega) (by omega) (by omega) (fun h hH hF => ?_) | refine ah_iast d_Jn_push_61 hH hF 1 rfl rfl (by omega) (by omega) (by omega) (by omega) (fun h hH hF => ?_) | refine ah_iast d_Jn_push_61 hH hF 2 rfl rfl (by omega) (by omega) (by omega) (by omega) (fun h hH hF => ?_) | refine ah_iast d_Jn_push_61 hH hF 3 rfl rfl (by omega) (by omega) (by omega) (by omega) (fun h hH hF => ?_) | refine ah_iast d_Jn_push_61 hH hF 4 rfl rfl (by omega) (by omega) (by omega) (by omega) (fun h hH hF => ?_)
            refine ax_iload_n d_Jn_push_62 rfl ?_
            refine az_iconst d_Jn_push_63 ?_
            refine az_isub d_Jn_push_64 ?_
            refine az_iconst d_Jn_push_65 ?_
            refine az_idiv d_Jn_push_66 (by omega) (by omega) ?_
            refine ax_istore_n d_Jn_push_67 (by decide) rfl ?_
            rw [ep]
            refine ax_goto 28 d_Jn_push_68 (by decide) ?_
            rw [Int.toNat_natCast] at hH
            have sw := swap_in (hv := up hq at_ key) (hw := up (up hq at_ (hq ((at_ - 1) / 2))) ((at_ - 1) / 2) key) (s := s + 1) (a := at_) (b := (at_ - 1) / 2) hat (by omega) (by omega) (by rw [up_ne (by omega), up_at, up_ne (by omega)]) (by rw [up_at, up_at]) (fun i h1 h2 => by rw [up_ne h2, up_ne h1, up_ne h1])
            refine ih ((at_ - 1) / 2) h _ (by omega) (by omega) hH hF (fun i h1 h2 h3 h4 => ?_) (fun i h1 h2 h3 => ?_) (fun v => by rw [sw.1 v]; exact hS v) (sw.2 hJ)
            · by_cases e1 : i = at_
              · subst e1; exact absurd rfl h4
              · by_cases e2 : (i - 1) / 2 = at_
                · rw [e2, up_at, up_ne e1]
                  exact (hB i h1 h2 e2).2 (by omega)
                · rw [up_ne e2, up_ne e1]
                  exact hA i h1 h2 e1 e2
            · have hpp : 0 < (at_ - 1) / 2 → hq (((at_ - 1) / 2 - 1) / 2) ≤ hq ((at_ - 1) / 2) := fun h5 => hA ((at_ - 1) / 2) h5 (by omega) (by omega) (by omega)
              by_cases e1 : i = at_
              · rw [e1, up_at]
                refine ⟨by omega, fun h5 => ?_⟩
                rw [up_ne (by omega)]
                exact hpp h5
              · have h6 := hA i h1 h2 e1 (by omega)
                rw [h3] at h6
                rw [up_ne e1]
                refine ⟨by omega, fun h5 => ?_⟩
                rw [up_ne (by omega)]
                have := hpp h5
                omega
    refine loop s s h hp (by omega) (by omega) hH hF (fun i h1 h2 h3 h4 => hk i h1 (by omega)) (fun i h1 h2 h3 => by omega) (fun v => ⟨?_, ?_⟩) ?_
    · rintro ⟨i, hi, e⟩
      by_cases e1 : i = s
      · rw [e1, up_at] at e; exact Or.inr e.symm
      · rw [up_ne e1] at e; exact Or.inl ⟨i, by omega, e⟩
    · rintro (⟨i, hi, e⟩ | e)
      · exact ⟨i, by omega, by rw [up_ne (by omega)]; exact e⟩
      · exact ⟨s, by omega, by rw [up_at]; exact e.symm⟩
    · intro i j hi hj' e
      by_cases e1 : i = s <;> by_cases e2 : j = s
      · omega
      · rw [e1, up_at, up_ne e2] at e
        exact absurd ⟨j, by omega, e.symm⟩ hne
      · rw [e2, up_at, up_ne e1] at e
        exact absurd ⟨i, by omega, e⟩ hne
      · rw [up_ne e1, up_ne e2] at e
        exact hj i j (by omega) (by omega) e
  · exfalso
    omega
set_option maxRecDepth 100000 in
set_option maxHeartbeats 4000000 in
theorem c_Jn_pop {h0 : ax_H} {s : Nat} {hp nd pr dp : Nat → Int} (hH : Hs h0 (JnL s hp nd pr dp)) (hs0 : 0 < s) (hs : s ≤ 258) (hk : hok hp s) (hj : jin hp s) (hr : rgH hp s) :
    ax_Ci m_Jn_pop 0 [.ref 23] h0 (fun z h1 => z = hp 0 ∧ (∃ hp', Hs h1 (JnL (s - 1) hp' nd pr dp) ∧ hok hp' (s - 1) ∧ jin hp' (s - 1) ∧ ∀ v, inH hp' (s - 1) v ↔ inH hp s v ∧ v ≠ hp 0) ∧ Fr JS h0 h1) := by
  have hF : Fr JS h0 h0 := Fr.rf
  refine ax_enter [some (.ref 23), none, none, none, none] rfl (Nat.le_of_ble_eq_true rfl) (by decide) ?_
  refine ax_aload_n d_Jn_pop_0 rfl ?_
  refine ax_get d_Jn_pop_1 fg_Jn_24 (by first | assumption | exact hH.g 0 rfl | exact hH.g 1 rfl | exact hH.g 2 rfl | exact hH.g 3 rfl | exact hH.g 4 rfl) (by rfl) ?_
  refine az_if_ne 9 d_Jn_pop_4 (by decide) (by first | exact bz_in _ | omega) (fun hc => ?_) (fun hc => ?_)
  · refine ax_aload_n d_Jn_pop_9 rfl ?_
    refine ax_get d_Jn_pop_10 fg_Jn_11 (by first | assumption | exact hH.g 0 rfl | exact hH.g 1 rfl | exact hH.g 2 rfl | exact hH.g 3 rfl | exact hH.g 4 rfl) (by rfl) ?_
    refine az_iconst d_Jn_pop_13 ?_
    refine az_iald d_Jn_pop_14 (by first | assumption | exact hH.g 0 rfl | exact hH.g 1 rfl | exact hH.g 2 rfl | exact hH.g 3 rfl | exact hH.g 4 rfl) (by omega) (by omega) (by omega) ?_
    refine ax_istore_n d_Jn_pop_15 (by decide) rfl ?_
    refine ax_aload_n d_Jn_pop_16 rfl ?_
    refine ax_dup d_Jn_pop_17 rfl ?_
    refine ax_get d_Jn_pop_18 fg_Jn_24 (by first | assumption | exact hH.g 0 rfl | exact hH.g 1 rfl | exact hH.g 2 rfl | exact hH.g 3 rfl | exact hH.g 4 rfl) (by rfl) ?_
    refine az_iconst d_Jn_pop_21 ?_
    refine az_isub d_Jn_pop_22 ?_
    first | refine ah_put d_Jn_pop_23 fp_Jn_24 hH hF 0 rfl rfl rfl (by first | rfl | decide) (Nat.le_of_ble_eq_true rfl) (fun h hH hF => ?_) | refine ah_put d_Jn_pop_23 fp_Jn_24 hH hF 1 rfl rfl rfl (by first | rfl | decide) (Nat.le_of_ble_eq_true rfl) (fun h hH hF => ?_) | refine ah_put d_Jn_pop_23 fp_Jn_24 hH hF 2 rfl rfl rfl (by first | rfl | decide) (Nat.le_of_ble_eq_true rfl) (fun h hH hF => ?_) | refine ah_put d_Jn_pop_23 fp_Jn_24 hH hF 3 rfl rfl rfl (by first | rfl | decide) (Nat.le_of_ble_eq_true rfl) (fun h hH hF => ?_) | refine ah_put d_Jn_pop_23 fp_Jn_24 hH hF 4 rfl rfl rfl (by first | rfl | decide) (Nat.le_of_ble_eq_true rfl) (fun h hH hF => ?_)
    have es : (s : Int) - 1 = ((s - 1 : Nat) : Int) := by omega
    rw [es] at hH
    have hH : Hs h (JnL (s - 1) hp nd pr dp) := hH
    refine ax_aload_n d_Jn_pop_26 rfl ?_
    refine ax_get d_Jn_pop_27 fg_Jn_11 (by first | assumption | exact hH.g 0 rfl | exact hH.g 1 rfl | exact hH.g 2 rfl | exact hH.g 3 rfl | exact hH.g 4 rfl) (by rfl) ?_
    refine ax_aload_n d_Jn_pop_30 rfl ?_
    refine ax_get d_Jn_pop_31 fg_Jn_24 (by first | assumption | exact hH.g 0 rfl | exact hH.g 1 rfl | exact hH.g 2 rfl | exact hH.g 3 rfl | exact hH.g 4 rfl) (by rfl) ?_
    refine az_iald d_Jn_pop_34 (by first | assumption | exact hH.g 0 rfl | exact hH.g 1 rfl | exact hH.g 2 rfl | exact hH.g 3 rfl | exact hH.g 4 rfl) (by omega) (by omega) (by omega) ?_
    rw [Int.toNat_natCast]
    refine ax_istore_n d_Jn_pop_35 (by decide) rfl ?_
    refine az_iconst d_Jn_pop_36 ?_
    refine ax_istore_n d_Jn_pop_37 (by decide) rfl ?_
    refine az_iconst d_Jn_pop_38 ?_
    refine ax_istore d_Jn_pop_39 (by decide) rfl ?_
    have hrk := hr (s - 1) (by omega)
    have loop : ∀ (f at_ : Nat) (h : ax_H) (hq : Nat → Int), s ≤ at_ + f → (at_ < s - 1 ∨ at_ = 0) → Hs h (JnL (s - 1) hq nd pr dp) → Fr JS h0 h → rgH hq (s - 1) →
        (∀ i : Nat, 0 < i → i < s - 1 → i ≠ at_ → (i - 1) / 2 ≠ at_ → hq ((i - 1) / 2) ≤ hq i) → (0 < at_ → hq ((at_ - 1) / 2) ≤ hp (s - 1)) → (∀ i : Nat, 0 < i → i < s - 1 → (i - 1) / 2 = at_ → 0 < at_ → hq ((at_ - 1) / 2) ≤ hq i) →
        (∀ v, inH (up hq at_ (hp (s - 1))) (s - 1) v ↔ inH hp s v ∧ v ≠ hp 0) → jin (up hq at_ (hp (s - 1))) (s - 1) →
        ax_W m_Jn_pop 0 41 [some (.ref 23), some (.int (iv (hp (0 : Int).toNat))), some (.int (iv (hp (s - 1)))), some (.int (iv at_)), some (.int (iv (2 * at_ + 1)))] [] h (fun r h1 => ∃ z : Int, r = some (.int (iv z)) ∧ z = hp 0 ∧ (∃ hp', Hs h1 (JnL (s - 1) hp' nd pr dp) ∧ hok hp' (s - 1) ∧ jin hp' (s - 1) ∧ ∀ v, inH hp' (s - 1) v ↔ inH hp s v ∧ v ≠ hp 0) ∧ Fr JS h0 h1) := by
      intro f
      induction f with
      | zero =>
        intro at_ h hq hf hat
        exfalso
        omega
      | succ f ih =>
        intro at_ h hq hf hat hH hF hR hA hB hC hS hJ
        have fin : ∀ v4 : Option Value, (∀ i : Nat, 0 < i → i < s - 1 → (i - 1) / 2 = at_ → hp (s - 1) ≤ hq i) → ax_W m_Jn_pop 0 123 [some (.ref 23), some (.int (iv (hp (0 : Int).toNat))), some (.int (iv (hp (s - 1)))), some (.int (iv at_)), v4] [] h (fun r h1 => ∃ z : Int, r = some (.int (iv z)) ∧ z = hp 0 ∧ (∃ hp', Hs h1 (JnL (s - 1) hp' nd pr dp) ∧ hok hp' (s - 1) ∧ jin hp' (s - 1) ∧ ∀ v, inH hp' (s - 1) v ↔ inH hp s v ∧ v ≠ hp 0) ∧ Fr JS h0 h1) := by
          intro v4 hch
          refine ax_aload_n d_Jn_pop_123 rfl ?_
          refine ax_get d_Jn_pop_124 fg_Jn_11 (by first | assumption | exact hH.g 0 rfl | exact hH.g 1 rfl | exact hH.g 2 rfl | exact hH.g 3 rfl | exact hH.g 4 rfl) (by rfl) ?_
          refine ax_iload_n d_Jn_pop_127 rfl ?_
          refine ax_iload_n d_Jn_pop_128 rfl ?_
          first | refine ah_iast d_Jn_pop_129 hH hF 0 rfl rfl (by omega) (by omega) (by omega) (by omega) (fun h hH hF => ?_) | refine ah_iast d_Jn_pop_129 hH hF 1 rfl rfl (by omega) (by omega) (by omega) (by omega) (fun h hH hF => ?_) | refine ah_iast d_Jn_pop_129 hH hF 2 rfl rfl (by omega) (by omega) (by omega) (by omega) (fun h hH hF => ?_) | refine ah_iast d_Jn_pop_129 hH hF 3 rfl rfl (by omega) (by omega) (by omega) (by omega) (fun h hH hF => ?_) | refine ah_iast d_Jn_pop_129 hH hF 4 rfl rfl (by omega) (by omega) (by omega) (by omega) (fun h hH hF => ?_)
          refine ax_iload_n d_Jn_pop_130 rfl ?_
          refine ax_iret d_Jn_pop_131 rfl ?_
          rw [Int.toNat_natCast] at hH
          refine ⟨_, rfl, rfl, ⟨up hq at_ (hp (s - 1)), hH, fun i h1 h2 => ?_, hJ, hS⟩, hF⟩
          by_cases e1 : (i - 1) / 2 = at_
          · rw [e1, up_at, up_ne (by omega)]
            exact hch i h1 h2 e1
          · by_cases e2 : i = at_
            · subst e2
              rw [up_at, up_ne e1]
              exact hB h1
            · rw [up_ne e1, up_ne e2]
              exact hA i h1 h2 e2 e1
        -- with the child chosen
        have go : ∀ c : Nat, 0 < c → c < s - 1 → (c - 1) / 2 = at_ → (∀ i : Nat, 0 < i → i < s - 1 → (i - 1) / 2 = at_ → hq c ≤ hq i) →
            ax_W m_Jn_pop 0 83 [some (.ref 23), some (.int (iv (hp (0 : Int).toNat))), some (.int (iv (hp (s - 1)))), some (.int (iv at_)), some (.int (iv c))] [] h (fun r h1 => ∃ z : Int, r = some (.int (iv z)) ∧ z = hp 0 ∧ (∃ hp', Hs h1 (JnL (s - 1) hp' nd pr dp) ∧ hok hp' (s - 1) ∧ jin hp' (s - 1) ∧ ∀ v, inH hp' (s - 1) v ↔ inH hp s v ∧ v ≠ hp 0) ∧ Fr JS h0 h1) := by
          intro c hc0 hcs hcp hcm
          have hrc := hR c hcs
          refine ax_aload_n d_Jn_pop_83 rfl ?_
          refine ax_get d_Jn_pop_84 fg_Jn_11 (by first | assumption | exact hH.g 0 rfl | exact hH.g 1 rfl | exact hH.g 2 rfl | exact hH.g 3 rfl | exact hH.g 4 rfl) (by rfl) ?_
          refine ax_iload d_Jn_pop_87 rfl ?_
          refine az_iald d_Jn_pop_89 (by first | assumption | exact hH.g 0 rfl | exact hH.g 1 rfl | exact hH.g 2 rfl | exact hH.g 3 rfl | exact hH.g 4 rfl) (by omega) (by omega) (by omega) ?_
          rw [Int.toNat_natCast]
          refine ax_iload_n d_Jn_pop_90 rfl ?_
          refine az_icmp_le 97 d_Jn_pop_91 (by decide) (by omega) (by omega) (fun hcmp => ?_) (fun hcmp => ?_)
          · refine ax_aload_n d_Jn_pop_97 rfl ?_
            refine ax_get d_Jn_pop_98 fg_Jn_11 (by first | assumption | exact hH.g 0 rfl | exact hH.g 1 rfl | exact hH.g 2 rfl | exact hH.g 3 rfl | exact hH.g 4 rfl) (by rfl) ?_
            refine ax_iload_n d_Jn_pop_101 rfl ?_
            refine ax_aload_n d_Jn_pop_102 rfl ?_
            refine ax_get d_Jn_pop_103 fg_Jn_11 (by first | assumption | exact hH.g 0 rfl | exact hH.g 1 rfl | exact hH.g 2 rfl | exact hH.g 3 rfl | exact hH.g 4 rfl) (by rfl) ?_
            refine ax_iload d_Jn_pop_106 rfl ?_
            refine az_iald d_Jn_pop_108 (by first | assumption | exact hH.g 0 rfl | exact hH.g 1 rfl | exact hH.g 2 rfl | exact hH.g 3 rfl | exact hH.g 4 rfl) (by omega) (by omega) (by omega) ?_
            rw [Int.toNat_natCast]
            first | refine ah_iast d_Jn_pop_109 hH hF 0 rfl rfl (by omega) (by omega) (by omega) (by omega) (fun h hH hF => ?_) | refine ah_iast d_Jn_pop_109 hH hF 1 rfl rfl (by omega) (by omega) (by omega) (by omega) (fun h hH hF => ?_) | refine ah_iast d_Jn_pop_109 hH hF 2 rfl rfl (by omega) (by omega) (by omega) (by omega) (fun h hH hF => ?_) | refine ah_iast d_Jn_pop_109 hH hF 3 rfl rfl (by omega) (by omega) (by omega) (by omega) (fun h hH hF => ?_) | refine ah_iast d_Jn_pop_109 hH hF 4 rfl rfl (by omega) (by omega) (by omega) (by omega) (fun h hH hF => ?_)
            refine ax_iload d_Jn_pop_110 rfl ?_
            refine ax_istore_n d_Jn_pop_112 (by decide) rfl ?_
            refine az_iconst d_Jn_pop_113 ?_
            refine ax_iload_n d_Jn_pop_114 rfl ?_
            refine az_imul d_Jn_pop_115 ?_
            refine az_iconst d_Jn_pop_116 ?_
            refine az_iadd d_Jn_pop_117 ?_
            refine ax_istore d_Jn_pop_118 (by decide) rfl ?_
            refine ax_goto 41 d_Jn_pop_120 (by decide) ?_
            rw [Int.toNat_natCast] at hH
            have e2 : (2 : Int) * (c : Int) + 1 = 2 * ((c : Nat) : Int) + 1 := rfl
            have sw := swap_in (hv := up hq at_ (hp (s - 1))) (hw := up (up hq at_ (hq c)) c (hp (s - 1))) (s := s - 1) (a := at_) (b := c) (by omega) hcs (by omega) (by rw [up_ne (by omega), up_at, up_ne (by omega)]) (by rw [up_at, up_at]) (fun i h1 h2 => by rw [up_ne h2, up_ne h1, up_ne h1])
            refine ih c h _ (by omega) (Or.inl hcs) hH hF (fun i hi => ?_) (fun i h1 h2 h3 h4 => ?_) (fun _ => ?_) (fun i h1 h2 h3 _ => ?_) (fun v => by rw [sw.1 v]; exact hS v) (sw.2 hJ)
            · by_cases e : i = at_
              · rw [e, up_at]; exact hrc
              · rw [up_ne e]; exact hR i hi
            · by_cases e1 : i = at_
              · subst e1
                rw [up_at, up_ne (by omega)]
                exact hC c hc0 hcs hcp h1
              · by_cases e3 : (i - 1) / 2 = at_
                · rw [e3, up_at, up_ne e1]
                  exact hcm i h1 h2 e3
                · rw [up_ne e3, up_ne e1]
                  exact hA i h1 h2 e1 e3
            · rw [hcp, up_at]
              exact hcmp
            · rw [hcp, up_at, up_ne (by omega)]
              have h6 := hA i h1 h2 (by omega) (by omega)
              rw [h3] at h6
              exact h6
          · refine ax_goto 123 d_Jn_pop_94 (by decide) ?_
            refine fin _ (fun i h1 h2 h3 => ?_)
            have := hcm i h1 h2 h3
            omega
        refine ax_iload d_Jn_pop_41 rfl ?_
        refine ax_aload_n d_Jn_pop_43 rfl ?_
        refine ax_get d_Jn_pop_44 fg_Jn_24 (by first | assumption | exact hH.g 0 rfl | exact hH.g 1 rfl | exact hH.g 2 rfl | exact hH.g 3 rfl | exact hH.g 4 rfl) (by rfl) ?_
        refine az_icmp_ge 123 d_Jn_pop_47 (by decide) (by omega) (by omega) (fun hc => ?_) (fun hc => ?_)
        · refine fin _ (fun i h1 h2 h3 => ?_)
          omega
        · refine ax_iload d_Jn_pop_50 rfl ?_
          refine az_iconst d_Jn_pop_52 ?_
          refine az_iadd d_Jn_pop_53 ?_
          refine ax_aload_n d_Jn_pop_54 rfl ?_
          refine ax_get d_Jn_pop_55 fg_Jn_24 (by first | assumption | exact hH.g 0 rfl | exact hH.g 1 rfl | exact hH.g 2 rfl | exact hH.g 3 rfl | exact hH.g 4 rfl) (by rfl) ?_
          refine az_icmp_ge 83 d_Jn_pop_58 (by decide) (by omega) (by omega) (fun hc => ?_) (fun hc => ?_)
          · refine go (2 * at_ + 1) (by omega) (by omega) (by omega) (fun i h1 h2 h3 => ?_)
            have : i = 2 * at_ + 1 := by omega
            rw [this]
            exact Int.le_refl _
          · have hr1 := hR (2 * at_ + 1) (by omega)
            have hr2 := hR (2 * at_ + 2) (by omega)
            have t1 : ((2 : Int) * (at_ : Int) + 1).toNat = 2 * at_ + 1 := by omega
            have t2 : ((2 : Int) * (at_ : Int) + 1 + 1).toNat = 2 * at_ + 2 := by omega
            refine ax_aload_n d_Jn_pop_61 rfl ?_
            refine ax_get d_Jn_pop_62 fg_Jn_11 (by first | assumption | exact hH.g 0 rfl | exact hH.g 1 rfl | exact hH.g 2 rfl | exact hH.g 3 rfl | exact hH.g 4 rfl) (by rfl) ?_
            refine ax_iload d_Jn_pop_65 rfl ?_
            refine az_iconst d_Jn_pop_67 ?_
            refine az_iadd d_Jn_pop_68 ?_
            refine az_iald d_Jn_pop_69 (by first | assumption | exact hH.g 0 rfl | exact hH.g 1 rfl | exact hH.g 2 rfl | exact hH.g 3 rfl | exact hH.g 4 rfl) (by omega) (by omega) (by omega) ?_
            rw [t2]
            refine ax_aload_n d_Jn_pop_70 rfl ?_
            refine ax_get d_Jn_pop_71 fg_Jn_11 (by first | assumption | exact hH.g 0 rfl | exact hH.g 1 rfl | exact hH.g 2 rfl | exact hH.g 3 rfl | exact hH.g 4 rfl) (by rfl) ?_
            refine ax_iload d_Jn_pop_74 rfl ?_
            refine az_iald d_Jn_pop_76 (by first | assumption | exact hH.g 0 rfl | exact hH.g 1 rfl | exact hH.g 2 rfl | exact hH.g 3 rfl | exact hH.g 4 rfl) (by omega) (by omega) (by omega) ?_
            rw [t1]
            refine az_icmp_ge 83 d_Jn_pop_77 (by decide) (by omega) (by omega) (fun hc => ?_) (fun hc => ?_)
            · refine go (2 * at_ + 1) (by omega) (by omega) (by omega) (fun i h1 h2 h3 => ?_)
              have : i = 2 * at_ + 1 ∨ i = 2 * at_ + 2 := by omega
              rcases this with e | e
              · rw [e]; exact Int.le_refl _
              · rw [e]; exact hc
            · refine az_iinc d_Jn_pop_80 rfl (by decide) rfl ?_
              refine go (2 * at_ + 2) (by omega) (by omega) (by omega) (fun i h1 h2 h3 => ?_)
              have : i = 2 * at_ + 1 ∨ i = 2 * at_ + 2 := by omega
              rcases this with e | e
              · rw [e]; omega
              · rw [e]; exact Int.le_refl _
    refine loop s 0 h hp (by omega) (Or.inr rfl) hH hF (fun i hi => hr i (by omega)) (fun i h1 h2 h3 h4 => hk i h1 (by omega)) (fun h => by omega) (fun i h1 h2 h3 h4 => by omega) (fun v => ⟨?_, ?_⟩) ?_
    · rintro ⟨i, hi, e⟩
      by_cases e1 : i = 0
      · rw [e1, up_at] at e
        refine ⟨⟨s - 1, by omega, e⟩, fun w => ?_⟩
        rw [← e] at w
        have := hj (s - 1) 0 (by omega) hs0 w
        omega
      · rw [up_ne e1] at e
        refine ⟨⟨i, by omega, e⟩, fun w => ?_⟩
        rw [← e] at w
        exact e1 (hj i 0 (by omega) hs0 w)
    · rintro ⟨⟨i, hi, e⟩, hne⟩
      have hi0 : i ≠ 0 := fun w => hne (by rw [← e, w])
      by_cases e1 : i = s - 1
      · exact ⟨0, by omega, by rw [up_at, ← e1]; exact e⟩
      · exact ⟨i, by omega, by rw [up_ne hi0]; exact e⟩
    · intro i j hi hj' e
      by_cases e1 : i = 0 <;> by_cases e2 : j = 0
      · omega
      · rw [e1, up_at, up_ne e2] at e
        have := hj (s - 1) j (by omega) (by omega) e
        omega
      · rw [e2, up_at, up_ne e1] at e
        have := hj i (s - 1) (by omega) (by omega) e
        omega
      · rw [up_ne e1, up_ne e2] at e
        exact hj i j (by omega) (by omega) e
  · exfalso
    omega
