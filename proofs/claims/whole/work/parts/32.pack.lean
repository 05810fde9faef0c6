/-! packing and unpacking -/
def runM (xs : List Int) (b : Int) : Nat → Nat → Nat
  | 0, _ => 0
  | f + 1, p => if p < xs.length ∧ gx xs p = b then runM xs b f (p + 1) + 1 else 0
theorem runM_le (xs : List Int) (b : Int) : ∀ (f p : Nat), runM xs b f p ≤ f ∧ (p ≤ xs.length → p + runM xs b f p ≤ xs.length)
  | 0, p => ⟨Nat.le_refl _, fun h => h⟩
  | f + 1, p => by
    have h := runM_le xs b f (p + 1)
    rw [runM]
    split
    · rename_i q
      exact ⟨by omega, fun _ => by have := h.2 (by omega); omega⟩
    · exact ⟨by omega, fun h => h⟩
/-- how many alike there are with byte i, al being so ahead of it -/
def alk (xs : List Int) (i al : Nat) : Nat := if 0 < i ∧ gx xs i = gx xs (i - 1) then al + 1 else 1
def pkI (xs : List Int) : Nat → Nat → Nat → List Int
  | 0, _, _ => []
  | f + 1, i, al => if i < xs.length then (if alk xs i al = 4 then gx xs i :: (runM xs (gx xs i) 251 (i + 1) : Int) :: pkI xs f (i + 1 + runM xs (gx xs i) 251 (i + 1)) 0 else gx xs i :: pkI xs f (i + 1) (alk xs i al)) else []
def pk (xs : List Int) : List Int := pkI xs xs.length 0 0
theorem pkI_fuel (xs : List Int) : ∀ (f g i al : Nat), xs.length ≤ i + f → xs.length ≤ i + g → pkI xs f i al = pkI xs g i al
  | 0, 0, _, _, _, _ => rfl
  | 0, g + 1, i, al, h, _ => by rw [pkI, pkI, if_neg (by omega)]
  | f + 1, 0, i, al, _, h => by rw [pkI, pkI, if_neg (by omega)]
  | f + 1, g + 1, i, al, h1, h2 => by
    rw [pkI, pkI]
    split
    · split
      · rw [pkI_fuel xs f g _ 0 (by omega) (by omega)]
      · rw [pkI_fuel xs f g _ _ (by omega) (by omega)]
    · rfl
theorem Bs_snoc {xs : List Int} {b : Int} (h : Bs xs) (hb : 0 ≤ b ∧ b < 256) : Bs (xs ++ [b]) := by
  intro i hi
  rw [getD_snoc]
  simp at hi
  split
  · exact hb
  · exact h i (by omega)
theorem Bs_nil : Bs [] := fun i hi => by simp at hi
set_option maxRecDepth 100000 in
theorem c_S_countMore {h0 : ax_H} {r ra cap : Nat} {xs : List Int} (hR : Rw h0 r ra cap xs) (hbs : Bs xs) {p : Nat} (hp : p ≤ xs.length) {b : Int} (hb : 0 ≤ b ∧ b < 256) : ax_Ci m_S_countMore 1 [.ref r, .int (iv p), .int (iv b)] h0 (fun z h1 => h1 = h0 ∧ z = runM xs b 251 p) := by
  have hsz := hR.sz
  have hcc : cap ≤ 3000 := by obtain ⟨g, -, -, -, h1, -⟩ := hR; exact h1
  have hlc : xs.length ≤ cap := by obtain ⟨g, -, -, h1, -⟩ := hR; exact h1
  refine ax_enter [some (.ref r), some (.int (iv p)), some (.int (iv b)), none] rfl (Nat.le_of_ble_eq_true rfl) (by decide) ?_
  refine az_iconst d_S_countMore_0 ?_
  refine ax_istore_n d_S_countMore_1 (by decide) rfl ?_
  have key : ∀ (f m : Nat), m + f = 251 → p + m ≤ xs.length → m + runM xs b f (p + m) = runM xs b 251 p →
      ax_W m_S_countMore 1 2 [some (.ref r), some (.int (iv p)), some (.int (iv b)), some (.int (iv m))] [] h0 (fun r0 h1 => ∃ z : Int, r0 = some (.int (iv z)) ∧ h1 = h0 ∧ z = runM xs b 251 p) := by
    intro f
    induction f with
    | zero =>
      intro m he hm hr
      refine ax_iload_n d_S_countMore_2 rfl ?_
      refine az_sipush _ d_S_countMore_3 (by decide) ?_
      refine az_icmp_ge 26 d_S_countMore_6 (by decide) (by omega) (by omega) (fun hc => ?_) (fun hc => ?_)
      · refine ax_iload_n d_S_countMore_26 rfl ?_
        refine ax_iret d_S_countMore_27 rfl ?_
        exact ⟨_, rfl, rfl, by rw [← hr]; rfl⟩
      · exfalso
        omega
    | succ f ih =>
      intro m he hm hr
      refine ax_iload_n d_S_countMore_2 rfl ?_
      refine az_sipush _ d_S_countMore_3 (by decide) ?_
      refine az_icmp_ge 26 d_S_countMore_6 (by decide) (by omega) (by omega) (fun hc => ?_) (fun hc => ?_)
      · exfalso
        omega
      · refine ax_aload_n d_S_countMore_9 rfl ?_
        refine ax_iload_n d_S_countMore_10 rfl ?_
        refine ax_iload_n d_S_countMore_11 rfl ?_
        refine az_iadd d_S_countMore_12 ?_
        refine ax_cV1 d_S_countMore_13 v_Rw_at lk_S_67 (by first | assumption ) (by decide) (Nat.le_of_ble_eq_true rfl) (cm_i (c_Rw_at hR (i := (p : Int) + m) (by omega)) (fun z h3 hq => ?_))
        obtain ⟨rfl, rfl⟩ := hq
        have hrb : -2 ≤ rAt xs ((p : Int) + m) ∧ rAt xs ((p : Int) + m) < 256 := by
          unfold rAt
          split
          · rename_i w
            have := hbs ((p : Int) + m).toNat (by omega)
            omega
          · omega
        refine ax_iload_n d_S_countMore_16 rfl ?_
        refine az_icmp_ne 26 d_S_countMore_17 (by decide) (by omega) (by omega) (fun hne => ?_) (fun hne => ?_)
        · refine ax_iload_n d_S_countMore_26 rfl ?_
          refine ax_iret d_S_countMore_27 rfl ?_
          refine ⟨_, rfl, rfl, ?_⟩
          rw [← hr, runM, if_neg]
          · rfl
          · rintro ⟨w1, w2⟩
            apply hne
            rw [rAt, if_pos (by omega), show ((p : Int) + m).toNat = p + m by omega]
            exact w2
        · have hin : p + m < xs.length := by
            by_cases w : p + m < xs.length
            · exact w
            · rw [rAt, if_neg (by omega)] at hne; omega
          refine az_iinc d_S_countMore_20 rfl (by decide) rfl ?_
          refine ax_goto 2 d_S_countMore_23 (by decide) ?_
          refine ih (m + 1) (by omega) (by omega) ?_
          rw [← hr, runM, if_pos ⟨hin, by rw [rAt, if_pos (by omega), show ((p : Int) + m).toNat = p + m by omega] at hne; exact hne⟩, Nat.add_assoc p m 1]
          omega
  exact key 251 0 (by omega) (by omega) (by rw [Nat.zero_add, Nat.add_zero])
set_option maxRecDepth 100000 in
set_option maxHeartbeats 4000000 in
theorem c_S_packInto {h0 : ax_H} {r ra cap t ta tcap : Nat} {xs ts : List Int} (hR : Rw h0 r ra cap xs) (hT : Rw h0 t ta tcap ts) (hbs : Bs xs) (hn : xs.length ≤ 600) (hcap : 750 ≤ tcap) (hd1 : [t, ta].contains r = false) (hd2 : [t, ta].contains ra = false) :
    ax_Cv m_S_packInto 2 [.ref r, .ref t] h0 (fun h1 => Rw h1 t ta tcap (pk xs) ∧ Bs (pk xs) ∧ (pk xs).length ≤ 750 ∧ Fr [t, ta] h0 h1) := by
  have hszt := hT.sz
  refine ax_enter [some (.ref r), some (.ref t), none, none, none, none] rfl (Nat.le_of_ble_eq_true rfl) (by decide) ?_
  refine ax_aload_n d_S_packInto_0 rfl ?_
  refine az_iconst d_S_packInto_1 ?_
  refine ax_cV1 d_S_packInto_2 v_Rw_shorten lk_S_64 (by first | assumption ) (by decide) (Nat.le_of_ble_eq_true rfl) (cm_v (c_Rw_shorten hT (n := 0) (by omega)) (fun h1 hp => ?_))
  obtain ⟨hT1, hF1⟩ := hp
  refine az_iconst d_S_packInto_5 ?_
  refine ax_istore_n d_S_packInto_6 (by decide) rfl ?_
  refine az_iconst d_S_packInto_7 ?_
  refine ax_istore_n d_S_packInto_8 (by decide) rfl ?_
  have key : ∀ (f i al : Nat) (h : ax_H) (ys : List Int), xs.length ≤ i + f → i ≤ xs.length → al ≤ 3 → 4 * ys.length + al ≤ 5 * i → Rw h t ta tcap ys → Bs ys → Fr [t, ta] h0 h → ys ++ pkI xs f i al = pk xs → ∀ v4 v5 : Option Value,
      ax_W m_S_packInto 2 9 [some (.ref r), some (.ref t), some (.int (iv al)), some (.int (iv i)), v4, v5] [] h (fun r0 h1 => r0 = none ∧ Rw h1 t ta tcap (pk xs) ∧ Bs (pk xs) ∧ (pk xs).length ≤ 750 ∧ Fr [t, ta] h0 h1) := by
    intro f
    induction f with
    | zero =>
      intro i al h ys he hi hal hpot hT hby hF hs v4 v5
      have hsz := (hR.fr hF hd1 hd2).sz
      refine ax_iload_n d_S_packInto_9 rfl ?_
      refine ax_aload_n d_S_packInto_10 rfl ?_
      refine ax_get d_S_packInto_11 fg_S_60 (by first | assumption ) (by rfl) ?_
      refine az_icmp_ge 85 d_S_packInto_14 (by decide) (by omega) (by omega) (fun hc => ?_) (fun hc => ?_)
      · refine ax_vret d_S_packInto_85 rfl ?_
        rw [pkI, List.append_nil] at hs
        rw [← hs]
        exact ⟨rfl, hT, hby, by omega, hF⟩
      · exfalso
        omega
    | succ f ih =>
      intro i al h ys he hi hal hpot hT hby hF hs v4 v5
      have hR1 := hR.fr hF hd1 hd2
      have hsz := hR1.sz
      have hszt := hT.sz
      refine ax_iload_n d_S_packInto_9 rfl ?_
      refine ax_aload_n d_S_packInto_10 rfl ?_
      refine ax_get d_S_packInto_11 fg_S_60 (by first | assumption ) (by rfl) ?_
      refine az_icmp_ge 85 d_S_packInto_14 (by decide) (by omega) (by omega) (fun hin => ?_) (fun hin => ?_)
      · refine ax_vret d_S_packInto_85 rfl ?_
        rw [pkI, if_neg (by omega), List.append_nil] at hs
        rw [← hs]
        exact ⟨rfl, hT, hby, by omega, hF⟩
      · have b1 := hbs i (by omega)
        have hb1 : 0 ≤ gx xs i ∧ gx xs i < 256 := b1
        have e1 : rAt xs i = gx xs i := by rw [rAt, if_pos (by omega)]; rfl
        rw [pkI, if_pos (by omega)] at hs
        refine ax_aload_n d_S_packInto_17 rfl ?_
        refine ax_iload_n d_S_packInto_18 rfl ?_
        refine ax_cV1 d_S_packInto_19 v_Rw_at lk_S_67 (by first | assumption ) (by decide) (Nat.le_of_ble_eq_true rfl) (cm_i (c_Rw_at hR1 (i := i) (by omega)) (fun z h3 hq => ?_))
        obtain ⟨rfl, rfl⟩ := hq
        rw [e1]
        refine ax_istore d_S_packInto_22 (by decide) rfl ?_
        refine ax_iload d_S_packInto_24 rfl ?_
        refine ax_aload_n d_S_packInto_26 rfl ?_
        refine ax_iload_n d_S_packInto_27 rfl ?_
        refine az_iconst d_S_packInto_28 ?_
        refine az_isub d_S_packInto_29 ?_
        refine ax_cV1 d_S_packInto_30 v_Rw_at lk_S_67 (by first | assumption ) (by decide) (Nat.le_of_ble_eq_true rfl) (cm_i (c_Rw_at hR1 (i := (i : Int) - 1) (by omega)) (fun z h3 hq => ?_))
        obtain ⟨rfl, rfl⟩ := hq
        have hpv : rAt xs ((i : Int) - 1) = if 0 < i then gx xs (i - 1) else -2 := by
          unfold rAt
          by_cases w : 0 < i
          · rw [if_pos (by omega), if_pos w, show ((i : Int) - 1).toNat = i - 1 by omega]
          · rw [if_neg (by omega), if_neg w]
        have hpb : -2 ≤ rAt xs ((i : Int) - 1) ∧ rAt xs ((i : Int) - 1) < 256 := by
          rw [hpv]
          split
          · have : 0 ≤ gx xs (i - 1) ∧ gx xs (i - 1) < 256 := hbs (i - 1) (by omega)
            omega
          · omega
        -- behind the count of alike ones
        have rest : ∀ a : Nat, a = alk xs i al → ax_W m_S_packInto 2 43 [some (.ref r), some (.ref t), some (.int (iv al)), some (.int (iv i)), some (.int (iv (gx xs i))), v5] [.int (iv a)] h3 (fun r0 h1 => r0 = none ∧ Rw h1 t ta tcap (pk xs) ∧ Bs (pk xs) ∧ (pk xs).length ≤ 750 ∧ Fr [t, ta] h0 h1) := by
          intro a ha
          have hal2 : a ≤ al + 1 ∧ 1 ≤ a := by
            rw [ha, alk]
            split <;> omega
          refine ax_istore_n d_S_packInto_43 (by decide) rfl ?_
          refine ax_aload_n d_S_packInto_44 rfl ?_
          refine ax_iload d_S_packInto_45 rfl ?_
          refine ax_cV1 d_S_packInto_47 v_Rw_add lk_S_211 (by first | assumption ) (by decide) (Nat.le_of_ble_eq_true rfl) (cm_v (c_Rw_add hT _) (fun h4 hq => ?_))
          obtain ⟨hT4, hF4⟩ := hq
          rw [radd, if_pos (by omega)] at hT4
          have hR4 := hR1.fr hF4 hd1 hd2
          have hby4 := Bs_snoc hby hb1
          have hszt4 := hT4.sz
          have hl4 : (ys ++ [gx xs i]).length = ys.length + 1 := by simp
          rw [← ha] at hs
          refine ax_iload_n d_S_packInto_50 rfl ?_
          refine az_iconst d_S_packInto_51 ?_
          refine az_icmp_ne 79 d_S_packInto_52 (by decide) (by omega) (by omega) (fun ha4 => ?_) (fun ha4 => ?_)
          · rw [if_neg (by omega)] at hs
            refine az_iinc d_S_packInto_79 rfl (by decide) rfl ?_
            refine ax_goto 9 d_S_packInto_82 (by decide) ?_
            refine ih (i + 1) a h4 _ (by omega) (by omega) (by omega) (by rw [hl4]; omega) hT4 hby4 (hF.tr hF4) ?_ _ _
            rw [List.append_assoc]
            exact hs
          · rw [if_pos (by omega)] at hs
            have hrl := runM_le xs (gx xs i) 251 (i + 1)
            have hrl2 := hrl.2 (by omega)
            have ei : (i : Int) + 1 = ((i + 1 : Nat) : Int) := by omega
            refine ax_aload_n d_S_packInto_55 rfl ?_
            refine ax_iload_n d_S_packInto_56 rfl ?_
            refine az_iconst d_S_packInto_57 ?_
            refine az_iadd d_S_packInto_58 ?_
            refine ax_iload d_S_packInto_59 rfl ?_
            rw [ei]
            refine ax_cS3 d_S_packInto_61 s_S_countMore lk_S_215 (by decide) (Nat.le_of_ble_eq_true rfl) (cm_i (c_S_countMore hR4 hbs (p := i + 1) (by omega) hb1) (fun z h5 hq => ?_))
            obtain ⟨rfl, rfl⟩ := hq
            refine ax_istore d_S_packInto_64 (by decide) rfl ?_
            refine ax_aload_n d_S_packInto_66 rfl ?_
            refine ax_iload d_S_packInto_67 rfl ?_
            refine ax_cV1 d_S_packInto_69 v_Rw_add lk_S_211 (by first | assumption ) (by decide) (Nat.le_of_ble_eq_true rfl) (cm_v (c_Rw_add hT4 _) (fun h6 hq => ?_))
            obtain ⟨hT6, hF6⟩ := hq
            rw [radd, if_pos (by rw [hl4]; omega)] at hT6
            refine ax_iload_n d_S_packInto_72 rfl ?_
            refine ax_iload d_S_packInto_73 rfl ?_
            refine az_iadd d_S_packInto_75 ?_
            refine ax_istore_n d_S_packInto_76 (by decide) rfl ?_
            refine az_iconst d_S_packInto_77 ?_
            refine ax_istore_n d_S_packInto_78 (by decide) rfl ?_
            refine az_iinc d_S_packInto_79 rfl (by decide) rfl ?_
            refine ax_goto 9 d_S_packInto_82 (by decide) ?_
            have e9 : (i : Int) + (runM xs (gx xs i) 251 (i + 1) : Int) + 1 = ((i + 1 + runM xs (gx xs i) 251 (i + 1) : Nat) : Int) := by omega
            rw [e9]
            refine ih (i + 1 + runM xs (gx xs i) 251 (i + 1)) 0 h6 _ (by omega) (by omega) (by omega) (by rw [List.length_append, hl4]; simp; omega) hT6 (Bs_snoc hby4 (by omega)) ((hF.tr hF4).tr hF6) ?_ _ _
            rw [List.append_assoc, List.append_assoc]
            exact hs
        refine az_icmp_ne 42 d_S_packInto_33 (by decide) (by omega) (by omega) (fun hne => ?_) (fun hne => ?_)
        · refine az_iconst d_S_packInto_42 ?_
          have := rest 1 (by
            rw [alk, if_neg]
            rintro ⟨w1, w2⟩
            apply hne
            rw [hpv, if_pos w1, w2])
          exact this
        · refine ax_iload_n d_S_packInto_36 rfl ?_
          refine az_iconst d_S_packInto_37 ?_
          refine az_iadd d_S_packInto_38 ?_
          refine ax_goto 43 d_S_packInto_39 (by decide) ?_
          have hi0 : 0 < i := by
            by_cases w : 0 < i
            · exact w
            · rw [hpv, if_neg w] at hne; omega
          have := rest (al + 1) (by
            rw [alk, if_pos]
            refine ⟨hi0, ?_⟩
            rw [hpv, if_pos hi0] at hne
            exact hne)
          exact this
  exact key xs.length 0 0 h1 [] (by omega) (by omega) (by omega) (by simp) hT1 Bs_nil hF1 rfl none none
