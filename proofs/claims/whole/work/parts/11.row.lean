/-! SortTransform.Row: a list of ints in an array -/
def Rw (h : ax_H) (r ra cap : Nat) (xs : List Int) : Prop := ∃ g : Nat → Int, Hs h [(r, ob 6 [.ref ra, .int (iv xs.length)]), (ra, ia cap g)] ∧ (∀ i : Nat, i < xs.length → g i = xs.getD i 0) ∧ xs.length ≤ cap ∧ cap ≤ 3000 ∧ 0 < ra
def rAt (xs : List Int) (i : Int) : Int := if 0 ≤ i ∧ i < (xs.length : Int) then xs.getD i.toNat 0 else -2
theorem Rw.fr {h h1 : ax_H} {r ra cap : Nat} {xs : List Int} {S : List Nat} (hR : Rw h r ra cap xs) (hF : Fr S h h1) (h1r : S.contains r = false) (h1a : S.contains ra = false) : Rw h1 r ra cap xs := by
  obtain ⟨g, hH, hr⟩ := hR
  refine ⟨g, hH.fr hF ?_, hr⟩
  show ((!S.contains r) && ((!S.contains ra) && true)) = true
  rw [h1r, h1a]
  rfl
theorem Rw.sz {h : ax_H} {r ra cap : Nat} {xs : List Int} (hR : Rw h r ra cap xs) : h[r]? = some (ob 6 [.ref ra, .int (iv xs.length)]) := by
  obtain ⟨g, hH, hr⟩ := hR
  exact hH.g 0 rfl
set_option maxRecDepth 100000 in
theorem c_Rw_has {h : ax_H} {r ra cap : Nat} {xs : List Int} (hR : Rw h r ra cap xs) {i : Int} (hi : -2147483648 ≤ i ∧ i < 2147483648) : ax_Cz m_Rw_has 0 [.ref r, .int (iv i)] h (fun b h1 => h1 = h ∧ b = decide (0 ≤ i ∧ i < (xs.length : Int))) := by
  obtain ⟨g, hH, hg, hle, hcap, hra⟩ := hR
  refine ax_enter [some (.ref r), some (.int (iv i))] rfl (Nat.le_of_ble_eq_true rfl) (by decide) ?_
  refine ax_iload_n d_Rw_has_0 rfl ?_
  refine az_if_lt 16 d_Rw_has_1 (by decide) (by first | exact bz_in _ | omega) (fun hc => ?_) (fun hc => ?_)
  · refine az_iconst d_Rw_has_16 ?_
    refine ax_zret d_Rw_has_17 rfl (by decide) ?_
    refine ⟨false, rfl, rfl, ?_⟩
    simp; omega
  · refine ax_iload_n d_Rw_has_4 rfl ?_
    refine ax_aload_n d_Rw_has_5 rfl ?_
    refine ax_get d_Rw_has_6 fg_Rw_21 (by first | assumption | exact hH.g 0 rfl | exact hH.g 1 rfl) (by rfl) ?_
    refine az_icmp_ge 16 d_Rw_has_9 (by decide) (by omega) (by omega) (fun hc => ?_) (fun hc => ?_)
    · refine az_iconst d_Rw_has_16 ?_
      refine ax_zret d_Rw_has_17 rfl (by decide) ?_
      refine ⟨false, rfl, rfl, ?_⟩
      simp; omega
    · refine az_iconst d_Rw_has_12 ?_
      refine ax_goto 17 d_Rw_has_13 (by decide) ?_
      refine ax_zret d_Rw_has_17 rfl (by decide) ?_
      refine ⟨true, rfl, rfl, ?_⟩
      simp; omega
set_option maxRecDepth 100000 in
theorem c_Rw_hasRoom {h : ax_H} {r ra cap : Nat} {xs : List Int} (hR : Rw h r ra cap xs) {n : Int} (hi : -2147483648 ≤ n ∧ n < 2147483648) : ax_Cz m_Rw_hasRoom 0 [.ref r, .int (iv n)] h (fun b h1 => h1 = h ∧ b = decide (n ≤ (cap : Int) - xs.length)) := by
  obtain ⟨g, hH, hg, hle, hcap, hra⟩ := hR
  refine ax_enter [some (.ref r), some (.int (iv n))] rfl (Nat.le_of_ble_eq_true rfl) (by decide) ?_
  refine ax_iload_n d_Rw_hasRoom_0 rfl ?_
  refine ax_aload_n d_Rw_hasRoom_1 rfl ?_
  refine ax_get d_Rw_hasRoom_2 fg_Rw_15 (by first | assumption | exact hH.g 0 rfl | exact hH.g 1 rfl) (by rfl) ?_
  refine az_alen d_Rw_hasRoom_5 (by first | assumption | exact hH.g 0 rfl | exact hH.g 1 rfl) ?_
  refine ax_aload_n d_Rw_hasRoom_6 rfl ?_
  refine ax_get d_Rw_hasRoom_7 fg_Rw_21 (by first | assumption | exact hH.g 0 rfl | exact hH.g 1 rfl) (by rfl) ?_
  refine az_isub d_Rw_hasRoom_10 ?_
  refine az_icmp_gt 18 d_Rw_hasRoom_11 (by decide) (by omega) (by omega) (fun hc => ?_) (fun hc => ?_)
  · refine az_iconst d_Rw_hasRoom_18 ?_
    refine ax_zret d_Rw_hasRoom_19 rfl (by decide) ?_
    refine ⟨false, rfl, rfl, ?_⟩
    simp; omega
  · refine az_iconst d_Rw_hasRoom_14 ?_
    refine ax_goto 19 d_Rw_hasRoom_15 (by decide) ?_
    refine ax_zret d_Rw_hasRoom_19 rfl (by decide) ?_
    refine ⟨true, rfl, rfl, ?_⟩
    simp; omega
set_option maxRecDepth 100000 in
theorem c_Rw_at {h : ax_H} {r ra cap : Nat} {xs : List Int} (hR : Rw h r ra cap xs) {i : Int} (hi : -2147483648 ≤ i ∧ i < 2147483648) : ax_Ci m_Rw_at 0 [.ref r, .int (iv i)] h (fun z h1 => h1 = h ∧ z = rAt xs i) := by
  obtain ⟨g, hH, hg, hle, hcap, hra⟩ := hR
  refine ax_enter [some (.ref r), some (.int (iv i))] rfl (Nat.le_of_ble_eq_true rfl) (by decide) ?_
  refine ax_iload_n d_Rw_at_0 rfl ?_
  refine az_if_lt 21 d_Rw_at_1 (by decide) (by first | exact bz_in _ | omega) (fun hc => ?_) (fun hc => ?_)
  · refine az_bipush _ d_Rw_at_21 (by decide) ?_
    refine ax_iret d_Rw_at_23 rfl ?_
    refine ⟨-2, rfl, rfl, ?_⟩
    rw [rAt, if_neg (by omega)]
  · refine ax_iload_n d_Rw_at_4 rfl ?_
    refine ax_aload_n d_Rw_at_5 rfl ?_
    refine ax_get d_Rw_at_6 fg_Rw_21 (by first | assumption | exact hH.g 0 rfl | exact hH.g 1 rfl) (by rfl) ?_
    refine az_icmp_ge 21 d_Rw_at_9 (by decide) (by omega) (by omega) (fun hc => ?_) (fun hc => ?_)
    · refine az_bipush _ d_Rw_at_21 (by decide) ?_
      refine ax_iret d_Rw_at_23 rfl ?_
      refine ⟨-2, rfl, rfl, ?_⟩
      rw [rAt, if_neg (by omega)]
    · refine ax_aload_n d_Rw_at_12 rfl ?_
      refine ax_get d_Rw_at_13 fg_Rw_15 (by first | assumption | exact hH.g 0 rfl | exact hH.g 1 rfl) (by rfl) ?_
      refine ax_iload_n d_Rw_at_16 rfl ?_
      refine az_iald d_Rw_at_17 (by first | assumption | exact hH.g 0 rfl | exact hH.g 1 rfl) (by omega) (by omega) (by omega) ?_
      refine ax_goto 23 d_Rw_at_18 (by decide) ?_
      refine ax_iret d_Rw_at_23 rfl ?_
      refine ⟨_, rfl, rfl, ?_⟩
      rw [rAt, if_pos (by omega), hg _ (by omega)]
theorem getD_snoc (xs : List Int) (b : Int) (i : Nat) : (xs ++ [b]).getD i 0 = if i = xs.length then b else xs.getD i 0 := by
  rw [List.getD_eq_getElem?_getD, List.getD_eq_getElem?_getD, List.getElem?_append]
  by_cases h1 : i < xs.length
  · rw [if_pos h1, if_neg (by omega)]
  · rw [if_neg h1]
    by_cases h2 : i = xs.length
    · subst h2; simp
    · rw [if_neg h2, List.getElem?_eq_none (by simp; omega), List.getElem?_eq_none (by omega)]
def radd (cap : Nat) (xs : List Int) (b : Int) : List Int := if xs.length < cap then xs ++ [b] else xs
set_option maxRecDepth 100000 in
theorem c_Rw_add {h : ax_H} {r ra cap : Nat} {xs : List Int} (hR : Rw h r ra cap xs) (b : Int) : ax_Cv m_Rw_add 0 [.ref r, .int (iv b)] h (fun h1 => Rw h1 r ra cap (radd cap xs b) ∧ Fr [r, ra] h h1) := by
  obtain ⟨g, hH, hg, hle, hcap, hra⟩ := hR
  have hF : Fr [r, ra] h h := Fr.rf
  have hSr : [r, ra].contains r = true := by simp
  have hSa : [r, ra].contains ra = true := by simp
  refine ax_enter [some (.ref r), some (.int (iv b))] rfl (Nat.le_of_ble_eq_true rfl) (by decide) ?_
  refine ax_aload_n d_Rw_add_0 rfl ?_
  refine ax_get d_Rw_add_1 fg_Rw_21 (by first | assumption | exact hH.g 0 rfl | exact hH.g 1 rfl) (by rfl) ?_
  refine ax_aload_n d_Rw_add_4 rfl ?_
  refine ax_get d_Rw_add_5 fg_Rw_15 (by first | assumption | exact hH.g 0 rfl | exact hH.g 1 rfl) (by rfl) ?_
  refine az_alen d_Rw_add_8 (by first | assumption | exact hH.g 0 rfl | exact hH.g 1 rfl) ?_
  refine az_icmp_ge 32 d_Rw_add_9 (by decide) (by omega) (by omega) (fun hc => ?_) (fun hc => ?_)
  · refine ax_vret d_Rw_add_32 rfl ?_
    refine ⟨rfl, ⟨g, ?_⟩, hF⟩
    rw [radd, if_neg (by omega)]
    exact ⟨hH, hg, hle, hcap, hra⟩
  · refine ax_aload_n d_Rw_add_12 rfl ?_
    refine ax_get d_Rw_add_13 fg_Rw_15 (by first | assumption | exact hH.g 0 rfl | exact hH.g 1 rfl) (by rfl) ?_
    refine ax_aload_n d_Rw_add_16 rfl ?_
    refine ax_get d_Rw_add_17 fg_Rw_21 (by first | assumption | exact hH.g 0 rfl | exact hH.g 1 rfl) (by rfl) ?_
    refine ax_iload_n d_Rw_add_20 rfl ?_
    refine ah_iast d_Rw_add_21 hH hF 1 rfl hSa (by omega) (by omega) (by omega) (by omega) (fun h hH hF => ?_)
    refine ax_aload_n d_Rw_add_22 rfl ?_
    refine ax_dup d_Rw_add_23 rfl ?_
    refine ax_get d_Rw_add_24 fg_Rw_21 (by first | assumption | exact hH.g 0 rfl | exact hH.g 1 rfl) (by rfl) ?_
    refine az_iconst d_Rw_add_27 ?_
    refine az_iadd d_Rw_add_28 ?_
    refine ah_put d_Rw_add_29 fp_Rw_21 hH hF 0 rfl hSr rfl rfl (Nat.le_of_ble_eq_true rfl) (fun h hH hF => ?_)
    refine ax_vret d_Rw_add_32 rfl ?_
    refine ⟨rfl, ⟨up g xs.length b, ?_⟩, hF⟩
    rw [radd, if_pos (by omega)]
    refine ⟨?_, fun i hi => ?_, ?_, hcap, hra⟩
    · have e : ((xs ++ [b]).length : Int) = (xs.length : Int) + 1 := by simp
      rw [e]
      exact hH
    · rw [getD_snoc]
      simp at hi
      by_cases h2 : i = xs.length
      · rw [if_pos h2, h2, up_at]
      · rw [if_neg h2, up_ne h2, hg i (by omega)]
    · simp; omega
def raddN (cap : Nat) (b : Int) : Nat → List Int → List Int
  | 0, xs => xs
  | n + 1, xs => raddN cap b n (radd cap xs b)
set_option maxRecDepth 100000 in
theorem c_Rw_addMany {h : ax_H} {r ra cap : Nat} {xs : List Int} (hR : Rw h r ra cap xs) (b : Int) {n : Int} (hn : -2147483648 ≤ n ∧ n < 2147483648) : ax_Cv m_Rw_addMany 1 [.ref r, .int (iv n), .int (iv b)] h (fun h1 => Rw h1 r ra cap (raddN cap b n.toNat xs) ∧ Fr [r, ra] h h1) := by
  refine ax_enter [some (.ref r), some (.int (iv n)), some (.int (iv b)), none] rfl (Nat.le_of_ble_eq_true rfl) (by decide) ?_
  refine az_iconst d_Rw_addMany_0 ?_
  refine ax_istore_n d_Rw_addMany_1 (by decide) rfl ?_
  have key : ∀ (k : Nat) (i : Int) (ys : List Int) (h1 : ax_H), 0 ≤ i → i + k = n.toNat → Rw h1 r ra cap ys → Fr [r, ra] h h1 → raddN cap b k ys = raddN cap b n.toNat xs →
      ax_W m_Rw_addMany 1 2 [some (.ref r), some (.int (iv n)), some (.int (iv b)), some (.int (iv i))] [] h1 (fun r0 h1 => r0 = none ∧ Rw h1 r ra cap (raddN cap b n.toNat xs) ∧ Fr [r, ra] h h1) := by
    intro k
    induction k with
    | zero =>
      intro i ys h1 hi he hR hF hy
      refine ax_iload_n d_Rw_addMany_2 rfl ?_
      refine ax_iload_n d_Rw_addMany_3 rfl ?_
      refine az_icmp_ge 18 d_Rw_addMany_4 (by decide) (by omega) (by omega) (fun hc => ?_) (fun hc => ?_)
      · refine ax_vret d_Rw_addMany_18 rfl ?_
        refine ⟨rfl, ?_, hF⟩
        rw [← hy]
        exact hR
      · exfalso
        omega
    | succ k ih =>
      intro i ys h1 hi he hR hF hy
      refine ax_iload_n d_Rw_addMany_2 rfl ?_
      refine ax_iload_n d_Rw_addMany_3 rfl ?_
      refine az_icmp_ge 18 d_Rw_addMany_4 (by decide) (by omega) (by omega) (fun hc => ?_) (fun hc => ?_)
      · exfalso
        omega
      · have hsz := hR.sz
        refine ax_aload_n d_Rw_addMany_7 rfl ?_
        refine ax_iload_n d_Rw_addMany_8 rfl ?_
        refine ax_cV1 d_Rw_addMany_9 v_Rw_add lk_Rw_25 (by first | assumption | exact hH.g 0 rfl | exact hH.g 1 rfl) (by decide) (Nat.le_of_ble_eq_true rfl) (cm_v (c_Rw_add hR b) (fun h2 hp => ?_))
        obtain ⟨hR2, hF2⟩ := hp
        refine az_iinc d_Rw_addMany_12 rfl (by decide) rfl ?_
        refine ax_goto 2 d_Rw_addMany_15 (by decide) ?_
        exact ih (i + 1) _ h2 (by omega) (by omega) hR2 (hF.tr hF2) hy
  exact key n.toNat 0 xs h (by omega) (by omega) hR Fr.rf rfl
set_option maxRecDepth 100000 in
theorem c_Rw_shorten {h : ax_H} {r ra cap : Nat} {xs : List Int} (hR : Rw h r ra cap xs) {n : Int} (hn : -2147483648 ≤ n ∧ n < 2147483648) : ax_Cv m_Rw_shorten 0 [.ref r, .int (iv n)] h (fun h1 => Rw h1 r ra cap (if 0 ≤ n then xs.take n.toNat else xs) ∧ Fr [r, ra] h h1) := by
  obtain ⟨g, hH, hg, hle, hcap, hra⟩ := hR
  have hF : Fr [r, ra] h h := Fr.rf
  have hSr : [r, ra].contains r = true := by simp
  refine ax_enter [some (.ref r), some (.int (iv n))] rfl (Nat.le_of_ble_eq_true rfl) (by decide) ?_
  refine ax_iload_n d_Rw_shorten_0 rfl ?_
  refine az_if_lt 17 d_Rw_shorten_1 (by decide) (by first | exact bz_in _ | omega) (fun hc => ?_) (fun hc => ?_)
  · refine ax_vret d_Rw_shorten_17 rfl ?_
    refine ⟨rfl, ⟨g, ?_⟩, hF⟩
    rw [if_neg (by omega)]
    exact ⟨hH, hg, hle, hcap, hra⟩
  · refine ax_iload_n d_Rw_shorten_4 rfl ?_
    refine ax_aload_n d_Rw_shorten_5 rfl ?_
    refine ax_get d_Rw_shorten_6 fg_Rw_21 (by first | assumption | exact hH.g 0 rfl | exact hH.g 1 rfl) (by rfl) ?_
    refine az_icmp_ge 17 d_Rw_shorten_9 (by decide) (by omega) (by omega) (fun hc => ?_) (fun hc => ?_)
    · refine ax_vret d_Rw_shorten_17 rfl ?_
      refine ⟨rfl, ⟨g, ?_⟩, hF⟩
      rw [if_pos (by omega), List.take_of_length_le (by omega)]
      exact ⟨hH, hg, hle, hcap, hra⟩
    · refine ax_aload_n d_Rw_shorten_12 rfl ?_
      refine ax_iload_n d_Rw_shorten_13 rfl ?_
      refine ah_put d_Rw_shorten_14 fp_Rw_21 hH hF 0 rfl hSr rfl rfl (Nat.le_of_ble_eq_true rfl) (fun h hH hF => ?_)
      refine ax_vret d_Rw_shorten_17 rfl ?_
      refine ⟨rfl, ⟨g, ?_⟩, hF⟩
      rw [if_pos (by omega)]
      have e : (xs.take n.toNat).length = n.toNat := by rw [List.length_take]; omega
      refine ⟨?_, fun i hi => ?_, by omega, hcap, hra⟩
      · rw [e, show ((n.toNat : Nat) : Int) = n by omega]
        exact hH
      · rw [e] at hi
        rw [hg i (by omega), List.getD_eq_getElem?_getD, List.getD_eq_getElem?_getD, List.getElem?_take, if_pos hi]
set_option maxRecDepth 100000 in
theorem c_Rw_joinWith {h : ax_H} {r ra cap : Nat} {xs : List Int} (hR : Rw h r ra cap xs) {i m : Int} (hi : 0 ≤ i ∧ i < (xs.length : Int)) : ax_Cv m_Rw_joinWith 1 [.ref r, .int (iv i), .int (iv m)] h (fun h1 => Rw h1 r ra cap (xs.set i.toNat (zxor (xs.getD i.toNat 0) m)) ∧ Fr [r, ra] h h1) := by
  have hsz := hR.sz
  have hR0 := hR
  obtain ⟨g, hH, hg, hle, hcap, hra⟩ := hR
  have hF : Fr [r, ra] h h := Fr.rf
  have hSa : [r, ra].contains ra = true := by simp
  refine ax_enter [some (.ref r), some (.int (iv i)), some (.int (iv m))] rfl (Nat.le_of_ble_eq_true rfl) (by decide) ?_
  refine ax_aload_n d_Rw_joinWith_0 rfl ?_
  refine ax_iload_n d_Rw_joinWith_1 rfl ?_
  refine ax_cV1 d_Rw_joinWith_2 v_Rw_has lk_Rw_29 (by first | assumption | exact hH.g 0 rfl | exact hH.g 1 rfl) (by decide) (Nat.le_of_ble_eq_true rfl) (cm_z (c_Rw_has hR0 (i := i) (by omega)) (fun b h1 hp => ?_))
  obtain ⟨rfl, hb⟩ := hp
  have hb : b = true := by rw [hb]; simp; omega
  subst hb
  refine az_if_eq 18 d_Rw_joinWith_5 (by decide) (by decide) (fun hc => ?_) (fun hc => ?_)
  · cases hc
  · refine ax_aload_n d_Rw_joinWith_8 rfl ?_
    refine ax_get d_Rw_joinWith_9 fg_Rw_15 (by first | assumption | exact hH.g 0 rfl | exact hH.g 1 rfl) (by rfl) ?_
    refine ax_iload_n d_Rw_joinWith_12 rfl ?_
    refine ax_dup2 d_Rw_joinWith_13 rfl rfl ?_
    refine az_iald d_Rw_joinWith_14 (by first | assumption | exact hH.g 0 rfl | exact hH.g 1 rfl) (by omega) (by omega) (by omega) ?_
    refine ax_iload_n d_Rw_joinWith_15 rfl ?_
    refine az_ixor d_Rw_joinWith_16 ?_
    refine ah_iast d_Rw_joinWith_17 hH hF 1 rfl hSa (by omega) (by omega) (by omega) (by omega) (fun h hH hF => ?_)
    refine ax_vret d_Rw_joinWith_18 rfl ?_
    have el : (xs.set i.toNat (zxor (xs.getD i.toNat 0) m)).length = xs.length := List.length_set
    refine ⟨rfl, ⟨up g i.toNat (zxor (g i.toNat) m), ?_⟩, hF⟩
    rw [el]
    refine ⟨hH, fun j hj => ?_, hle, hcap, hra⟩
    rw [List.getD_eq_getElem?_getD, List.getElem?_set]
    by_cases e : i.toNat = j
    · subst e
      rw [up_at, if_pos rfl, if_pos hj, hg _ hj]
      rfl
    · rw [up_ne (Ne.symm e), if_neg e, hg j hj, List.getD_eq_getElem?_getD]
/-- a list of bytes -/
def Bs (xs : List Int) : Prop := ∀ i : Nat, i < xs.length → 0 ≤ xs.getD i 0 ∧ xs.getD i 0 < 256
theorem take_succ_getD (ys : List Int) {k : Nat} (hk : k < ys.length) : ys.take k ++ [ys.getD k 0] = ys.take (k + 1) := by
  rw [List.take_add_one, List.getD_eq_getElem?_getD, List.getElem?_eq_getElem hk]
  rfl
set_option maxRecDepth 100000 in
theorem c_Rw_copyOf {h : ax_H} {r ra cap o oa ocap : Nat} {xs ys : List Int} (hR : Rw h r ra cap xs) (hO : Rw h o oa ocap ys) (hd1 : [r, ra].contains o = false) (hd2 : [r, ra].contains oa = false) (hlen : ys.length ≤ cap) : ax_Cv m_Rw_copyOf 1 [.ref r, .ref o] h (fun h1 => Rw h1 r ra cap ys ∧ Fr [r, ra] h h1) := by
  have hO' := hO
  obtain ⟨g, hH, hg, hle, hcap, hra⟩ := hR
  obtain ⟨go, hHo, hgo, hleo, hcapo, hrao⟩ := hO
  have hF : Fr [r, ra] h h := Fr.rf
  have hSr : [r, ra].contains r = true := by simp
  refine ax_enter [some (.ref r), some (.ref o), none] rfl (Nat.le_of_ble_eq_true rfl) (by decide) ?_
  refine ax_aload_n d_Rw_copyOf_0 rfl ?_
  refine az_iconst d_Rw_copyOf_1 ?_
  refine ah_put d_Rw_copyOf_2 fp_Rw_21 hH hF 0 rfl hSr rfl rfl (Nat.le_of_ble_eq_true rfl) (fun h1 hH hF1 => ?_)
  refine az_iconst d_Rw_copyOf_5 ?_
  refine ax_istore_n d_Rw_copyOf_6 (by decide) rfl ?_
  have key : ∀ (k : Nat) (i : Nat) (h2 : ax_H), i + k = ys.length → Rw h2 r ra cap (ys.take i) → Fr [r, ra] h h2 →
      ax_W m_Rw_copyOf 1 7 [some (.ref r), some (.ref o), some (.int (iv i))] [] h2 (fun r0 h1 => r0 = none ∧ Rw h1 r ra cap ys ∧ Fr [r, ra] h h1) := by
    intro k
    induction k with
    | zero =>
      intro i h2 he hR hF
      have hsz := (hO'.fr hF hd1 hd2).sz
      refine ax_iload_n d_Rw_copyOf_7 rfl ?_
      refine ax_aload_n d_Rw_copyOf_8 rfl ?_
      refine ax_get d_Rw_copyOf_9 fg_Rw_21 (by first | assumption | exact hH.g 0 rfl | exact hH.g 1 rfl) (by rfl) ?_
      refine az_icmp_ge 30 d_Rw_copyOf_12 (by decide) (by omega) (by omega) (fun hc => ?_) (fun hc => ?_)
      · refine ax_vret d_Rw_copyOf_30 rfl ?_
        refine ⟨rfl, ?_, hF⟩
        rw [List.take_of_length_le (by omega)] at hR
        exact hR
      · exfalso
        omega
    | succ k ih =>
      intro i h2 he hR hF
      have hO2 := hO'.fr hF hd1 hd2
      have hsz := hO2.sz
      have hszr := hR.sz
      refine ax_iload_n d_Rw_copyOf_7 rfl ?_
      refine ax_aload_n d_Rw_copyOf_8 rfl ?_
      refine ax_get d_Rw_copyOf_9 fg_Rw_21 (by first | assumption | exact hH.g 0 rfl | exact hH.g 1 rfl) (by rfl) ?_
      refine az_icmp_ge 30 d_Rw_copyOf_12 (by decide) (by omega) (by omega) (fun hc => ?_) (fun hc => ?_)
      · exfalso
        omega
      · refine ax_aload_n d_Rw_copyOf_15 rfl ?_
        refine ax_aload_n d_Rw_copyOf_16 rfl ?_
        refine ax_iload_n d_Rw_copyOf_17 rfl ?_
        refine ax_cV1 d_Rw_copyOf_18 v_Rw_at lk_Rw_33 (by first | assumption | exact hH.g 0 rfl | exact hH.g 1 rfl) (by decide) (Nat.le_of_ble_eq_true rfl) (cm_i (c_Rw_at hO2 (i := i) (by omega)) (fun z h3 hp => ?_))
        obtain ⟨rfl, rfl⟩ := hp
        refine ax_cV1 d_Rw_copyOf_21 v_Rw_add lk_Rw_25 (by first | assumption | exact hH.g 0 rfl | exact hH.g 1 rfl) (by decide) (Nat.le_of_ble_eq_true rfl) (cm_v (c_Rw_add hR _) (fun h4 hp => ?_))
        obtain ⟨hR4, hF4⟩ := hp
        refine az_iinc d_Rw_copyOf_24 rfl (by decide) rfl ?_
        refine ax_goto 7 d_Rw_copyOf_27 (by decide) ?_
        refine ih (i + 1) h4 (by omega) ?_ (hF.tr hF4)
        have e : radd cap (ys.take i) (rAt ys (i : Int)) = ys.take (i + 1) := by
          rw [radd, if_pos (by rw [List.length_take]; omega), rAt, if_pos (by omega), ← take_succ_getD ys (by omega)]
          rfl
        rw [e] at hR4
        exact hR4
  refine key ys.length 0 h1 (by omega) ⟨g, hH, fun i hi => by simp at hi, by simp, hcap, hra⟩ hF1
theorem ext_getD {xs ys : List Int} (hl : xs.length = ys.length) (h : ∀ i : Nat, i < xs.length → xs.getD i 0 = ys.getD i 0) : xs = ys := by
  apply List.ext_getElem?
  intro i
  by_cases hi : i < xs.length
  · have := h i hi
    rw [List.getD_eq_getElem?_getD, List.getD_eq_getElem?_getD, List.getElem?_eq_getElem hi, List.getElem?_eq_getElem (by omega)] at this
    rw [List.getElem?_eq_getElem hi, List.getElem?_eq_getElem (by omega)]
    exact congrArg some this
  · rw [List.getElem?_eq_none (by omega), List.getElem?_eq_none (by omega)]
set_option maxRecDepth 100000 in
theorem c_Rw_isLike {h : ax_H} {r ra cap o oa ocap : Nat} {xs ys : List Int} (hR : Rw h r ra cap xs) (hO : Rw h o oa ocap ys) (hbx : Bs xs) (hby : Bs ys) : ax_Cz m_Rw_isLike 1 [.ref r, .ref o] h (fun b h1 => h1 = h ∧ b = decide (xs = ys)) := by
  have hsz := hR.sz
  have hszo := hO.sz
  have hlx : xs.length ≤ 3000 := by obtain ⟨g, -, -, h1, h2, -⟩ := hR; omega
  have hly : ys.length ≤ 3000 := by obtain ⟨g, -, -, h1, h2, -⟩ := hO; omega
  refine ax_enter [some (.ref r), some (.ref o), none] rfl (Nat.le_of_ble_eq_true rfl) (by decide) ?_
  refine ax_aload_n d_Rw_isLike_0 rfl ?_
  refine ax_get d_Rw_isLike_1 fg_Rw_21 (by first | assumption ) (by rfl) ?_
  refine ax_aload_n d_Rw_isLike_4 rfl ?_
  refine ax_get d_Rw_isLike_5 fg_Rw_21 (by first | assumption ) (by rfl) ?_
  refine az_icmp_eq 13 d_Rw_isLike_8 (by decide) (by omega) (by omega) (fun hc => ?_) (fun hc => ?_)
  · have hl : xs.length = ys.length := by omega
    refine az_iconst d_Rw_isLike_13 ?_
    refine ax_istore_n d_Rw_isLike_14 (by decide) rfl ?_
    have key : ∀ (k : Nat) (i : Nat), i + k = xs.length → (∀ j : Nat, j < i → xs.getD j 0 = ys.getD j 0) →
        ax_W m_Rw_isLike 1 15 [some (.ref r), some (.ref o), some (.int (iv i))] [] h (fun r0 h1 => ∃ b : Bool, r0 = some (.int (iv (bz b))) ∧ h1 = h ∧ b = decide (xs = ys)) := by
      intro k
      induction k with
      | zero =>
        intro i he hj
        refine ax_iload_n d_Rw_isLike_15 rfl ?_
        refine ax_aload_n d_Rw_isLike_16 rfl ?_
        refine ax_get d_Rw_isLike_17 fg_Rw_21 (by first | assumption ) (by rfl) ?_
        refine az_icmp_ge 44 d_Rw_isLike_20 (by decide) (by omega) (by omega) (fun hc => ?_) (fun hc => ?_)
        · refine az_iconst d_Rw_isLike_44 ?_
          refine ax_zret d_Rw_isLike_45 rfl (by decide) ?_
          refine ⟨true, rfl, rfl, ?_⟩
          symm
          rw [decide_eq_true_eq]
          exact ext_getD hl (fun j hjx => hj j (by omega))
        · exfalso
          omega
      | succ k ih =>
        intro i he hj
        have b1 := hbx i (by omega)
        have b2 := hby i (by omega)
        have e1 : rAt xs i = xs.getD i 0 := by rw [rAt, if_pos (by omega)]; rfl
        have e2 : rAt ys i = ys.getD i 0 := by rw [rAt, if_pos (by omega)]; rfl
        refine ax_iload_n d_Rw_isLike_15 rfl ?_
        refine ax_aload_n d_Rw_isLike_16 rfl ?_
        refine ax_get d_Rw_isLike_17 fg_Rw_21 (by first | assumption ) (by rfl) ?_
        refine az_icmp_ge 44 d_Rw_isLike_20 (by decide) (by omega) (by omega) (fun hc => ?_) (fun hc => ?_)
        · exfalso
          omega
        · refine ax_aload_n d_Rw_isLike_23 rfl ?_
          refine ax_iload_n d_Rw_isLike_24 rfl ?_
          refine ax_cV1 d_Rw_isLike_25 v_Rw_at lk_Rw_33 (by first | assumption ) (by decide) (Nat.le_of_ble_eq_true rfl) (cm_i (c_Rw_at hR (i := i) (by omega)) (fun z h3 hp => ?_))
          obtain ⟨rfl, rfl⟩ := hp
          refine ax_aload_n d_Rw_isLike_28 rfl ?_
          refine ax_iload_n d_Rw_isLike_29 rfl ?_
          refine ax_cV1 d_Rw_isLike_30 v_Rw_at lk_Rw_33 (by first | assumption ) (by decide) (Nat.le_of_ble_eq_true rfl) (cm_i (c_Rw_at hO (i := i) (by omega)) (fun z h3 hp => ?_))
          obtain ⟨rfl, rfl⟩ := hp
          rw [e1, e2]
          refine az_icmp_eq 38 d_Rw_isLike_33 (by decide) (by omega) (by omega) (fun hc => ?_) (fun hc => ?_)
          · refine az_iinc d_Rw_isLike_38 rfl (by decide) rfl ?_
            refine ax_goto 15 d_Rw_isLike_41 (by decide) ?_
            refine ih (i + 1) (by omega) (fun j hj2 => ?_)
            by_cases e : j = i
            · subst e; exact hc
            · exact hj j (by omega)
          · refine az_iconst d_Rw_isLike_36 ?_
            refine ax_zret d_Rw_isLike_37 rfl (by decide) ?_
            refine ⟨false, rfl, rfl, ?_⟩
            symm
            rw [decide_eq_false_iff_not]
            intro q
            exact hc (by rw [q])
    exact key xs.length 0 (by omega) (fun j hj => by omega)
  · refine az_iconst d_Rw_isLike_11 ?_
    refine ax_zret d_Rw_isLike_12 rfl (by decide) ?_
    refine ⟨false, rfl, rfl, ?_⟩
    symm
    rw [decide_eq_false_iff_not]
    intro q
    exact hc (by rw [q])
