/-! Symbols -/
def dgF : Nat → Nat → List Int
  | 0, _ => []
  | f + 1, z => if z = 0 then [] else (((z - 1) % 2 : Nat) : Int) :: dgF f ((z - 1) / 2)
def dg (z : Nat) : List Int := dgF z z
theorem dgF_len : ∀ (f z : Nat), (dgF f z).length ≤ z
  | 0, _ => by simp [dgF]
  | f + 1, z => by
    rw [dgF]
    split
    · simp
    · have := dgF_len f ((z - 1) / 2)
      simp
      omega
theorem dgF_fuel : ∀ (f f' z : Nat), z ≤ f → z ≤ f' → dgF f z = dgF f' z
  | 0, 0, _, _, _ => rfl
  | 0, f' + 1, z, h, _ => by
    have : z = 0 := by omega
    rw [dgF, dgF, if_pos this]
  | f + 1, 0, z, _, h => by
    have : z = 0 := by omega
    rw [dgF, dgF, if_pos this]
  | f + 1, f' + 1, z, h1, h2 => by
    rw [dgF, dgF]
    split
    · rfl
    · rw [dgF_fuel f f' ((z - 1) / 2) (by omega) (by omega)]
def inL (l : List Int) (b : Int) : Prop := ∃ j : Nat, j < l.length ∧ l.getD j 0 = b
theorem fidx_lt : ∀ (l : List Int) (b : Int), inL l b → fidx l b < l.length ∧ l.getD (fidx l b) 0 = b
  | [], b, h => by
    obtain ⟨j, hj, -⟩ := h
    simp at hj
  | x :: t, b, h => by
    by_cases e : x = b
    · rw [fidx, if_pos e]
      exact ⟨by simp, by simpa using e⟩
    · obtain ⟨j, hj, hv⟩ := h
      cases j with
      | zero => exact absurd (by simpa using hv) e
      | succ j =>
        have := fidx_lt t b ⟨j, by simpa using hj, by simpa using hv⟩
        rw [fidx, if_neg e]
        exact ⟨by simp; exact this.1, by simpa using this.2⟩
theorem inL_mtf {l : List Int} {p : Nat} {b : Int} (hp : p < l.length) (h : inL l b) : inL (mtf l p) b := by
  obtain ⟨j, hj, hv⟩ := h
  by_cases e1 : j = p
  · refine ⟨0, by rw [mtf_len]; omega, ?_⟩
    rw [mtf, mk_at (by omega), if_pos rfl, ← e1, hv]
  · by_cases e2 : j < p
    · refine ⟨j + 1, by rw [mtf_len]; omega, ?_⟩
      rw [mtf, mk_at (by omega), if_neg (by omega), if_pos (by omega), Nat.add_sub_cancel, hv]
    · refine ⟨j, by rw [mtf_len]; omega, ?_⟩
      rw [mtf, mk_at (by omega), if_neg (by omega), if_neg (by omega), hv]
theorem inL_mtf' {l : List Int} {p : Nat} {b : Int} (hp : p < l.length) (h : inL (mtf l p) b) : inL l b := by
  obtain ⟨j, hj, hv⟩ := h
  rw [mtf_len] at hj
  rw [mtf, mk_at hj] at hv
  split at hv
  · exact ⟨p, hp, hv⟩
  · split at hv
    · exact ⟨j - 1, by omega, hv⟩
    · exact ⟨j, hj, hv⟩
theorem Bs_mtf {l : List Int} {p : Nat} (hp : p < l.length) (h : Bs l) : Bs (mtf l p) := by
  intro i hi
  rw [mtf_len] at hi
  rw [mtf, mk_at hi]
  split
  · exact h p hp
  · split
    · exact h (i - 1) (by omega)
    · exact h i hi
theorem mem_inL {l : List Int} {b : Int} (h : b ∈ l) : inL l b := by
  obtain ⟨j, hj⟩ := List.getElem?_of_mem h
  have hl := (List.getElem?_eq_some_iff.mp hj).1
  exact ⟨j, hl, by rw [List.getD_eq_getElem?_getD, hj]; rfl⟩
theorem inL_mem {l : List Int} {b : Int} (h : inL l b) : b ∈ l := by
  obtain ⟨j, hj, hv⟩ := h
  rw [List.getD_eq_getElem?_getD, List.getElem?_eq_getElem hj] at hv
  rw [← hv]
  exact List.getElem_mem hj
theorem inL_lst {xs : List Int} (hb : Bs xs) {i : Nat} (hi : i < xs.length) : inL (lst xs) (gx xs i) := by
  have h1 := hb i hi
  obtain ⟨c, hc⟩ := Int.eq_ofNat_of_zero_le h1.1
  have hm : gx xs i ∈ xs := inL_mem ⟨i, hi, rfl⟩
  have hg : gx xs i = (c : Int) := hc
  apply mem_inL
  rw [lst, List.mem_map]
  refine ⟨c, List.mem_filter.mpr ⟨List.mem_range.mpr (by omega), ?_⟩, hg.symm⟩
  rw [← hg]
  exact List.contains_iff_mem.mpr hm
theorem Bs_lst (xs : List Int) : Bs (lst xs) := by
  intro i hi
  have hm : (lst xs).getD i 0 ∈ lst xs := inL_mem ⟨i, hi, rfl⟩
  rw [lst, List.mem_map] at hm
  obtain ⟨c, hc, e⟩ := hm
  have := List.mem_range.mp (List.mem_filter.mp hc).1
  have e2 : (lst xs).getD i 0 = (c : Int) := e.symm
  omega
theorem lst_len (xs : List Int) : (lst xs).length ≤ 256 := lsb_len xs 256
theorem drop_gx {xs : List Int} {i : Nat} (hi : i < xs.length) : xs.drop i = gx xs i :: xs.drop (i + 1) := by
  rw [List.drop_eq_getElem_cons hi]
  congr 1
  show _ = xs.getD i 0
  rw [List.getD_eq_getElem?_getD, List.getElem?_eq_getElem hi]
  rfl
/-- the symbols of the bytes that are left, with THE LIST and the noughts at hand -/
def syR : List Int → List Int → Nat → Int → List Int
  | [], _, z, e => dg z ++ [e]
  | b :: t, l, z, e => if fidx l b = 0 then syR t l (z + 1) e else dg z ++ ((fidx l b : Int) + 1) :: syR t (mtf l (fidx l b)) 0 e
def sy (xs : List Int) : List Int := syR xs (lst xs) 0 ((lst xs).length + 1)
def SyL (n : Nat) (e : Int) (g : Nat → Int) : List (Nat × ax_C) := [(18, ob 9 [.ref 19, .ref 21, .int (iv n), .int (iv e)]), (21, ia 901 g)]
def Sy (h : ax_H) (ss : List Int) (e : Int) : Prop := ∃ g, Hs h (SyL ss.length e g) ∧ la g ss ∧ ss.length ≤ 901
theorem Sy.fr {h h1 : ax_H} {ss : List Int} {e : Int} {S : List Nat} (hL : Sy h ss e) (hF : Fr S h h1) (hd : ([18, 21].all fun a => !S.contains a) = true) : Sy h1 ss e := by
  obtain ⟨g, hH, hr⟩ := hL
  exact ⟨g, hH.fr hF hd, hr⟩
theorem Sy.sz {h : ax_H} {ss : List Int} {e : Int} (hL : Sy h ss e) : h[18]? = some (ob 9 [.ref 19, .ref 21, .int (iv ss.length), .int (iv e)]) := by
  obtain ⟨g, hH, hr⟩ := hL
  exact hH.g 0 rfl
set_option maxRecDepth 100000 in
theorem c_Sy_at {h0 : ax_H} {ss : List Int} {e : Int} (hL : Sy h0 ss e) {i : Int} (hi : -2147483648 ≤ i ∧ i < 2147483648) : ax_Ci m_Sy_at 0 [.ref 18, .int (iv i)] h0 (fun z h1 => h1 = h0 ∧ z = rAt ss i) := by
  obtain ⟨g, hH, hg, hl⟩ := hL
  refine ax_enter [some (.ref 18), some (.int (iv i))] rfl (Nat.le_of_ble_eq_true rfl) (by decide) ?_
  refine ax_iload_n d_Sy_at_0 rfl ?_
  refine az_if_lt 21 d_Sy_at_1 (by decide) (by first | exact bz_in _ | omega) (fun hc => ?_) (fun hc => ?_)
  · refine az_bipush _ d_Sy_at_21 (by decide) ?_
    refine ax_iret d_Sy_at_23 rfl ?_
    refine ⟨-2, rfl, rfl, ?_⟩
    rw [rAt, if_neg (by omega)]
  · refine ax_iload_n d_Sy_at_4 rfl ?_
    refine ax_aload_n d_Sy_at_5 rfl ?_
    refine ax_get d_Sy_at_6 fg_Sy_22 (by first | assumption | exact hH.g 0 rfl | exact hH.g 1 rfl) (by rfl) ?_
    refine az_icmp_ge 21 d_Sy_at_9 (by decide) (by omega) (by omega) (fun hc => ?_) (fun hc => ?_)
    · refine az_bipush _ d_Sy_at_21 (by decide) ?_
      refine ax_iret d_Sy_at_23 rfl ?_
      refine ⟨-2, rfl, rfl, ?_⟩
      rw [rAt, if_neg (by omega)]
    · refine ax_aload_n d_Sy_at_12 rfl ?_
      refine ax_get d_Sy_at_13 fg_Sy_18 (by first | assumption | exact hH.g 0 rfl | exact hH.g 1 rfl) (by rfl) ?_
      refine ax_iload_n d_Sy_at_16 rfl ?_
      refine az_iald d_Sy_at_17 (by first | assumption | exact hH.g 0 rfl | exact hH.g 1 rfl) (by omega) (by omega) (by omega) ?_
      refine ax_goto 23 d_Sy_at_18 (by decide) ?_
      refine ax_iret d_Sy_at_23 rfl ?_
      refine ⟨_, rfl, rfl, ?_⟩
      rw [rAt, if_pos (by omega), hg _ (by omega)]
set_option maxRecDepth 100000 in
theorem c_Sy_addSymbol {h0 : ax_H} {ss : List Int} {e : Int} (hL : Sy h0 ss e) (hl2 : ss.length < 901) (b : Int) : ax_Cv m_Sy_addSymbol 0 [.ref 18, .int (iv b)] h0 (fun h1 => Sy h1 (ss ++ [b]) e ∧ Fr [18, 21] h0 h1) := by
  obtain ⟨g, hH, hg, hl⟩ := hL
  have hF : Fr [18, 21] h0 h0 := Fr.rf
  refine ax_enter [some (.ref 18), some (.int (iv b))] rfl (Nat.le_of_ble_eq_true rfl) (by decide) ?_
  refine ax_aload_n d_Sy_addSymbol_0 rfl ?_
  refine ax_get d_Sy_addSymbol_1 fg_Sy_22 (by first | assumption | exact hH.g 0 rfl | exact hH.g 1 rfl) (by rfl) ?_
  refine ax_aload_n d_Sy_addSymbol_4 rfl ?_
  refine ax_get d_Sy_addSymbol_5 fg_Sy_18 (by first | assumption | exact hH.g 0 rfl | exact hH.g 1 rfl) (by rfl) ?_
  refine az_alen d_Sy_addSymbol_8 (by first | assumption | exact hH.g 0 rfl | exact hH.g 1 rfl) ?_
  refine az_icmp_ge 32 d_Sy_addSymbol_9 (by decide) (by omega) (by omega) (fun hc => ?_) (fun hc => ?_)
  · exfalso
    omega
  · refine ax_aload_n d_Sy_addSymbol_12 rfl ?_
    refine ax_get d_Sy_addSymbol_13 fg_Sy_18 (by first | assumption | exact hH.g 0 rfl | exact hH.g 1 rfl) (by rfl) ?_
    refine ax_aload_n d_Sy_addSymbol_16 rfl ?_
    refine ax_get d_Sy_addSymbol_17 fg_Sy_22 (by first | assumption | exact hH.g 0 rfl | exact hH.g 1 rfl) (by rfl) ?_
    refine ax_iload_n d_Sy_addSymbol_20 rfl ?_
    first | refine ah_iast d_Sy_addSymbol_21 hH hF 0 rfl rfl (by omega) (by omega) (by omega) (by omega) (fun h hH hF => ?_) | refine ah_iast d_Sy_addSymbol_21 hH hF 1 rfl rfl (by omega) (by omega) (by omega) (by omega) (fun h hH hF => ?_)
    refine ax_aload_n d_Sy_addSymbol_22 rfl ?_
    refine ax_dup d_Sy_addSymbol_23 rfl ?_
    refine ax_get d_Sy_addSymbol_24 fg_Sy_22 (by first | assumption | exact hH.g 0 rfl | exact hH.g 1 rfl) (by rfl) ?_
    refine az_iconst d_Sy_addSymbol_27 ?_
    refine az_iadd d_Sy_addSymbol_28 ?_
    first | refine ah_put d_Sy_addSymbol_29 fp_Sy_22 hH hF 0 rfl rfl rfl (by first | rfl | decide) (Nat.le_of_ble_eq_true rfl) (fun h hH hF => ?_) | refine ah_put d_Sy_addSymbol_29 fp_Sy_22 hH hF 1 rfl rfl rfl (by first | rfl | decide) (Nat.le_of_ble_eq_true rfl) (fun h hH hF => ?_)
    refine ax_vret d_Sy_addSymbol_32 rfl ?_
    refine ⟨rfl, ⟨up g ss.length b, ?_, la_snoc hg b, by simp; omega⟩, hF⟩
    rw [List.length_append]
    exact hH
set_option maxRecDepth 100000 in
theorem c_Sy_addDigits {h0 : ax_H} {ss : List Int} {e : Int} (hL : Sy h0 ss e) {z : Nat} (hz : ss.length + z ≤ 901) : ax_Cv m_Sy_addDigits 1 [.ref 18, .int (iv z)] h0 (fun h1 => Sy h1 (ss ++ dg z) e ∧ Fr [18, 21] h0 h1) := by
  refine ax_enter [some (.ref 18), some (.int (iv z)), none] rfl (Nat.le_of_ble_eq_true rfl) (by decide) ?_
  refine ax_iload_n d_Sy_addDigits_0 rfl ?_
  refine ax_istore_n d_Sy_addDigits_1 (by decide) rfl ?_
  have key : ∀ (f y : Nat) (h : ax_H) (ts : List Int), y ≤ f → ts.length + y ≤ 901 → Sy h ts e → Fr [18, 21] h0 h → ts ++ dgF f y = ss ++ dg z →
      ax_W m_Sy_addDigits 1 2 [some (.ref 18), some (.int (iv z)), some (.int (iv y))] [] h (fun r h1 => r = none ∧ Sy h1 (ss ++ dg z) e ∧ Fr [18, 21] h0 h1) := by
    intro f
    induction f with
    | zero =>
      intro y h ts hy hl hL hF hs
      refine ax_iload_n d_Sy_addDigits_2 rfl ?_
      refine az_if_le 24 d_Sy_addDigits_3 (by decide) (by first | exact bz_in _ | omega) (fun hc => ?_) (fun hc => ?_)
      · refine ax_vret d_Sy_addDigits_24 rfl ?_
        refine ⟨rfl, ?_, hF⟩
        rw [← hs, dgF, List.append_nil]
        exact hL
      · exfalso
        omega
    | succ f ih =>
      intro y h ts hy hl hL hF hs
      have hsz := hL.sz
      refine ax_iload_n d_Sy_addDigits_2 rfl ?_
      refine az_if_le 24 d_Sy_addDigits_3 (by decide) (by first | exact bz_in _ | omega) (fun hc => ?_) (fun hc => ?_)
      · refine ax_vret d_Sy_addDigits_24 rfl ?_
        refine ⟨rfl, ?_, hF⟩
        rw [← hs, dgF, if_pos (by omega), List.append_nil]
        exact hL
      · refine ax_aload_n d_Sy_addDigits_6 rfl ?_
        refine ax_iload_n d_Sy_addDigits_7 rfl ?_
        refine az_iconst d_Sy_addDigits_8 ?_
        refine az_isub d_Sy_addDigits_9 ?_
        refine az_iconst d_Sy_addDigits_10 ?_
        refine az_irem d_Sy_addDigits_11 (by omega) (by omega) ?_
        have e1 : ((y : Int) - 1) % 2 = (((y - 1) % 2 : Nat) : Int) := by omega
        have e2 : ((y : Int) - 1) / 2 = (((y - 1) / 2 : Nat) : Int) := by omega
        refine ax_cV1 d_Sy_addDigits_12 v_Sy_addSymbol lk_Sy_50 (by first | assumption ) (by decide) (Nat.le_of_ble_eq_true rfl) (cm_v (c_Sy_addSymbol hL (by omega) _) (fun h2 hp => ?_))
        obtain ⟨hL2, hF2⟩ := hp
        refine ax_iload_n d_Sy_addDigits_15 rfl ?_
        refine az_iconst d_Sy_addDigits_16 ?_
        refine az_isub d_Sy_addDigits_17 ?_
        refine az_iconst d_Sy_addDigits_18 ?_
        refine az_idiv d_Sy_addDigits_19 (by omega) (by omega) ?_
        refine ax_istore_n d_Sy_addDigits_20 (by decide) rfl ?_
        refine ax_goto 2 d_Sy_addDigits_21 (by decide) ?_
        rw [e2]
        refine ih ((y - 1) / 2) h2 _ (by omega) (by simp; omega) hL2 (hF.tr hF2) ?_
        rw [← hs, dgF, if_neg (by omega), e1, List.append_assoc]
        rfl
  exact key z z h0 ss (by omega) hz hL Fr.rf rfl
set_option maxRecDepth 100000 in
set_option maxHeartbeats 4000000 in
theorem c_Sy_makeFrom {h0 : ax_H} {r ra cap : Nat} {xs l ss : List Int} {e : Int} (hL : Fl h0 l) (hS : Sy h0 ss e) (hR : Rw h0 r ra cap xs) (hbs : Bs xs) (hn : xs.length ≤ 900) (hd1 : [18, 19, 20, 21].contains r = false) (hd2 : [18, 19, 20, 21].contains ra = false) :
    ax_Cv m_Sy_makeFrom 2 [.ref 18, .ref r] h0 (fun h1 => Sy h1 (sy xs) ((lst xs).length + 1) ∧ (∃ l', Fl h1 l' ∧ l'.length = (lst xs).length ∧ Bs l' ∧ ∀ b, inL l' b ↔ inL (lst xs) b) ∧ Fr [18, 19, 20, 21] h0 h1) := by
  have hd1a : [19, 20].contains r = false := by simp at hd1 ⊢; omega
  have hd2a : [19, 20].contains ra = false := by simp at hd2 ⊢; omega
  have hszs := hS.sz
  have hszl := hL.sz
  have hll := lst_len xs
  refine ax_enter [some (.ref 18), some (.ref r), none, none, none] rfl (Nat.le_of_ble_eq_true rfl) (by decide) ?_
  refine ax_aload_n d_Sy_makeFrom_0 rfl ?_
  refine ax_get d_Sy_makeFrom_1 fg_Sy_12 (by first | assumption | exact hH.g 0 rfl | exact hH.g 1 rfl) (by rfl) ?_
  refine ax_aload_n d_Sy_makeFrom_4 rfl ?_
  refine ax_cV1 d_Sy_makeFrom_5 v_Fl_listBytes lk_Sy_26 (by first | assumption | exact hH.g 0 rfl | exact hH.g 1 rfl) (by decide) (Nat.le_of_ble_eq_true rfl) (cm_v (c_Fl_listBytes hL hR hbs hd1a hd2a) (fun h1 hp => ?_))
  obtain ⟨hL1, hF1⟩ := hp
  have hS1 := hS.fr hF1 rfl
  have hszl1 := hL1.sz
  have hF0 := hF1.wide (S' := [18, 19, 20, 21]) rfl
  obtain ⟨g, hH, hg, hl9⟩ := hS1
  have hF : Fr [18, 21] h1 h1 := Fr.rf
  refine ax_aload_n d_Sy_makeFrom_8 rfl ?_
  refine az_iconst d_Sy_makeFrom_9 ?_
  first | refine ah_put d_Sy_makeFrom_10 fp_Sy_22 hH hF 0 rfl rfl rfl (by first | rfl | decide) (Nat.le_of_ble_eq_true rfl) (fun h hH hF => ?_) | refine ah_put d_Sy_makeFrom_10 fp_Sy_22 hH hF 1 rfl rfl rfl (by first | rfl | decide) (Nat.le_of_ble_eq_true rfl) (fun h hH hF => ?_)
  refine ax_aload_n d_Sy_makeFrom_13 rfl ?_
  refine ax_aload_n d_Sy_makeFrom_14 rfl ?_
  refine ax_get d_Sy_makeFrom_15 fg_Sy_12 (by first | assumption | exact hH.g 0 rfl | exact hH.g 1 rfl) (by rfl) ?_
  have hszl2 := (hL1.fr hF rfl).sz
  refine ax_get d_Sy_makeFrom_18 fg_Sy_30 (by first | assumption | exact hH.g 0 rfl | exact hH.g 1 rfl) (by rfl) ?_
  refine az_iconst d_Sy_makeFrom_21 ?_
  refine az_iadd d_Sy_makeFrom_22 ?_
  first | refine ah_put d_Sy_makeFrom_23 fp_Sy_33 hH hF 0 rfl rfl rfl (by first | rfl | decide) (Nat.le_of_ble_eq_true rfl) (fun h hH hF => ?_) | refine ah_put d_Sy_makeFrom_23 fp_Sy_33 hH hF 1 rfl rfl rfl (by first | rfl | decide) (Nat.le_of_ble_eq_true rfl) (fun h hH hF => ?_)
  refine az_iconst d_Sy_makeFrom_26 ?_
  refine ax_istore_n d_Sy_makeFrom_27 (by decide) rfl ?_
  refine az_iconst d_Sy_makeFrom_28 ?_
  refine ax_istore_n d_Sy_makeFrom_29 (by decide) rfl ?_
  have hL2 := hL1.fr hF rfl
  have hFa : Fr [18, 19, 20, 21] h0 h := hF0.tr (hF.wide rfl)
  have hS2 : Sy h [] (((lst xs).length : Int) + 1) := ⟨g, hH, fun i hi => by simp at hi, by simp⟩
  have key : ∀ (f i z : Nat) (h : ax_H) (l ts : List Int), i + f = xs.length → ts.length + z ≤ i → Fl h l → Bs l → (∀ b, inL l b ↔ inL (lst xs) b) → l.length = (lst xs).length → Sy h ts ((lst xs).length + 1) → Fr [18, 19, 20, 21] h0 h → ts ++ syR (xs.drop i) l z ((lst xs).length + 1) = sy xs → ∀ v4 : Option Value,
      ax_W m_Sy_makeFrom 2 30 [some (.ref 18), some (.ref r), some (.int (iv z)), some (.int (iv i)), v4] [] h (fun r0 h1 => r0 = none ∧ Sy h1 (sy xs) ((lst xs).length + 1) ∧ (∃ l', Fl h1 l' ∧ l'.length = (lst xs).length ∧ Bs l' ∧ ∀ b, inL l' b ↔ inL (lst xs) b) ∧ Fr [18, 19, 20, 21] h0 h1) := by
    intro f
    induction f with
    | zero =>
      intro i z h l ts he hz hL hbl hin hll2 hS hF hs v4
      have hsz := (hR.fr hF hd1 hd2).sz
      have hszs := hS.sz
      refine ax_iload_n d_Sy_makeFrom_30 rfl ?_
      refine ax_aload_n d_Sy_makeFrom_31 rfl ?_
      refine ax_get d_Sy_makeFrom_32 fg_Sy_36 (by first | assumption | exact hH.g 0 rfl | exact hH.g 1 rfl) (by rfl) ?_
      refine az_icmp_ge 93 d_Sy_makeFrom_35 (by decide) (by omega) (by omega) (fun hc => ?_) (fun hc => ?_)
      · refine ax_aload_n d_Sy_makeFrom_93 rfl ?_
        refine ax_iload_n d_Sy_makeFrom_94 rfl ?_
        refine ax_cV1 d_Sy_makeFrom_95 v_Sy_addDigits lk_Sy_46 (by first | assumption | exact hH.g 0 rfl | exact hH.g 1 rfl) (by decide) (Nat.le_of_ble_eq_true rfl) (cm_v (c_Sy_addDigits hS (z := z) (by omega)) (fun h2 hp => ?_))
        obtain ⟨hS2, hF2⟩ := hp
        have hszs2 := hS2.sz
        have hdl : (dg z).length ≤ z := dgF_len z z
        refine ax_aload_n d_Sy_makeFrom_98 rfl ?_
        refine ax_aload_n d_Sy_makeFrom_99 rfl ?_
        refine ax_get d_Sy_makeFrom_100 fg_Sy_33 (by first | assumption | exact hH.g 0 rfl | exact hH.g 1 rfl) (by rfl) ?_
        refine ax_cV1 d_Sy_makeFrom_103 v_Sy_addSymbol lk_Sy_50 (by first | assumption | exact hH.g 0 rfl | exact hH.g 1 rfl) (by decide) (Nat.le_of_ble_eq_true rfl) (cm_v (c_Sy_addSymbol hS2 (by simp; omega) _) (fun h3 hp => ?_))
        obtain ⟨hS3, hF3⟩ := hp
        refine ax_vret d_Sy_makeFrom_106 rfl ?_
        refine ⟨rfl, ?_, ⟨l, (hL.fr hF2 rfl).fr hF3 rfl, hll2, hbl, hin⟩, (hF.tr (hF2.wide rfl)).tr (hF3.wide rfl)⟩
        rw [← hs, List.drop_of_length_le (by omega), syR, ← List.append_assoc]
        exact hS3
      · exfalso
        omega
    | succ f ih =>
      intro i z h l ts he hz hL hbl hin hll2 hS hF hs v4
      have hR1 := hR.fr hF hd1 hd2
      have hsz := hR1.sz
      have hszs := hS.sz
      have hszl := hL.sz
      have b1 := hbs i (by omega)
      have e1 : rAt xs i = gx xs i := by rw [rAt, if_pos (by omega)]; rfl
      have hfl := fidx_lt l (gx xs i) ((hin _).mpr (inL_lst hbs (by omega)))
      have hb1 : 0 ≤ gx xs i ∧ gx xs i < 256 := b1
      refine ax_iload_n d_Sy_makeFrom_30 rfl ?_
      refine ax_aload_n d_Sy_makeFrom_31 rfl ?_
      refine ax_get d_Sy_makeFrom_32 fg_Sy_36 (by first | assumption | exact hH.g 0 rfl | exact hH.g 1 rfl) (by rfl) ?_
      refine az_icmp_ge 93 d_Sy_makeFrom_35 (by decide) (by omega) (by omega) (fun hc => ?_) (fun hc => ?_)
      · exfalso
        omega
      · refine ax_aload_n d_Sy_makeFrom_38 rfl ?_
        refine ax_get d_Sy_makeFrom_39 fg_Sy_12 (by first | assumption | exact hH.g 0 rfl | exact hH.g 1 rfl) (by rfl) ?_
        refine ax_aload_n d_Sy_makeFrom_42 rfl ?_
        refine ax_iload_n d_Sy_makeFrom_43 rfl ?_
        refine ax_cV1 d_Sy_makeFrom_44 v_Rw_at lk_Sy_39 (by first | assumption | exact hH.g 0 rfl | exact hH.g 1 rfl) (by decide) (Nat.le_of_ble_eq_true rfl) (cm_i (c_Rw_at hR1 (i := i) (by omega)) (fun z9 h3 hp => ?_))
        obtain ⟨rfl, rfl⟩ := hp
        rw [e1]
        refine ax_cV1 d_Sy_makeFrom_47 v_Fl_placeOf lk_Sy_43 (by first | assumption | exact hH.g 0 rfl | exact hH.g 1 rfl) (by decide) (Nat.le_of_ble_eq_true rfl) (cm_i (c_Fl_placeOf hL hbl (b := gx xs i) (by omega)) (fun z9 h3 hp => ?_))
        obtain ⟨rfl, rfl⟩ := hp
        refine ax_istore d_Sy_makeFrom_50 (by decide) rfl ?_
        refine ax_iload d_Sy_makeFrom_52 rfl ?_
        refine az_if_ne 63 d_Sy_makeFrom_54 (by decide) (by first | exact bz_in _ | omega) (fun hc => ?_) (fun hc => ?_)
        · rename_i hne
          refine ax_aload_n d_Sy_makeFrom_63 rfl ?_
          refine ax_iload_n d_Sy_makeFrom_64 rfl ?_
          refine ax_cV1 d_Sy_makeFrom_65 v_Sy_addDigits lk_Sy_46 (by first | assumption | exact hH.g 0 rfl | exact hH.g 1 rfl) (by decide) (Nat.le_of_ble_eq_true rfl) (cm_v (c_Sy_addDigits hS (z := z) (by omega)) (fun h2 hp => ?_))
          obtain ⟨hS2, hF2⟩ := hp
          have hszs2 := hS2.sz
          have hdl : (dg z).length ≤ z := dgF_len z z
          refine az_iconst d_Sy_makeFrom_68 ?_
          refine ax_istore_n d_Sy_makeFrom_69 (by decide) rfl ?_
          refine ax_aload_n d_Sy_makeFrom_70 rfl ?_
          refine ax_iload d_Sy_makeFrom_71 rfl ?_
          refine az_iconst d_Sy_makeFrom_73 ?_
          refine az_iadd d_Sy_makeFrom_74 ?_
          refine ax_cV1 d_Sy_makeFrom_75 v_Sy_addSymbol lk_Sy_50 (by first | assumption | exact hH.g 0 rfl | exact hH.g 1 rfl) (by decide) (Nat.le_of_ble_eq_true rfl) (cm_v (c_Sy_addSymbol hS2 (by simp; omega) _) (fun h3 hp => ?_))
          obtain ⟨hS3, hF3⟩ := hp
          have hszs3 := hS3.sz
          have hL3 := (hL.fr hF2 rfl).fr hF3 rfl
          have hszl3 := hL3.sz
          refine ax_aload_n d_Sy_makeFrom_78 rfl ?_
          refine ax_get d_Sy_makeFrom_79 fg_Sy_12 (by first | assumption | exact hH.g 0 rfl | exact hH.g 1 rfl) (by rfl) ?_
          refine ax_iload d_Sy_makeFrom_82 rfl ?_
          refine ax_cV1 d_Sy_makeFrom_84 v_Fl_bringToFront lk_Sy_53 (by first | assumption | exact hH.g 0 rfl | exact hH.g 1 rfl) (by decide) (Nat.le_of_ble_eq_true rfl) (cm_v (c_Fl_bringToFront hL3 hfl.1) (fun h4 hp => ?_))
          obtain ⟨hL4, hF4⟩ := hp
          refine az_iinc d_Sy_makeFrom_87 rfl (by decide) rfl ?_
          refine ax_goto 30 d_Sy_makeFrom_90 (by decide) ?_
          refine ih (i + 1) 0 h4 _ _ (by omega) (by simp; omega) hL4 (Bs_mtf hfl.1 hbl) (fun b => ⟨fun q => (hin b).mp (inL_mtf' hfl.1 q), fun q => inL_mtf hfl.1 ((hin b).mpr q)⟩) (by rw [mtf_len]; exact hll2) (hS3.fr hF4 rfl) (((hF.tr (hF2.wide rfl)).tr (hF3.wide rfl)).tr (hF4.wide rfl)) ?_ _
          rw [← hs, drop_gx (show i < xs.length by omega), syR, if_neg (by omega)]
          simp
        · refine az_iinc d_Sy_makeFrom_57 rfl (by decide) rfl ?_
          refine ax_goto 87 d_Sy_makeFrom_60 (by decide) ?_
          refine az_iinc d_Sy_makeFrom_87 rfl (by decide) rfl ?_
          refine ax_goto 30 d_Sy_makeFrom_90 (by decide) ?_
          refine ih (i + 1) (z + 1) h3 l ts (by omega) (by omega) hL hbl hin hll2 hS hF ?_ _
          rw [← hs, drop_gx (show i < xs.length by omega), syR, if_pos (by omega)]
  exact key xs.length 0 0 h (lst xs) [] (by omega) (by simp) hL2 (Bs_lst xs) (fun b => Iff.rfl) rfl hS2 hFa rfl none
