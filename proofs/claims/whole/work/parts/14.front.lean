/-! FrontList: THE LIST -/
def la (g : Nat → Int) (l : List Int) : Prop := ∀ i : Nat, i < l.length → g i = l.getD i 0
theorem la_snoc {g : Nat → Int} {l : List Int} (h : la g l) (b : Int) : la (up g l.length b) (l ++ [b]) := by
  intro i hi
  rw [getD_snoc]
  simp at hi
  by_cases h2 : i = l.length
  · rw [if_pos h2, h2, up_at]
  · rw [if_neg h2, up_ne h2, h i (by omega)]
theorem la_up {g : Nat → Int} {l : List Int} (h : la g l) {k : Nat} (hk : l.length ≤ k) (b : Int) : la (up g k b) l := fun i hi => by rw [up_ne (by omega)]; exact h i hi
def mk (n : Nat) (f : Nat → Int) : List Int := (List.range n).map f
theorem mk_len (n : Nat) (f : Nat → Int) : (mk n f).length = n := by simp [mk]
theorem mk_at {n : Nat} {f : Nat → Int} {i : Nat} (hi : i < n) : (mk n f).getD i 0 = f i := by
  rw [mk, List.getD_eq_getElem?_getD, List.getElem?_map, List.getElem?_range hi]
  rfl
def mtf (l : List Int) (p : Nat) : List Int := mk l.length (fun i => if i = 0 then l.getD p 0 else if i ≤ p then l.getD (i - 1) 0 else l.getD i 0)
theorem mtf_len (l : List Int) (p : Nat) : (mtf l p).length = l.length := mk_len _ _
def fidx : List Int → Int → Nat
  | [], _ => 0
  | x :: t, b => if x = b then 0 else fidx t b + 1
theorem fidx_eq : ∀ (l : List Int) (b : Int) (p : Nat), (∀ j : Nat, j < p → l.getD j 0 ≠ b) → (p = l.length ∨ (p < l.length ∧ l.getD p 0 = b)) → fidx l b = p
  | [], b, p, _, h => by
    simp at h
    simp [fidx, h]
  | x :: t, b, 0, _, h => by
    have : x = b := by simpa using h
    rw [fidx, if_pos this]
  | x :: t, b, p + 1, hj, h => by
    have h0 : x ≠ b := by simpa using hj 0 (by omega)
    rw [fidx, if_neg h0, fidx_eq t b p (fun j hjp => by simpa using hj (j + 1) (by omega)) (by simpa using h)]
def lst (xs : List Int) : List Int := ((List.range 256).filter (fun b : Nat => xs.contains (b : Int))).map (fun b : Nat => (b : Int))
def lsb (xs : List Int) (n : Nat) : List Int := ((List.range n).filter (fun b : Nat => xs.contains (b : Int))).map (fun b : Nat => (b : Int))
theorem lsb_succ (xs : List Int) (n : Nat) : lsb xs (n + 1) = lsb xs n ++ (if xs.contains (n : Int) = true then [(n : Int)] else []) := by
  rw [lsb, List.range_succ, List.filter_append, List.map_append, lsb]
  congr 1
  by_cases h : xs.contains (n : Int) = true
  · rw [if_pos h, List.filter_cons_of_pos (p := fun b : Nat => xs.contains (b : Int)) h]; rfl
  · rw [if_neg h, List.filter_cons_of_neg (p := fun b : Nat => xs.contains (b : Int)) h]; rfl
theorem lsb_len (xs : List Int) : ∀ n, (lsb xs n).length ≤ n
  | 0 => by simp [lsb]
  | n + 1 => by
    rw [lsb_succ, List.length_append]
    have := lsb_len xs n
    split
    · simp; omega
    · simp; omega
def FlL (n : Nat) (g : Nat → Int) : List (Nat × ax_C) := [(19, ob 4 [.ref 20, .int (iv n)]), (20, ia 256 g)]
def Fl (h : ax_H) (l : List Int) : Prop := ∃ g, Hs h (FlL l.length g) ∧ la g l ∧ l.length ≤ 256
theorem Fl.fr {h h1 : ax_H} {l : List Int} {S : List Nat} (hL : Fl h l) (hF : Fr S h h1) (hd : ([19, 20].all fun a => !S.contains a) = true) : Fl h1 l := by
  obtain ⟨g, hH, hr⟩ := hL
  exact ⟨g, hH.fr hF hd, hr⟩
theorem Fl.sz {h : ax_H} {l : List Int} (hL : Fl h l) : h[19]? = some (ob 4 [.ref 20, .int (iv l.length)]) := by
  obtain ⟨g, hH, hr⟩ := hL
  exact hH.g 0 rfl
theorem c_Fl_makeEmpty {h0 : ax_H} {l : List Int} (hL : Fl h0 l) : ax_Cv m_Fl_makeEmpty 0 [.ref 19] h0 (fun h1 => Fl h1 [] ∧ Fr [19, 20] h0 h1) := by
  obtain ⟨g, hH, hg, hl⟩ := hL
  have hF : Fr [19, 20] h0 h0 := Fr.rf
  refine ax_enter [some (.ref 19)] rfl (Nat.le_of_ble_eq_true rfl) (by decide) ?_
  refine ax_aload_n d_Fl_makeEmpty_0 rfl ?_
  refine az_iconst d_Fl_makeEmpty_1 ?_
  first | refine ah_put d_Fl_makeEmpty_2 fp_Fl_15 hH hF 0 rfl rfl rfl (by first | rfl | decide) (Nat.le_of_ble_eq_true rfl) (fun h hH hF => ?_) | refine ah_put d_Fl_makeEmpty_2 fp_Fl_15 hH hF 1 rfl rfl rfl (by first | rfl | decide) (Nat.le_of_ble_eq_true rfl) (fun h hH hF => ?_)
  refine ax_vret d_Fl_makeEmpty_5 rfl ?_
  exact ⟨rfl, ⟨g, hH, fun i hi => by simp at hi, by simp⟩, hF⟩
set_option maxRecDepth 100000 in
theorem c_Fl_add {h0 : ax_H} {l : List Int} (hL : Fl h0 l) (hl2 : l.length < 256) (b : Int) : ax_Cv m_Fl_add 0 [.ref 19, .int (iv b)] h0 (fun h1 => Fl h1 (l ++ [b]) ∧ Fr [19, 20] h0 h1) := by
  obtain ⟨g, hH, hg, hl⟩ := hL
  have hF : Fr [19, 20] h0 h0 := Fr.rf
  refine ax_enter [some (.ref 19), some (.int (iv b))] rfl (Nat.le_of_ble_eq_true rfl) (by decide) ?_
  refine ax_aload_n d_Fl_add_0 rfl ?_
  refine ax_get d_Fl_add_1 fg_Fl_15 (by first | assumption | exact hH.g 0 rfl | exact hH.g 1 rfl) (by rfl) ?_
  refine az_sipush _ d_Fl_add_4 (by decide) ?_
  refine az_icmp_ge 30 d_Fl_add_7 (by decide) (by omega) (by omega) (fun hc => ?_) (fun hc => ?_)
  · exfalso
    omega
  · refine ax_aload_n d_Fl_add_10 rfl ?_
    refine ax_get d_Fl_add_11 fg_Fl_9 (by first | assumption | exact hH.g 0 rfl | exact hH.g 1 rfl) (by rfl) ?_
    refine ax_aload_n d_Fl_add_14 rfl ?_
    refine ax_get d_Fl_add_15 fg_Fl_15 (by first | assumption | exact hH.g 0 rfl | exact hH.g 1 rfl) (by rfl) ?_
    refine ax_iload_n d_Fl_add_18 rfl ?_
    first | refine ah_iast d_Fl_add_19 hH hF 0 rfl rfl (by omega) (by omega) (by omega) (by omega) (fun h hH hF => ?_) | refine ah_iast d_Fl_add_19 hH hF 1 rfl rfl (by omega) (by omega) (by omega) (by omega) (fun h hH hF => ?_)
    refine ax_aload_n d_Fl_add_20 rfl ?_
    refine ax_dup d_Fl_add_21 rfl ?_
    refine ax_get d_Fl_add_22 fg_Fl_15 (by first | assumption | exact hH.g 0 rfl | exact hH.g 1 rfl) (by rfl) ?_
    refine az_iconst d_Fl_add_25 ?_
    refine az_iadd d_Fl_add_26 ?_
    first | refine ah_put d_Fl_add_27 fp_Fl_15 hH hF 0 rfl rfl rfl (by first | rfl | decide) (Nat.le_of_ble_eq_true rfl) (fun h hH hF => ?_) | refine ah_put d_Fl_add_27 fp_Fl_15 hH hF 1 rfl rfl rfl (by first | rfl | decide) (Nat.le_of_ble_eq_true rfl) (fun h hH hF => ?_)
    refine ax_vret d_Fl_add_30 rfl ?_
    refine ⟨rfl, ⟨up g l.length b, ?_, la_snoc hg b, by simp; omega⟩, hF⟩
    rw [List.length_append]
    exact hH
set_option maxRecDepth 100000 in
theorem c_Fl_at {h0 : ax_H} {l : List Int} (hL : Fl h0 l) {i : Int} (hi : -2147483648 ≤ i ∧ i < 2147483648) : ax_Ci m_Fl_at 0 [.ref 19, .int (iv i)] h0 (fun z h1 => h1 = h0 ∧ z = rAt l i) := by
  obtain ⟨g, hH, hg, hl⟩ := hL
  refine ax_enter [some (.ref 19), some (.int (iv i))] rfl (Nat.le_of_ble_eq_true rfl) (by decide) ?_
  refine ax_iload_n d_Fl_at_0 rfl ?_
  refine az_if_lt 21 d_Fl_at_1 (by decide) (by first | exact bz_in _ | omega) (fun hc => ?_) (fun hc => ?_)
  · refine az_bipush _ d_Fl_at_21 (by decide) ?_
    refine ax_iret d_Fl_at_23 rfl ?_
    refine ⟨-2, rfl, rfl, ?_⟩
    rw [rAt, if_neg (by omega)]
  · refine ax_iload_n d_Fl_at_4 rfl ?_
    refine ax_aload_n d_Fl_at_5 rfl ?_
    refine ax_get d_Fl_at_6 fg_Fl_15 (by first | assumption | exact hH.g 0 rfl | exact hH.g 1 rfl) (by rfl) ?_
    refine az_icmp_ge 21 d_Fl_at_9 (by decide) (by omega) (by omega) (fun hc => ?_) (fun hc => ?_)
    · refine az_bipush _ d_Fl_at_21 (by decide) ?_
      refine ax_iret d_Fl_at_23 rfl ?_
      refine ⟨-2, rfl, rfl, ?_⟩
      rw [rAt, if_neg (by omega)]
    · refine ax_aload_n d_Fl_at_12 rfl ?_
      refine ax_get d_Fl_at_13 fg_Fl_9 (by first | assumption | exact hH.g 0 rfl | exact hH.g 1 rfl) (by rfl) ?_
      refine ax_iload_n d_Fl_at_16 rfl ?_
      refine az_iald d_Fl_at_17 (by first | assumption | exact hH.g 0 rfl | exact hH.g 1 rfl) (by omega) (by omega) (by omega) ?_
      refine ax_goto 23 d_Fl_at_18 (by decide) ?_
      refine ax_iret d_Fl_at_23 rfl ?_
      refine ⟨_, rfl, rfl, ?_⟩
      rw [rAt, if_pos (by omega), hg _ (by omega)]
set_option maxRecDepth 100000 in
theorem c_Fl_placeOf {h0 : ax_H} {l : List Int} (hL : Fl h0 l) (hb : Bs l) {b : Int} (hi : -2147483648 ≤ b ∧ b < 2147483648) : ax_Ci m_Fl_placeOf 0 [.ref 19, .int (iv b)] h0 (fun z h1 => h1 = h0 ∧ z = fidx l b) := by
  obtain ⟨g, hH, hg, hl⟩ := hL
  refine ax_enter [some (.ref 19), some (.int (iv b)), none] rfl (Nat.le_of_ble_eq_true rfl) (by decide) ?_
  refine az_iconst d_Fl_placeOf_0 ?_
  refine ax_istore_n d_Fl_placeOf_1 (by decide) rfl ?_
  have key : ∀ (f p : Nat), p + f = l.length → (∀ j : Nat, j < p → l.getD j 0 ≠ b) →
      ax_W m_Fl_placeOf 0 2 [some (.ref 19), some (.int (iv b)), some (.int (iv p))] [] h0 (fun r h1 => ∃ z : Int, r = some (.int (iv z)) ∧ h1 = h0 ∧ z = fidx l b) := by
    intro f
    induction f with
    | zero =>
      intro p he hj
      refine ax_iload_n d_Fl_placeOf_2 rfl ?_
      refine ax_aload_n d_Fl_placeOf_3 rfl ?_
      refine ax_get d_Fl_placeOf_4 fg_Fl_15 (by first | assumption | exact hH.g 0 rfl | exact hH.g 1 rfl) (by rfl) ?_
      refine az_icmp_ge 26 d_Fl_placeOf_7 (by decide) (by omega) (by omega) (fun hc => ?_) (fun hc => ?_)
      · refine ax_iload_n d_Fl_placeOf_26 rfl ?_
        refine ax_iret d_Fl_placeOf_27 rfl ?_
        exact ⟨_, rfl, rfl, by rw [fidx_eq l b p hj (Or.inl (by omega))]⟩
      · exfalso
        omega
    | succ f ih =>
      intro p he hj
      have hb1 := hb p (by omega)
      have hg1 := hg p (by omega)
      refine ax_iload_n d_Fl_placeOf_2 rfl ?_
      refine ax_aload_n d_Fl_placeOf_3 rfl ?_
      refine ax_get d_Fl_placeOf_4 fg_Fl_15 (by first | assumption | exact hH.g 0 rfl | exact hH.g 1 rfl) (by rfl) ?_
      refine az_icmp_ge 26 d_Fl_placeOf_7 (by decide) (by omega) (by omega) (fun hc => ?_) (fun hc => ?_)
      · exfalso
        omega
      · refine ax_aload_n d_Fl_placeOf_10 rfl ?_
        refine ax_get d_Fl_placeOf_11 fg_Fl_9 (by first | assumption | exact hH.g 0 rfl | exact hH.g 1 rfl) (by rfl) ?_
        refine ax_iload_n d_Fl_placeOf_14 rfl ?_
        refine az_iald d_Fl_placeOf_15 (by first | assumption | exact hH.g 0 rfl | exact hH.g 1 rfl) (by omega) (by omega) (by omega) ?_
        rw [Int.toNat_natCast, hg1]
        refine ax_iload_n d_Fl_placeOf_16 rfl ?_
        refine az_icmp_eq 26 d_Fl_placeOf_17 (by decide) (by omega) (by omega) (fun hpb => ?_) (fun hpb => ?_)
        · refine ax_iload_n d_Fl_placeOf_26 rfl ?_
          refine ax_iret d_Fl_placeOf_27 rfl ?_
          exact ⟨_, rfl, rfl, by rw [fidx_eq l b p hj (Or.inr ⟨by omega, hpb⟩)]⟩
        · refine az_iinc d_Fl_placeOf_20 rfl (by decide) rfl ?_
          refine ax_goto 2 d_Fl_placeOf_23 (by decide) ?_
          refine ih (p + 1) (by omega) (fun j hj2 => ?_)
          by_cases e : j = p
          · rw [e]; exact hpb
          · exact hj j (by omega)
  exact key l.length 0 (by omega) (fun j hj => by omega)
set_option maxRecDepth 100000 in
theorem c_Fl_bringToFront {h0 : ax_H} {l : List Int} (hL : Fl h0 l) {p : Nat} (hp : p < l.length) : ax_Cv m_Fl_bringToFront 0 [.ref 19, .int (iv p)] h0 (fun h1 => Fl h1 (mtf l p) ∧ Fr [19, 20] h0 h1) := by
  obtain ⟨g, hH, hg, hl⟩ := hL
  have hF : Fr [19, 20] h0 h0 := Fr.rf
  refine ax_enter [some (.ref 19), some (.int (iv p)), none, none] rfl (Nat.le_of_ble_eq_true rfl) (by decide) ?_
  refine ax_iload_n d_Fl_bringToFront_0 rfl ?_
  refine az_if_lt 12 d_Fl_bringToFront_1 (by decide) (by first | exact bz_in _ | omega) (fun hc => ?_) (fun hc => ?_)
  · exfalso
    omega
  · refine ax_iload_n d_Fl_bringToFront_4 rfl ?_
    refine ax_aload_n d_Fl_bringToFront_5 rfl ?_
    refine ax_get d_Fl_bringToFront_6 fg_Fl_15 (by first | assumption | exact hH.g 0 rfl | exact hH.g 1 rfl) (by rfl) ?_
    refine az_icmp_lt 13 d_Fl_bringToFront_9 (by decide) (by omega) (by omega) (fun hc => ?_) (fun hc => ?_)
    · refine ax_aload_n d_Fl_bringToFront_13 rfl ?_
      refine ax_get d_Fl_bringToFront_14 fg_Fl_9 (by first | assumption | exact hH.g 0 rfl | exact hH.g 1 rfl) (by rfl) ?_
      refine ax_iload_n d_Fl_bringToFront_17 rfl ?_
      refine az_iald d_Fl_bringToFront_18 (by first | assumption | exact hH.g 0 rfl | exact hH.g 1 rfl) (by omega) (by omega) (by omega) ?_
      refine ax_istore_n d_Fl_bringToFront_19 (by decide) rfl ?_
      refine ax_iload_n d_Fl_bringToFront_20 rfl ?_
      refine ax_istore_n d_Fl_bringToFront_21 (by decide) rfl ?_
      rw [Int.toNat_natCast, hg p hp]
      have key : ∀ (f : Nat) (h : ax_H) (g1 : Nat → Int), f ≤ p → Hs h (FlL l.length g1) → Fr [19, 20] h0 h → (∀ j : Nat, j < l.length → g1 j = if f < j ∧ j ≤ p then l.getD (j - 1) 0 else l.getD j 0) →
          ax_W m_Fl_bringToFront 0 22 [some (.ref 19), some (.int (iv p)), some (.int (iv (l.getD p 0))), some (.int (iv f))] [] h (fun r h1 => r = none ∧ Fl h1 (mtf l p) ∧ Fr [19, 20] h0 h1) := by
        intro f
        induction f with
        | zero =>
          intro h g1 hf hH hF hj
          refine ax_iload_n d_Fl_bringToFront_22 rfl ?_
          refine az_if_le 46 d_Fl_bringToFront_23 (by decide) (by first | exact bz_in _ | omega) (fun hc => ?_) (fun hc => ?_)
          · refine ax_aload_n d_Fl_bringToFront_46 rfl ?_
            refine ax_get d_Fl_bringToFront_47 fg_Fl_9 (by first | assumption | exact hH.g 0 rfl | exact hH.g 1 rfl) (by rfl) ?_
            refine az_iconst d_Fl_bringToFront_50 ?_
            refine ax_iload_n d_Fl_bringToFront_51 rfl ?_
            first | refine ah_iast d_Fl_bringToFront_52 hH hF 0 rfl rfl (by omega) (by omega) (by omega) (by omega) (fun h hH hF => ?_) | refine ah_iast d_Fl_bringToFront_52 hH hF 1 rfl rfl (by omega) (by omega) (by omega) (by omega) (fun h hH hF => ?_)
            refine ax_vret d_Fl_bringToFront_53 rfl ?_
            refine ⟨rfl, ⟨up g1 0 (l.getD p 0), ?_, ?_, by rw [mtf_len]; exact hl⟩, hF⟩
            · rw [mtf_len]
              exact hH
            · intro i hi
              rw [mtf_len] at hi
              rw [mtf, mk_at hi]
              by_cases e : i = 0
              · rw [if_pos e, e, up_at]
              · rw [if_neg e, up_ne e, hj i hi]
                by_cases e2 : i ≤ p
                · rw [if_pos e2, if_pos ⟨by omega, e2⟩]
                · rw [if_neg e2, if_neg (by omega)]
          · exfalso
            omega
        | succ f ih =>
          intro h g1 hf hH hF hj
          have hg1 := hj f (by omega)
          refine ax_iload_n d_Fl_bringToFront_22 rfl ?_
          refine az_if_le 46 d_Fl_bringToFront_23 (by decide) (by first | exact bz_in _ | omega) (fun hc => ?_) (fun hc => ?_)
          · exfalso
            omega
          · refine ax_aload_n d_Fl_bringToFront_26 rfl ?_
            refine ax_get d_Fl_bringToFront_27 fg_Fl_9 (by first | assumption | exact hH.g 0 rfl | exact hH.g 1 rfl) (by rfl) ?_
            refine ax_iload_n d_Fl_bringToFront_30 rfl ?_
            refine ax_aload_n d_Fl_bringToFront_31 rfl ?_
            refine ax_get d_Fl_bringToFront_32 fg_Fl_9 (by first | assumption | exact hH.g 0 rfl | exact hH.g 1 rfl) (by rfl) ?_
            refine ax_iload_n d_Fl_bringToFront_35 rfl ?_
            refine az_iconst d_Fl_bringToFront_36 ?_
            refine az_isub d_Fl_bringToFront_37 ?_
            refine az_iald d_Fl_bringToFront_38 (by first | assumption | exact hH.g 0 rfl | exact hH.g 1 rfl) (by omega) (by omega) (by omega) ?_
            first | refine ah_iast d_Fl_bringToFront_39 hH hF 0 rfl rfl (by omega) (by omega) (by omega) (by omega) (fun h hH hF => ?_) | refine ah_iast d_Fl_bringToFront_39 hH hF 1 rfl rfl (by omega) (by omega) (by omega) (by omega) (fun h hH hF => ?_)
            refine az_iinc d_Fl_bringToFront_40 rfl (by decide) rfl ?_
            refine ax_goto 22 d_Fl_bringToFront_43 (by decide) ?_
            have e1 : (((f + 1 : Nat) : Int) + -1) = (f : Int) := by omega
            rw [e1]
            refine ih h _ (by omega) hH hF (fun j hjl => ?_)
            show up g1 (((f + 1 : Nat) : Int)).toNat _ j = _
            rw [show (((f + 1 : Nat) : Int) - 1).toNat = f by omega, Int.toNat_natCast]
            by_cases e : j = f + 1
            · rw [e, up_at, hg1, if_neg (by omega), if_pos (by omega)]
              rfl
            · rw [up_ne e, hj j hjl]
              by_cases e2 : f < j ∧ j ≤ p
              · rw [if_pos e2, if_pos (by omega)]
              · rw [if_neg e2, if_neg (by omega)]
      refine key p h0 g (by omega) hH hF (fun j hj => ?_)
      rw [if_neg (by omega), hg j hj]
    · exfalso
      omega
theorem cont_snoc (l : List Int) (b j : Int) : (l ++ [b]).contains j = (l.contains j || decide (b = j)) := by
  rw [Bool.eq_iff_iff, Bool.or_eq_true, List.contains_iff_mem, List.contains_iff_mem, List.mem_append, List.mem_singleton, decide_eq_true_eq]
  constructor
  · rintro (h | h)
    · exact Or.inl h
    · exact Or.inr h.symm
  · rintro (h | h)
    · exact Or.inl h
    · exact Or.inr h.symm
def mark (xs : List Int) (j : Nat) : Int := if xs.contains (j : Int) = true then 1 else 0
set_option maxRecDepth 100000 in
set_option maxHeartbeats 4000000 in
theorem c_Fl_listBytes {h0 : ax_H} {r ra cap : Nat} {xs l : List Int} (hL : Fl h0 l) (hR : Rw h0 r ra cap xs) (hbs : Bs xs) (hd1 : [19, 20].contains r = false) (hd2 : [19, 20].contains ra = false) :
    ax_Cv m_Fl_listBytes 1 [.ref 19, .ref r] h0 (fun h1 => Fl h1 (lst xs) ∧ Fr [19, 20] h0 h1) := by
  obtain ⟨g, hH, hg, hl⟩ := hL
  have hlx : xs.length ≤ 3000 := by obtain ⟨g, -, -, h1, h2, -⟩ := hR; omega
  refine ax_enter [some (.ref 19), some (.ref r), none] rfl (Nat.le_of_ble_eq_true rfl) (by decide) ?_
  refine ax_aload_n d_Fl_listBytes_0 rfl ?_
  refine ax_get d_Fl_listBytes_1 fg_Fl_9 (by first | assumption | exact hH.g 0 rfl | exact hH.g 1 rfl) (by rfl) ?_
  refine az_iconst d_Fl_listBytes_4 ?_
  refine ax_cS2 d_Fl_listBytes_5 s_Ar_fill lk_Fl_19 (by decide) (Nat.le_of_ble_eq_true rfl) (cm_v (c_Ar_fill (hH.g 1 rfl) (by decide) (by decide) 0) (fun h2 hp => ?_))
  obtain ⟨g2, ha2, hg2, hF2⟩ := hp
  have hH2 : Hs h2 (FlL l.length g2) := Hs.c (by rw [hF2.2.2 19 rfl]; exact hH.g 0 rfl) rfl (Hs.c ha2 rfl Hs.n)
  have hF2' : Fr [19, 20] h0 h2 := hF2.wide rfl
  refine az_iconst d_Fl_listBytes_8 ?_
  refine ax_istore_n d_Fl_listBytes_9 (by decide) rfl ?_
  have loop2 : ∀ (f b : Nat) (h : ax_H) (g : Nat → Int), b + f = 256 → Hs h (FlL (lsb xs b).length g) → Fr [19, 20] h0 h → la g (lsb xs b) → (∀ j : Nat, b ≤ j → j < 256 → g j = mark xs j) →
      ax_W m_Fl_listBytes 1 42 [some (.ref 19), some (.ref r), some (.int (iv b))] [] h (fun r0 h1 => r0 = none ∧ Fl h1 (lst xs) ∧ Fr [19, 20] h0 h1) := by
    intro f
    induction f with
    | zero =>
      intro b h g he hH hF hg hm
      have hb : b = 256 := by omega
      subst hb
      refine ax_iload_n d_Fl_listBytes_42 rfl ?_
      refine az_sipush _ d_Fl_listBytes_43 (by decide) ?_
      refine az_icmp_ge 85 d_Fl_listBytes_46 (by decide) (by omega) (by omega) (fun hc => ?_) (fun hc => ?_)
      · refine ax_vret d_Fl_listBytes_85 rfl ?_
        exact ⟨rfl, ⟨g, hH, hg, lsb_len xs 256⟩, hF⟩
      · exfalso
        omega
    | succ f ih =>
      intro b h g he hH hF hg hm
      have hlb := lsb_len xs b
      have hmb := hm b (by omega) (by omega)
      refine ax_iload_n d_Fl_listBytes_42 rfl ?_
      refine az_sipush _ d_Fl_listBytes_43 (by decide) ?_
      refine az_icmp_ge 85 d_Fl_listBytes_46 (by decide) (by omega) (by omega) (fun hc => ?_) (fun hc => ?_)
      · exfalso
        omega
      · refine ax_aload_n d_Fl_listBytes_49 rfl ?_
        refine ax_get d_Fl_listBytes_50 fg_Fl_9 (by first | assumption | exact hH.g 0 rfl | exact hH.g 1 rfl) (by rfl) ?_
        refine ax_iload_n d_Fl_listBytes_53 rfl ?_
        refine az_iald d_Fl_listBytes_54 (by first | assumption | exact hH.g 0 rfl | exact hH.g 1 rfl) (by omega) (by omega) (by omega) ?_
        rw [Int.toNat_natCast, hmb]
        have hin : -2147483648 ≤ mark xs b ∧ mark xs b < 2147483648 := by unfold mark; split <;> omega
        refine az_iconst d_Fl_listBytes_55 ?_
        refine az_icmp_ne 79 d_Fl_listBytes_56 (by decide) (by omega) (by omega) (fun hq => ?_) (fun hq => ?_)
        · refine az_iinc d_Fl_listBytes_79 rfl (by decide) rfl ?_
          refine ax_goto 42 d_Fl_listBytes_82 (by decide) ?_
          have hnc : ¬ xs.contains (b : Int) = true := fun q => hq (by rw [mark, if_pos q])
          have e : lsb xs (b + 1) = lsb xs b := by rw [lsb_succ, if_neg hnc, List.append_nil]
          refine ih (b + 1) h g (by omega) (by rw [e]; exact hH) hF (by rw [e]; exact hg) (fun j h1 h2 => hm j (by omega) h2)
        · have hyc : xs.contains (b : Int) = true := by
            cases hcc : xs.contains (b : Int) with
            | true => rfl
            | false => rw [mark, hcc] at hq; simp at hq
          have e : lsb xs (b + 1) = lsb xs b ++ [(b : Int)] := by rw [lsb_succ, if_pos hyc]
          refine ax_aload_n d_Fl_listBytes_59 rfl ?_
          refine ax_get d_Fl_listBytes_60 fg_Fl_9 (by first | assumption | exact hH.g 0 rfl | exact hH.g 1 rfl) (by rfl) ?_
          refine ax_aload_n d_Fl_listBytes_63 rfl ?_
          refine ax_get d_Fl_listBytes_64 fg_Fl_15 (by first | assumption | exact hH.g 0 rfl | exact hH.g 1 rfl) (by rfl) ?_
          refine ax_iload_n d_Fl_listBytes_67 rfl ?_
          first | refine ah_iast d_Fl_listBytes_68 hH hF 0 rfl rfl (by omega) (by omega) (by omega) (by omega) (fun h hH hF => ?_) | refine ah_iast d_Fl_listBytes_68 hH hF 1 rfl rfl (by omega) (by omega) (by omega) (by omega) (fun h hH hF => ?_)
          refine ax_aload_n d_Fl_listBytes_69 rfl ?_
          refine ax_dup d_Fl_listBytes_70 rfl ?_
          refine ax_get d_Fl_listBytes_71 fg_Fl_15 (by first | assumption | exact hH.g 0 rfl | exact hH.g 1 rfl) (by rfl) ?_
          refine az_iconst d_Fl_listBytes_74 ?_
          refine az_iadd d_Fl_listBytes_75 ?_
          first | refine ah_put d_Fl_listBytes_76 fp_Fl_15 hH hF 0 rfl rfl rfl (by first | rfl | decide) (Nat.le_of_ble_eq_true rfl) (fun h hH hF => ?_) | refine ah_put d_Fl_listBytes_76 fp_Fl_15 hH hF 1 rfl rfl rfl (by first | rfl | decide) (Nat.le_of_ble_eq_true rfl) (fun h hH hF => ?_)
          refine az_iinc d_Fl_listBytes_79 rfl (by decide) rfl ?_
          refine ax_goto 42 d_Fl_listBytes_82 (by decide) ?_
          refine ih (b + 1) h (up g (lsb xs b).length b) (by omega) ?_ hF (by rw [e]; exact la_snoc hg _) (fun j h1 h2 => ?_)
          · rw [e, List.length_append]
            exact hH
          · rw [up_ne (by omega)]
            exact hm j (by omega) h2
  have loop1 : ∀ (f i : Nat) (h : ax_H) (g : Nat → Int), i + f = xs.length → Hs h (FlL l.length g) → Fr [19, 20] h0 h → (∀ j : Nat, j < 256 → g j = mark (xs.take i) j) →
      ax_W m_Fl_listBytes 1 10 [some (.ref 19), some (.ref r), some (.int (iv i))] [] h (fun r0 h1 => r0 = none ∧ Fl h1 (lst xs) ∧ Fr [19, 20] h0 h1) := by
    intro f
    induction f with
    | zero =>
      intro i h g he hH hF hm
      have hsz := (hR.fr hF hd1 hd2).sz
      refine ax_iload_n d_Fl_listBytes_10 rfl ?_
      refine ax_aload_n d_Fl_listBytes_11 rfl ?_
      refine ax_get d_Fl_listBytes_12 fg_Fl_25 (by first | assumption | exact hH.g 0 rfl | exact hH.g 1 rfl) (by rfl) ?_
      refine az_icmp_ge 35 d_Fl_listBytes_15 (by decide) (by omega) (by omega) (fun hc => ?_) (fun hc => ?_)
      · refine ax_aload_n d_Fl_listBytes_35 rfl ?_
        refine az_iconst d_Fl_listBytes_36 ?_
        first | refine ah_put d_Fl_listBytes_37 fp_Fl_15 hH hF 0 rfl rfl rfl (by first | rfl | decide) (Nat.le_of_ble_eq_true rfl) (fun h hH hF => ?_) | refine ah_put d_Fl_listBytes_37 fp_Fl_15 hH hF 1 rfl rfl rfl (by first | rfl | decide) (Nat.le_of_ble_eq_true rfl) (fun h hH hF => ?_)
        refine az_iconst d_Fl_listBytes_40 ?_
        refine ax_istore_n d_Fl_listBytes_41 (by decide) rfl ?_
        refine loop2 256 0 h g (by omega) hH hF (fun i hi => by simp [lsb] at hi) (fun j _ hj => ?_)
        rw [hm j hj, List.take_of_length_le (by omega)]
      · exfalso
        omega
    | succ f ih =>
      intro i h g he hH hF hm
      have hR1 := hR.fr hF hd1 hd2
      have hsz := hR1.sz
      have b1 := hbs i (by omega)
      have e1 : rAt xs i = gx xs i := by rw [rAt, if_pos (by omega)]; rfl
      obtain ⟨c, hc⟩ := Int.eq_ofNat_of_zero_le b1.1
      have hgc : gx xs i = (c : Int) := hc
      refine ax_iload_n d_Fl_listBytes_10 rfl ?_
      refine ax_aload_n d_Fl_listBytes_11 rfl ?_
      refine ax_get d_Fl_listBytes_12 fg_Fl_25 (by first | assumption | exact hH.g 0 rfl | exact hH.g 1 rfl) (by rfl) ?_
      refine az_icmp_ge 35 d_Fl_listBytes_15 (by decide) (by omega) (by omega) (fun hc => ?_) (fun hc => ?_)
      · exfalso
        omega
      · refine ax_aload_n d_Fl_listBytes_18 rfl ?_
        refine ax_get d_Fl_listBytes_19 fg_Fl_9 (by first | assumption | exact hH.g 0 rfl | exact hH.g 1 rfl) (by rfl) ?_
        refine ax_aload_n d_Fl_listBytes_22 rfl ?_
        refine ax_iload_n d_Fl_listBytes_23 rfl ?_
        refine ax_cV1 d_Fl_listBytes_24 v_Rw_at lk_Fl_28 (by first | assumption | exact hH.g 0 rfl | exact hH.g 1 rfl) (by decide) (Nat.le_of_ble_eq_true rfl) (cm_i (c_Rw_at hR1 (i := i) (by omega)) (fun z h3 hp => ?_))
        obtain ⟨rfl, rfl⟩ := hp
        rw [e1, hgc]
        refine az_iconst d_Fl_listBytes_27 ?_
        first | refine ah_iast d_Fl_listBytes_28 hH hF 0 rfl rfl (by omega) (by omega) (by omega) (by omega) (fun h hH hF => ?_) | refine ah_iast d_Fl_listBytes_28 hH hF 1 rfl rfl (by omega) (by omega) (by omega) (by omega) (fun h hH hF => ?_)
        refine az_iinc d_Fl_listBytes_29 rfl (by decide) rfl ?_
        refine ax_goto 10 d_Fl_listBytes_32 (by decide) ?_
        refine ih (i + 1) h (up g c 1) (by omega) hH hF (fun j hj => ?_)
        rw [mark, ← take_succ_getD xs (by omega), cont_snoc, show xs.getD i 0 = (c : Int) from hgc]
        by_cases e : j = c
        · rw [e, up_at, if_pos (by simp)]
        · rw [up_ne e, hm j hj, mark]
          have : decide ((c : Int) = (j : Int)) = false := decide_eq_false (by omega)
          rw [this, Bool.or_false]
  refine loop1 xs.length 0 h2 g2 (by omega) hH2 hF2' (fun j hj => ?_)
  rw [hg2 j hj, mark, if_neg (by simp)]
