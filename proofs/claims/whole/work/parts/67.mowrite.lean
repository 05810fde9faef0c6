/-! the reference: write -/
theorem gd_T {ss : List Int} {n : Nat} (hn : 0 < n) (hn2 : n ≤ 258) (hs : ss.length ≤ 1024) : gd (wS ss) n (jT ss n) := by
  have h11 := gd_11 hn hn2 (fun k _ => wS_pos ss k) (fun k _ => wS_le hs k)
  unfold jT
  cases h : (List.range 12).find? (fun j => (List.range n).all (fun k => decide (lenH (hv (wS ss) j) n k ≤ 12))) with
  | none =>
    have := List.find?_eq_none.mp h 11 (List.mem_range.mpr (by decide))
    rw [gd_all] at this
    exact absurd h11 this
  | some j =>
    have := List.find?_some h
    exact gd_all.mp this
theorem okLg_T {ss : List Int} {n : Nat} (hn : 2 ≤ n) (hn2 : n ≤ 258) (hs : ss.length ≤ 1024) : okLg (lgT ss n) n := fun k hk =>
  ⟨len_pos hn (hv_pos (fun k _ => wS_pos ss k) _) hk, gd_T (by omega) hn2 hs k hk⟩
theorem okLg_R {ls : List Int} (h : ls.length ≤ 1000) : okLg (lgR ls) (nT ls) := by
  have := sy_len ls
  have hn := nT_le ls
  exact okLg_T hn.2 hn.1 (by omega)
theorem bt_0 (p : Nat) : bt 0 p = 0 := by
  have := bt_nat 0 p
  rw [show ((0 : Nat) : Int) = 0 from rfl] at this
  rw [this, Nat.zero_div]
theorem pbs_pad : ∀ (j : Nat) (st : WSt), st.2.2 + j = 8 → 0 < j → pbs st (bitsV 0 j) = (st.1 ++ [((st.2.1 * 2 ^ j : Nat) : Int)], 0, 0)
  | 0, _, _, h => by omega
  | 1, st, h, _ => by
    show pb st (bt 0 0) = _
    rw [bt_0, pb, if_pos h, Nat.add_zero, Nat.pow_one, Nat.mul_comm]
  | j + 2, st, h, _ => by
    show pbs (pb st (bt 0 (j + 1))) (bitsV 0 (j + 1)) = _
    rw [bt_0, pbs_pad (j + 1) (pb st 0) (by rw [pb, if_neg (by omega)]; show st.2.2 + 1 + (j + 1) = 8; omega) (by omega), pb, if_neg (by omega)]
    show (st.1 ++ [(((2 * st.2.1 + 0) * 2 ^ (j + 1) : Nat) : Int)], 0, 0) = _
    rw [Nat.add_zero, Nat.pow_succ _ (j + 1), Nat.mul_comm 2, Nat.mul_assoc, Nat.mul_comm 2]
theorem MoB_out {iz : Nat → Int} {ar : Nat → Nat → Int} {S : List Nat} (h : MoB iz ar S) : lb (ar 22) (P0 (S ++ bitsV 0 (padN S))).1 ∧ (P0 (S ++ bitsV 0 (padN S))).1.length = (S.length + 7) / 8 := by
  obtain ⟨c1, c2, c3, c4⟩ := h
  obtain ⟨⟨w1, w2, w3⟩, w4⟩ := P0_ok c1
  rw [P0_app]
  by_cases e : (P0 S).2.2 = 0
  · have hp : padN S = 0 := by unfold padN; rw [e]
    rw [hp]
    show lb (ar 22) (P0 S).1 ∧ (P0 S).1.length = _
    exact ⟨c3, by omega⟩
  · have hp : padN S = 8 - (P0 S).2.2 := by unfold padN; omega
    rw [hp, pbs_pad (8 - (P0 S).2.2) (P0 S) (by omega) (by omega)]
    refine ⟨lb_snoc c3 (c4 (by omega)), ?_⟩
    show ((P0 S).1 ++ [_]).length = _
    rw [List.length_append]
    simp
    omega
theorem MoQ.out {iz iz1 : Nat → Int} {ar ar1 : Nat → Nat → Int} {xs T out out1 : List Int} {fp : Int} {K K' : List Nat} (k : MoQ iz ar xs T out fp) (hi : KI K iz iz1) (ha : KA K' ar ar1) (h1 : ([0, 6, 8, 9, 26, 29].all fun a => !K.contains a) = true) (h2 : ([1, 7, 25].all fun a => !K'.contains a) = true) (e1 : iz1 24 = out1.length) (e2 : out1.length ≤ 2000) (e3 : lb (ar1 22) out1) (e4 : Bs out1) : MoQ iz1 ar1 xs T out1 fp := by
  have hm : ∀ a ∈ [0, 6, 8, 9, 26, 29], iz1 a = iz a := fun a h => hi a (by have := List.all_eq_true.mp h1 a h; simpa using this)
  have hn : ∀ a ∈ [1, 7, 25], ar1 a = ar a := fun a h => ha a (by have := List.all_eq_true.mp h2 a h; simpa using this)
  unfold MoQ Laid at k ⊢
  rw [hm 0 (by decide), hm 6 (by decide), hm 8 (by decide), hm 9 (by decide), hm 26 (by decide), hm 29 (by decide), hn 1 (by decide), hn 7 (by decide), hn 25 (by decide)]
  obtain ⟨k1, k2, k3, k4, k5, k6, k7, k8, k9, k10⟩ := k
  exact ⟨k1, k2, k3, k4, k5, e1, e2, e3, e4, k10⟩
theorem MoB.ar22 {iz : Nat → Int} {ar ar1 : Nat → Nat → Int} {B : List Nat} (k : MoB iz ar B) (e : ar1 22 = ar 22) : MoB iz ar1 B := by
  unfold MoB at k ⊢
  rw [e]
  exact k
theorem pk_len {xs : List Int} (h : xs.length ≤ 600) (hb : Bs xs) (hl : (pk xs).length ≤ 750) (chk : Int) : (strB (pk xs) chk).length ≤ 15302 :=
  strB_len (Bs_pk hb) hl (fun _ => okLg_R (by rw [lastT_len]; omega))
set_option maxRecDepth 100000 in
set_option maxHeartbeats 16000000 in
theorem c_Mo_write {h0 : ax_H} {xs T out : List Int} {fp : Int} (hM : MoI h0 xs T out fp) : ax_Ci m_Mo_write 4 [.ref 47] h0 (fun z h1 => z = (outT (pk xs) (crc xs)).length ∧ MoI h1 xs T (outT (pk xs) (crc xs)) fp ∧ Fr MOS h0 h1) := by
  obtain ⟨iz, ar, hH, hQ⟩ := hM
  obtain ⟨q0, q1, q2, q3, -⟩ := id hQ
  have hF : Fr MOS h0 h0 := Fr.rf
  have hcr := crc_in xs
  refine ax_enter [some (.ref 47), none, none] rfl (Nat.le_of_ble_eq_true rfl) (by decide) ?_
  refine ax_aload_n d_Mo_write_0 rfl ?_
  refine az_iconst d_Mo_write_1 ?_
  first | refine ah_put d_Mo_write_2 fp_Mo_166 hH hF 0 rfl rfl rfl (by first | rfl | decide) (Nat.le_of_ble_eq_true rfl) (fun h hH hF => ?_) | refine ah_put d_Mo_write_2 fp_Mo_166 hH hF 1 rfl rfl rfl (by first | rfl | decide) (Nat.le_of_ble_eq_true rfl) (fun h hH hF => ?_) | refine ah_put d_Mo_write_2 fp_Mo_166 hH hF 2 rfl rfl rfl (by first | rfl | decide) (Nat.le_of_ble_eq_true rfl) (fun h hH hF => ?_) | refine ah_put d_Mo_write_2 fp_Mo_166 hH hF 3 rfl rfl rfl (by first | rfl | decide) (Nat.le_of_ble_eq_true rfl) (fun h hH hF => ?_) | refine ah_put d_Mo_write_2 fp_Mo_166 hH hF 4 rfl rfl rfl (by first | rfl | decide) (Nat.le_of_ble_eq_true rfl) (fun h hH hF => ?_) | refine ah_put d_Mo_write_2 fp_Mo_166 hH hF 5 rfl rfl rfl (by first | rfl | decide) (Nat.le_of_ble_eq_true rfl) (fun h hH hF => ?_) | refine ah_put d_Mo_write_2 fp_Mo_166 hH hF 6 rfl rfl rfl (by first | rfl | decide) (Nat.le_of_ble_eq_true rfl) (fun h hH hF => ?_) | refine ah_put d_Mo_write_2 fp_Mo_166 hH hF 7 rfl rfl rfl (by first | rfl | decide) (Nat.le_of_ble_eq_true rfl) (fun h hH hF => ?_) | refine ah_put d_Mo_write_2 fp_Mo_166 hH hF 8 rfl rfl rfl (by first | rfl | decide) (Nat.le_of_ble_eq_true rfl) (fun h hH hF => ?_) | refine ah_put d_Mo_write_2 fp_Mo_166 hH hF 9 rfl rfl rfl (by first | rfl | decide) (Nat.le_of_ble_eq_true rfl) (fun h hH hF => ?_) | refine ah_put d_Mo_write_2 fp_Mo_166 hH hF 10 rfl rfl rfl (by first | rfl | decide) (Nat.le_of_ble_eq_true rfl) (fun h hH hF => ?_) | refine ah_put d_Mo_write_2 fp_Mo_166 hH hF 11 rfl rfl rfl (by first | rfl | decide) (Nat.le_of_ble_eq_true rfl) (fun h hH hF => ?_) | refine ah_put d_Mo_write_2 fp_Mo_166 hH hF 12 rfl rfl rfl (by first | rfl | decide) (Nat.le_of_ble_eq_true rfl) (fun h hH hF => ?_) | refine ah_put d_Mo_write_2 fp_Mo_166 hH hF 13 rfl rfl rfl (by first | rfl | decide) (Nat.le_of_ble_eq_true rfl) (fun h hH hF => ?_) | refine ah_put d_Mo_write_2 fp_Mo_166 hH hF 14 rfl rfl rfl (by first | rfl | decide) (Nat.le_of_ble_eq_true rfl) (fun h hH hF => ?_) | refine ah_put d_Mo_write_2 fp_Mo_166 hH hF 15 rfl rfl rfl (by first | rfl | decide) (Nat.le_of_ble_eq_true rfl) (fun h hH hF => ?_) | refine ah_put d_Mo_write_2 fp_Mo_166 hH hF 16 rfl rfl rfl (by first | rfl | decide) (Nat.le_of_ble_eq_true rfl) (fun h hH hF => ?_) | refine ah_put d_Mo_write_2 fp_Mo_166 hH hF 17 rfl rfl rfl (by first | rfl | decide) (Nat.le_of_ble_eq_true rfl) (fun h hH hF => ?_) | refine ah_put d_Mo_write_2 fp_Mo_166 hH hF 18 rfl rfl rfl (by first | rfl | decide) (Nat.le_of_ble_eq_true rfl) (fun h hH hF => ?_)
  have hH : MoH h (up iz 23 0) ar := hH
  have kia : KI [23] iz (up iz 23 0) := KI.rf.up 23 0 rfl
  refine ax_aload_n d_Mo_write_5 rfl ?_
  refine ax_cV0 d_Mo_write_6 v_Mo_packBlock lk_Mo_90 (by first | assumption | exact hH.g 0 rfl | exact hH.g 1 rfl | exact hH.g 2 rfl | exact hH.g 3 rfl | exact hH.g 4 rfl | exact hH.g 5 rfl | exact hH.g 6 rfl | exact hH.g 7 rfl | exact hH.g 8 rfl | exact hH.g 9 rfl | exact hH.g 10 rfl | exact hH.g 11 rfl | exact hH.g 12 rfl | exact hH.g 13 rfl | exact hH.g 14 rfl | exact hH.g 15 rfl | exact hH.g 16 rfl | exact hH.g 17 rfl | exact hH.g 18 rfl) (by decide) (Nat.le_of_ble_eq_true rfl) (cm_v (c_Mo_packBlock hH (xs := xs) q0 q1 q2 q3) (fun h1 hq => ?_))
  obtain ⟨⟨iz1, ar1, hH1, ki1, ka1, e2, hl1, hpl⟩, hF1⟩ := hq
  have hH := hH1
  have hb1 := Bs_pk q3
  have hR1 : RwS iz1 ar1 (pk xs) := ⟨e2, by omega, hl1, hb1⟩
  refine ax_aload_n d_Mo_write_9 rfl ?_
  refine ax_cV0 d_Mo_write_10 v_Mo_putInOrder lk_Mo_104 (by first | assumption | exact hH.g 0 rfl | exact hH.g 1 rfl | exact hH.g 2 rfl | exact hH.g 3 rfl | exact hH.g 4 rfl | exact hH.g 5 rfl | exact hH.g 6 rfl | exact hH.g 7 rfl | exact hH.g 8 rfl | exact hH.g 9 rfl | exact hH.g 10 rfl | exact hH.g 11 rfl | exact hH.g 12 rfl | exact hH.g 13 rfl | exact hH.g 14 rfl | exact hH.g 15 rfl | exact hH.g 16 rfl | exact hH.g 17 rfl | exact hH.g 18 rfl) (by decide) (Nat.le_of_ble_eq_true rfl) (cm_v (c_Mo_putInOrder hH hR1) (fun h2 hq => ?_))
  obtain ⟨⟨ar2, hH2, ka2, ho4⟩, hF2⟩ := hq
  have hH := hH2
  have hR2 : RwS iz1 ar2 (pk xs) := hR1.fr (KI.rf (K := [])) ka2 rfl rfl
  have hFa : Fr MOS h0 h2 := (hF.tr hF1).tr hF2
  have ki2 : KI [2, 12, 14, 23, 24] iz iz1 := (kia.wide rfl).tr (ki1.wide rfl)
  have ka12 : KA [3, 4, 5, 11, 13, 15, 16, 17, 18, 19, 20, 21, 22] ar ar2 := (ka1.wide rfl).tr (ka2.wide rfl)
  have hB2 : MoB iz1 ar2 [] := ⟨fun b hb => by simp at hb, by rw [ki1 23 rfl]; rfl, fun i hi => by simp [P0, pbs] at hi, fun q => by exact absurd q (by decide)⟩
  have hstl := pk_len q1 q3 hpl (crc xs)
  -- the end: how many bytes
  have last : ∀ (h : ax_H) (iz5 : Nat → Int) (ar5 : Nat → Nat → Int) (S : List Nat), S = strB (pk xs) (crc xs) → MoH h iz5 ar5 → Fr MOS h0 h → KI [2, 12, 14, 23, 24] iz iz5 → KA [3, 4, 5, 11, 13, 15, 16, 17, 18, 19, 20, 21, 22] ar ar5 → MoB iz5 ar5 S → ∀ v1 v2 : Option Value,
      ax_W m_Mo_write 4 138 [some (.ref 47), v1, v2] [] h (fun r0 h1 => ∃ z : Int, r0 = some (.int (iv z)) ∧ z = (outT (pk xs) (crc xs)).length ∧ MoI h1 xs T (outT (pk xs) (crc xs)) fp ∧ Fr MOS h0 h1) := by
    intro h iz5 ar5 S hS hH hF ki ka hB v1 v2
    subst hS
    obtain ⟨o1, o2⟩ := MoB_out hB
    have o1 : lb (ar5 22) (outT (pk xs) (crc xs)) := o1
    have o2 : (outT (pk xs) (crc xs)).length = ((strB (pk xs) (crc xs)).length + 7) / 8 := o2
    have e23 := hB.2.1
    have ez : (iz5 23 + 7) / 8 = ((outT (pk xs) (crc xs)).length : Int) := by omega
    refine ax_aload_n d_Mo_write_138 rfl ?_
    refine ax_aload_n d_Mo_write_139 rfl ?_
    refine ax_get d_Mo_write_140 fg_Mo_166 (by first | assumption | exact hH.g 0 rfl | exact hH.g 1 rfl | exact hH.g 2 rfl | exact hH.g 3 rfl | exact hH.g 4 rfl | exact hH.g 5 rfl | exact hH.g 6 rfl | exact hH.g 7 rfl | exact hH.g 8 rfl | exact hH.g 9 rfl | exact hH.g 10 rfl | exact hH.g 11 rfl | exact hH.g 12 rfl | exact hH.g 13 rfl | exact hH.g 14 rfl | exact hH.g 15 rfl | exact hH.g 16 rfl | exact hH.g 17 rfl | exact hH.g 18 rfl) (by rfl) ?_
    refine az_bipush _ d_Mo_write_143 (by decide) ?_
    refine az_iadd d_Mo_write_145 ?_
    refine az_bipush _ d_Mo_write_146 (by decide) ?_
    refine az_idiv d_Mo_write_148 (by omega) (by omega) ?_
    rw [ez]
    first | refine ah_put d_Mo_write_149 fp_Mo_184 hH hF 0 rfl rfl rfl (by first | rfl | decide) (Nat.le_of_ble_eq_true rfl) (fun h hH hF => ?_) | refine ah_put d_Mo_write_149 fp_Mo_184 hH hF 1 rfl rfl rfl (by first | rfl | decide) (Nat.le_of_ble_eq_true rfl) (fun h hH hF => ?_) | refine ah_put d_Mo_write_149 fp_Mo_184 hH hF 2 rfl rfl rfl (by first | rfl | decide) (Nat.le_of_ble_eq_true rfl) (fun h hH hF => ?_) | refine ah_put d_Mo_write_149 fp_Mo_184 hH hF 3 rfl rfl rfl (by first | rfl | decide) (Nat.le_of_ble_eq_true rfl) (fun h hH hF => ?_) | refine ah_put d_Mo_write_149 fp_Mo_184 hH hF 4 rfl rfl rfl (by first | rfl | decide) (Nat.le_of_ble_eq_true rfl) (fun h hH hF => ?_) | refine ah_put d_Mo_write_149 fp_Mo_184 hH hF 5 rfl rfl rfl (by first | rfl | decide) (Nat.le_of_ble_eq_true rfl) (fun h hH hF => ?_) | refine ah_put d_Mo_write_149 fp_Mo_184 hH hF 6 rfl rfl rfl (by first | rfl | decide) (Nat.le_of_ble_eq_true rfl) (fun h hH hF => ?_) | refine ah_put d_Mo_write_149 fp_Mo_184 hH hF 7 rfl rfl rfl (by first | rfl | decide) (Nat.le_of_ble_eq_true rfl) (fun h hH hF => ?_) | refine ah_put d_Mo_write_149 fp_Mo_184 hH hF 8 rfl rfl rfl (by first | rfl | decide) (Nat.le_of_ble_eq_true rfl) (fun h hH hF => ?_) | refine ah_put d_Mo_write_149 fp_Mo_184 hH hF 9 rfl rfl rfl (by first | rfl | decide) (Nat.le_of_ble_eq_true rfl) (fun h hH hF => ?_) | refine ah_put d_Mo_write_149 fp_Mo_184 hH hF 10 rfl rfl rfl (by first | rfl | decide) (Nat.le_of_ble_eq_true rfl) (fun h hH hF => ?_) | refine ah_put d_Mo_write_149 fp_Mo_184 hH hF 11 rfl rfl rfl (by first | rfl | decide) (Nat.le_of_ble_eq_true rfl) (fun h hH hF => ?_) | refine ah_put d_Mo_write_149 fp_Mo_184 hH hF 12 rfl rfl rfl (by first | rfl | decide) (Nat.le_of_ble_eq_true rfl) (fun h hH hF => ?_) | refine ah_put d_Mo_write_149 fp_Mo_184 hH hF 13 rfl rfl rfl (by first | rfl | decide) (Nat.le_of_ble_eq_true rfl) (fun h hH hF => ?_) | refine ah_put d_Mo_write_149 fp_Mo_184 hH hF 14 rfl rfl rfl (by first | rfl | decide) (Nat.le_of_ble_eq_true rfl) (fun h hH hF => ?_) | refine ah_put d_Mo_write_149 fp_Mo_184 hH hF 15 rfl rfl rfl (by first | rfl | decide) (Nat.le_of_ble_eq_true rfl) (fun h hH hF => ?_) | refine ah_put d_Mo_write_149 fp_Mo_184 hH hF 16 rfl rfl rfl (by first | rfl | decide) (Nat.le_of_ble_eq_true rfl) (fun h hH hF => ?_) | refine ah_put d_Mo_write_149 fp_Mo_184 hH hF 17 rfl rfl rfl (by first | rfl | decide) (Nat.le_of_ble_eq_true rfl) (fun h hH hF => ?_) | refine ah_put d_Mo_write_149 fp_Mo_184 hH hF 18 rfl rfl rfl (by first | rfl | decide) (Nat.le_of_ble_eq_true rfl) (fun h hH hF => ?_)
    refine ax_aload_n d_Mo_write_152 rfl ?_
    refine ax_get d_Mo_write_153 fg_Mo_184 (by first | assumption | exact hH.g 0 rfl | exact hH.g 1 rfl | exact hH.g 2 rfl | exact hH.g 3 rfl | exact hH.g 4 rfl | exact hH.g 5 rfl | exact hH.g 6 rfl | exact hH.g 7 rfl | exact hH.g 8 rfl | exact hH.g 9 rfl | exact hH.g 10 rfl | exact hH.g 11 rfl | exact hH.g 12 rfl | exact hH.g 13 rfl | exact hH.g 14 rfl | exact hH.g 15 rfl | exact hH.g 16 rfl | exact hH.g 17 rfl | exact hH.g 18 rfl) (by rfl) ?_
    refine ax_iret d_Mo_write_156 rfl ?_
    refine ⟨_, rfl, rfl, ⟨up iz5 24 _, ar5, hH, ?_⟩, hF⟩
    exact hQ.out (ki.up 24 _ rfl) ka rfl rfl rfl (by omega) o1 (outT_ok _ _)
  have mid : ∀ z : Nat, (z : Int) = (if (pk xs).length = 0 then 0 else (plT (pk xs) 0 : Int)) → z < 1000 → ax_W m_Mo_write 4 28 [some (.ref 47), none, none] [.int (iv z)] h2 (fun r0 h1 => ∃ z : Int, r0 = some (.int (iv z)) ∧ z = (outT (pk xs) (crc xs)).length ∧ MoI h1 xs T (outT (pk xs) (crc xs)) fp ∧ Fr MOS h0 h1) := by
    intro z hz hz9
    refine ax_istore_n d_Mo_write_28 (by decide) rfl ?_
    refine ax_aload_n d_Mo_write_29 rfl ?_
    refine aj_ldc2 21332 d_Mo_write_30 cn_Mo_170 ?_
    refine az_bipush _ d_Mo_write_33 (by decide) ?_
    refine ax_cV2 d_Mo_write_35 v_Mo_put lk_Mo_172 (by first | assumption | exact hH.g 0 rfl | exact hH.g 1 rfl | exact hH.g 2 rfl | exact hH.g 3 rfl | exact hH.g 4 rfl | exact hH.g 5 rfl | exact hH.g 6 rfl | exact hH.g 7 rfl | exact hH.g 8 rfl | exact hH.g 9 rfl | exact hH.g 10 rfl | exact hH.g 11 rfl | exact hH.g 12 rfl | exact hH.g 13 rfl | exact hH.g 14 rfl | exact hH.g 15 rfl | exact hH.g 16 rfl | exact hH.g 17 rfl | exact hH.g 18 rfl) (by decide) (Nat.le_of_ble_eq_true rfl) (cm_v (c_Mo_put hH hB2 (v := 21332) (n := 16) (by omega) (by omega) (by simp)) (fun h3 hq => ?_))
    obtain ⟨⟨iz3, ar3, hH3, ki3, ka3, hB3⟩, hF3⟩ := hq
    have hH := hH3
    have e23 : iz3 2 = ((pk xs).length : Int) := (ki3 2 rfl).trans e2
    refine ax_aload_n d_Mo_write_38 rfl ?_
    refine ax_aload_n d_Mo_write_39 rfl ?_
    refine ax_get d_Mo_write_40 fg_Mo_87 (by first | assumption | exact hH.g 0 rfl | exact hH.g 1 rfl | exact hH.g 2 rfl | exact hH.g 3 rfl | exact hH.g 4 rfl | exact hH.g 5 rfl | exact hH.g 6 rfl | exact hH.g 7 rfl | exact hH.g 8 rfl | exact hH.g 9 rfl | exact hH.g 10 rfl | exact hH.g 11 rfl | exact hH.g 12 rfl | exact hH.g 13 rfl | exact hH.g 14 rfl | exact hH.g 15 rfl | exact hH.g 16 rfl | exact hH.g 17 rfl | exact hH.g 18 rfl) (by rfl) ?_
    rw [e23]
    refine aj_i2l d_Mo_write_43 (by omega) ?_
    refine az_bipush _ d_Mo_write_44 (by decide) ?_
    refine ax_cV2 d_Mo_write_46 v_Mo_put lk_Mo_172 (by first | assumption | exact hH.g 0 rfl | exact hH.g 1 rfl | exact hH.g 2 rfl | exact hH.g 3 rfl | exact hH.g 4 rfl | exact hH.g 5 rfl | exact hH.g 6 rfl | exact hH.g 7 rfl | exact hH.g 8 rfl | exact hH.g 9 rfl | exact hH.g 10 rfl | exact hH.g 11 rfl | exact hH.g 12 rfl | exact hH.g 13 rfl | exact hH.g 14 rfl | exact hH.g 15 rfl | exact hH.g 16 rfl | exact hH.g 17 rfl | exact hH.g 18 rfl) (by decide) (Nat.le_of_ble_eq_true rfl) (cm_v (c_Mo_put hH hB3 (v := (pk xs).length) (n := 16) (by omega) (by omega) (by simp [bitsF_len])) (fun h4 hq => ?_))
    obtain ⟨⟨iz4, ar4, hH4, ki4, ka4, hB4⟩, hF4⟩ := hq
    have hH := hH4
    refine ax_aload_n d_Mo_write_49 rfl ?_
    refine ax_iload_n d_Mo_write_50 rfl ?_
    refine aj_i2l d_Mo_write_51 (by omega) ?_
    refine az_bipush _ d_Mo_write_52 (by decide) ?_
    refine ax_cV2 d_Mo_write_54 v_Mo_put lk_Mo_172 (by first | assumption | exact hH.g 0 rfl | exact hH.g 1 rfl | exact hH.g 2 rfl | exact hH.g 3 rfl | exact hH.g 4 rfl | exact hH.g 5 rfl | exact hH.g 6 rfl | exact hH.g 7 rfl | exact hH.g 8 rfl | exact hH.g 9 rfl | exact hH.g 10 rfl | exact hH.g 11 rfl | exact hH.g 12 rfl | exact hH.g 13 rfl | exact hH.g 14 rfl | exact hH.g 15 rfl | exact hH.g 16 rfl | exact hH.g 17 rfl | exact hH.g 18 rfl) (by decide) (Nat.le_of_ble_eq_true rfl) (cm_v (c_Mo_put hH hB4 (v := z) (n := 16) (by omega) (by omega) (by simp [bitsF_len])) (fun h5 hq => ?_))
    obtain ⟨⟨iz5, ar5, hH5, ki5, ka5, hB5⟩, hF5⟩ := hq
    have hH := hH5
    have ki25 : KI [23] iz1 iz5 := (ki3.tr ki4).tr ki5
    have ka25 : KA [22] ar2 ar5 := (ka3.tr ka4).tr ka5
    have ki05 : KI [2, 12, 14, 23, 24] iz iz5 := ki2.tr (ki25.wide rfl)
    have ka05 : KA [3, 4, 5, 11, 13, 15, 16, 17, 18, 19, 20, 21, 22] ar ar5 := ka12.tr (ka25.wide rfl)
    refine ax_aload_n d_Mo_write_57 rfl ?_
    refine ax_aload_n d_Mo_write_58 rfl ?_
    refine ax_cV0 d_Mo_write_59 v_Mo_check lk_Mo_176 (by first | assumption | exact hH.g 0 rfl | exact hH.g 1 rfl | exact hH.g 2 rfl | exact hH.g 3 rfl | exact hH.g 4 rfl | exact hH.g 5 rfl | exact hH.g 6 rfl | exact hH.g 7 rfl | exact hH.g 8 rfl | exact hH.g 9 rfl | exact hH.g 10 rfl | exact hH.g 11 rfl | exact hH.g 12 rfl | exact hH.g 13 rfl | exact hH.g 14 rfl | exact hH.g 15 rfl | exact hH.g 16 rfl | exact hH.g 17 rfl | exact hH.g 18 rfl) (by decide) (Nat.le_of_ble_eq_true rfl) (cm_i (c_Mo_checkQ hH (xs := xs) ((ki05 0 rfl).trans q0) q1 (by rw [ka05 1 rfl]; exact q2)) (fun zc h6 hq => ?_))
    obtain ⟨rfl, rfl⟩ := hq
    have hcm : crc xs % 4294967296 = (((crc xs % 4294967296).toNat : Nat) : Int) := by omega
    refine aj_i2l d_Mo_write_62 (by omega) ?_
    refine aj_ldc2 4294967295 d_Mo_write_63 cn_Mo_179 ?_
    refine aj_land d_Mo_write_66 ?_
    rw [lzand_ff hcr, hcm]
    refine az_bipush _ d_Mo_write_67 (by decide) ?_
    refine ax_cV2 d_Mo_write_69 v_Mo_put lk_Mo_172 (by first | assumption | exact hH.g 0 rfl | exact hH.g 1 rfl | exact hH.g 2 rfl | exact hH.g 3 rfl | exact hH.g 4 rfl | exact hH.g 5 rfl | exact hH.g 6 rfl | exact hH.g 7 rfl | exact hH.g 8 rfl | exact hH.g 9 rfl | exact hH.g 10 rfl | exact hH.g 11 rfl | exact hH.g 12 rfl | exact hH.g 13 rfl | exact hH.g 14 rfl | exact hH.g 15 rfl | exact hH.g 16 rfl | exact hH.g 17 rfl | exact hH.g 18 rfl) (by decide) (Nat.le_of_ble_eq_true rfl) (cm_v (c_Mo_put hH hB5 (v := (crc xs % 4294967296).toNat) (n := 32) (by omega) (by omega) (by simp [bitsF_len])) (fun h7 hq => ?_))
    obtain ⟨⟨iz7, ar7, hH7, ki7, ka7, hB7⟩, hF7⟩ := hq
    have hH := hH7
    have ecr : bitsV (((crc xs % 4294967296).toNat : Nat) : Int) 32 = bitsV (crc xs) 32 := bitsF_cg (fun p hp => (bt_mod (w := 32) hp (crc xs / 4294967296) (by
      rw [← hcm]
      show crc xs = _ + _ * 4294967296
      omega)).symm)
    rw [ecr] at hB7
    have ki27 : KI [23] iz1 iz7 := ki25.tr ki7
    have ka27 : KA [22] ar2 ar7 := ka25.tr ka7
    have ki07 : KI [2, 12, 14, 23, 24] iz iz7 := ki05.tr (ki7.wide rfl)
    have ka07 : KA [3, 4, 5, 11, 13, 15, 16, 17, 18, 19, 20, 21, 22] ar ar7 := ka05.tr (ka7.wide rfl)
    have hFb : Fr MOS h0 h7 := (((hFa.tr hF3).tr hF4).tr hF5).tr hF7
    have hR7 : RwS iz7 ar7 (pk xs) := hR2.fr ki27 ka27 rfl rfl
    have h47 : ∀ k : Nat, k < (pk xs).length → ar7 4 k = ordT (pk xs) k := fun k hk => by rw [ka27 4 rfl]; exact ho4 k hk
    have e27 := hR7.1
    refine ax_aload_n d_Mo_write_72 rfl ?_
    refine ax_get d_Mo_write_73 fg_Mo_87 (by first | assumption | exact hH.g 0 rfl | exact hH.g 1 rfl | exact hH.g 2 rfl | exact hH.g 3 rfl | exact hH.g 4 rfl | exact hH.g 5 rfl | exact hH.g 6 rfl | exact hH.g 7 rfl | exact hH.g 8 rfl | exact hH.g 9 rfl | exact hH.g 10 rfl | exact hH.g 11 rfl | exact hH.g 12 rfl | exact hH.g 13 rfl | exact hH.g 14 rfl | exact hH.g 15 rfl | exact hH.g 16 rfl | exact hH.g 17 rfl | exact hH.g 18 rfl) (by rfl) ?_
    refine az_if_le 138 d_Mo_write_76 (by decide) (by first | exact bz_in _ | omega) (fun hsz => ?_) (fun hsz => ?_)
    · have h00 : (pk xs).length = 0 := by omega
      refine last h7 iz7 ar7 _ ?_ hH7 hFb ki07 ka07 hB7 _ _
      rw [hz]
      unfold strB
      simp [h00]
    · have h00 : (pk xs).length ≠ 0 := by omega
      have hll := lastT_len (pk xs)
      have hbl := Bs_lastT hb1
      -- the row becomes the last bytes
      have second : ∀ (f k : Nat) (ar8 : Nat → Nat → Int) (h : ax_H), k + f = (pk xs).length → MoH h iz7 ar8 → Fr MOS h0 h → KA [3, 4, 5, 11, 13, 15, 16, 17, 18, 19, 20, 21, 22] ar ar8 → ar8 22 = ar7 22 → la (ar8 11) (lastT (pk xs)) → (∀ j : Nat, j < k → ar8 3 j = gx (lastT (pk xs)) j) →
          ax_W m_Mo_write 4 108 [some (.ref 47), some (.int (iv z)), some (.int (iv k))] [] h (fun r0 h1 => ∃ z : Int, r0 = some (.int (iv z)) ∧ z = (outT (pk xs) (crc xs)).length ∧ MoI h1 xs T (outT (pk xs) (crc xs)) fp ∧ Fr MOS h0 h1) := by
        intro f
        induction f with
        | zero =>
          intro k ar8 h he hH hF ka h22 h11 h3
          have hB8 := hB7.ar22 h22
          have hR8 : RwS iz7 ar8 (lastT (pk xs)) := ⟨by rw [hll]; exact e27, by omega, fun j hj => h3 j (by omega), hbl⟩
          have hsl := sy_len (lastT (pk xs))
          have hnt := nT_le (lastT (pk xs))
          refine ax_iload_n d_Mo_write_108 rfl ?_
          refine ax_aload_n d_Mo_write_109 rfl ?_
          refine ax_get d_Mo_write_110 fg_Mo_87 (by first | assumption | exact hH.g 0 rfl | exact hH.g 1 rfl | exact hH.g 2 rfl | exact hH.g 3 rfl | exact hH.g 4 rfl | exact hH.g 5 rfl | exact hH.g 6 rfl | exact hH.g 7 rfl | exact hH.g 8 rfl | exact hH.g 9 rfl | exact hH.g 10 rfl | exact hH.g 11 rfl | exact hH.g 12 rfl | exact hH.g 13 rfl | exact hH.g 14 rfl | exact hH.g 15 rfl | exact hH.g 16 rfl | exact hH.g 17 rfl | exact hH.g 18 rfl) (by rfl) ?_
          refine az_icmp_ge 134 d_Mo_write_113 (by decide) (by omega) (by omega) (fun hc => ?_) (fun hc => ?_)
          · refine ax_aload_n d_Mo_write_134 rfl ?_
            refine ax_cV0 d_Mo_write_135 v_Mo_writeRow lk_Mo_181 (by first | assumption | exact hH.g 0 rfl | exact hH.g 1 rfl | exact hH.g 2 rfl | exact hH.g 3 rfl | exact hH.g 4 rfl | exact hH.g 5 rfl | exact hH.g 6 rfl | exact hH.g 7 rfl | exact hH.g 8 rfl | exact hH.g 9 rfl | exact hH.g 10 rfl | exact hH.g 11 rfl | exact hH.g 12 rfl | exact hH.g 13 rfl | exact hH.g 14 rfl | exact hH.g 15 rfl | exact hH.g 16 rfl | exact hH.g 17 rfl | exact hH.g 18 rfl) (by decide) (Nat.le_of_ble_eq_true rfl) (cm_v (c_Mo_writeRow hH hR8 hB8 (by simp [bitsF_len]; omega)) (fun h9 hq => ?_))
            obtain ⟨⟨iz9, ar9, hH9, ki9, ka9, hB9⟩, hF9⟩ := hq
            refine last h9 iz9 ar9 _ ?_ hH9 (hF.tr hF9) (ki07.tr (ki9.wide rfl)) (ka.tr (ka9.wide rfl)) hB9 _ _
            rw [hz]
            unfold strB
            rw [if_neg h00, if_neg h00]
            simp
          · exfalso
            omega
        | succ f ih =>
          intro k ar8 h he hH hF ka h22 h11 h3
          refine ax_iload_n d_Mo_write_108 rfl ?_
          refine ax_aload_n d_Mo_write_109 rfl ?_
          refine ax_get d_Mo_write_110 fg_Mo_87 (by first | assumption | exact hH.g 0 rfl | exact hH.g 1 rfl | exact hH.g 2 rfl | exact hH.g 3 rfl | exact hH.g 4 rfl | exact hH.g 5 rfl | exact hH.g 6 rfl | exact hH.g 7 rfl | exact hH.g 8 rfl | exact hH.g 9 rfl | exact hH.g 10 rfl | exact hH.g 11 rfl | exact hH.g 12 rfl | exact hH.g 13 rfl | exact hH.g 14 rfl | exact hH.g 15 rfl | exact hH.g 16 rfl | exact hH.g 17 rfl | exact hH.g 18 rfl) (by rfl) ?_
          refine az_icmp_ge 134 d_Mo_write_113 (by decide) (by omega) (by omega) (fun hc => ?_) (fun hc => ?_)
          · exfalso
            omega
          · refine ax_aload_n d_Mo_write_116 rfl ?_
            refine ax_get d_Mo_write_117 fg_Mo_13 (by first | assumption | exact hH.g 0 rfl | exact hH.g 1 rfl | exact hH.g 2 rfl | exact hH.g 3 rfl | exact hH.g 4 rfl | exact hH.g 5 rfl | exact hH.g 6 rfl | exact hH.g 7 rfl | exact hH.g 8 rfl | exact hH.g 9 rfl | exact hH.g 10 rfl | exact hH.g 11 rfl | exact hH.g 12 rfl | exact hH.g 13 rfl | exact hH.g 14 rfl | exact hH.g 15 rfl | exact hH.g 16 rfl | exact hH.g 17 rfl | exact hH.g 18 rfl) (by rfl) ?_
            refine ax_iload_n d_Mo_write_120 rfl ?_
            refine ax_aload_n d_Mo_write_121 rfl ?_
            refine ax_get d_Mo_write_122 fg_Mo_28 (by first | assumption | exact hH.g 0 rfl | exact hH.g 1 rfl | exact hH.g 2 rfl | exact hH.g 3 rfl | exact hH.g 4 rfl | exact hH.g 5 rfl | exact hH.g 6 rfl | exact hH.g 7 rfl | exact hH.g 8 rfl | exact hH.g 9 rfl | exact hH.g 10 rfl | exact hH.g 11 rfl | exact hH.g 12 rfl | exact hH.g 13 rfl | exact hH.g 14 rfl | exact hH.g 15 rfl | exact hH.g 16 rfl | exact hH.g 17 rfl | exact hH.g 18 rfl) (by rfl) ?_
            refine ax_iload_n d_Mo_write_125 rfl ?_
            refine az_iald d_Mo_write_126 (by first | assumption | exact hH.g 0 rfl | exact hH.g 1 rfl | exact hH.g 2 rfl | exact hH.g 3 rfl | exact hH.g 4 rfl | exact hH.g 5 rfl | exact hH.g 6 rfl | exact hH.g 7 rfl | exact hH.g 8 rfl | exact hH.g 9 rfl | exact hH.g 10 rfl | exact hH.g 11 rfl | exact hH.g 12 rfl | exact hH.g 13 rfl | exact hH.g 14 rfl | exact hH.g 15 rfl | exact hH.g 16 rfl | exact hH.g 17 rfl | exact hH.g 18 rfl) (by omega) (by omega) (by omega) ?_
            first | refine ah_iast d_Mo_write_127 hH hF 0 rfl rfl (by omega) (by omega) (by omega) (by omega) (fun h hH hF => ?_) | refine ah_iast d_Mo_write_127 hH hF 1 rfl rfl (by omega) (by omega) (by omega) (by omega) (fun h hH hF => ?_) | refine ah_iast d_Mo_write_127 hH hF 2 rfl rfl (by omega) (by omega) (by omega) (by omega) (fun h hH hF => ?_) | refine ah_iast d_Mo_write_127 hH hF 3 rfl rfl (by omega) (by omega) (by omega) (by omega) (fun h hH hF => ?_) | refine ah_iast d_Mo_write_127 hH hF 4 rfl rfl (by omega) (by omega) (by omega) (by omega) (fun h hH hF => ?_) | refine ah_iast d_Mo_write_127 hH hF 5 rfl rfl (by omega) (by omega) (by omega) (by omega) (fun h hH hF => ?_) | refine ah_iast d_Mo_write_127 hH hF 6 rfl rfl (by omega) (by omega) (by omega) (by omega) (fun h hH hF => ?_) | refine ah_iast d_Mo_write_127 hH hF 7 rfl rfl (by omega) (by omega) (by omega) (by omega) (fun h hH hF => ?_) | refine ah_iast d_Mo_write_127 hH hF 8 rfl rfl (by omega) (by omega) (by omega) (by omega) (fun h hH hF => ?_) | refine ah_iast d_Mo_write_127 hH hF 9 rfl rfl (by omega) (by omega) (by omega) (by omega) (fun h hH hF => ?_) | refine ah_iast d_Mo_write_127 hH hF 10 rfl rfl (by omega) (by omega) (by omega) (by omega) (fun h hH hF => ?_) | refine ah_iast d_Mo_write_127 hH hF 11 rfl rfl (by omega) (by omega) (by omega) (by omega) (fun h hH hF => ?_) | refine ah_iast d_Mo_write_127 hH hF 12 rfl rfl (by omega) (by omega) (by omega) (by omega) (fun h hH hF => ?_) | refine ah_iast d_Mo_write_127 hH hF 13 rfl rfl (by omega) (by omega) (by omega) (by omega) (fun h hH hF => ?_) | refine ah_iast d_Mo_write_127 hH hF 14 rfl rfl (by omega) (by omega) (by omega) (by omega) (fun h hH hF => ?_) | refine ah_iast d_Mo_write_127 hH hF 15 rfl rfl (by omega) (by omega) (by omega) (by omega) (fun h hH hF => ?_) | refine ah_iast d_Mo_write_127 hH hF 16 rfl rfl (by omega) (by omega) (by omega) (by omega) (fun h hH hF => ?_) | refine ah_iast d_Mo_write_127 hH hF 17 rfl rfl (by omega) (by omega) (by omega) (by omega) (fun h hH hF => ?_) | refine ah_iast d_Mo_write_127 hH hF 18 rfl rfl (by omega) (by omega) (by omega) (by omega) (fun h hH hF => ?_)
            refine az_iinc d_Mo_write_128 rfl (by decide) rfl ?_
            refine ax_goto 108 d_Mo_write_131 (by decide) ?_
            refine ih (k + 1) (upA ar8 3 (up (ar8 3) k (ar8 11 k))) h (by omega) hH hF (ka.up 3 _ rfl) h22 h11 (fun j hj => ?_)
            show up (ar8 3) k (ar8 11 k) j = _
            by_cases e : j = k
            · rw [e, up_at]
              exact h11 k (by omega)
            · rw [up_ne e]; exact h3 j (by omega)
      have first : ∀ (f k : Nat) (ar8 : Nat → Nat → Int) (h : ax_H), k + f = (pk xs).length → MoH h iz7 ar8 → Fr MOS h0 h → KA [3, 4, 5, 11, 13, 15, 16, 17, 18, 19, 20, 21, 22] ar ar8 → ar8 22 = ar7 22 → ar8 3 = ar7 3 → ar8 4 = ar7 4 → (∀ j : Nat, j < k → ar8 11 j = gx (lastT (pk xs)) j) →
          ax_W m_Mo_write 4 81 [some (.ref 47), some (.int (iv z)), some (.int (iv k))] [] h (fun r0 h1 => ∃ z : Int, r0 = some (.int (iv z)) ∧ z = (outT (pk xs) (crc xs)).length ∧ MoI h1 xs T (outT (pk xs) (crc xs)) fp ∧ Fr MOS h0 h1) := by
        intro f
        induction f with
        | zero =>
          intro k ar8 h he hH hF ka h22 h3 h4 h11
          refine ax_iload_n d_Mo_write_81 rfl ?_
          refine ax_aload_n d_Mo_write_82 rfl ?_
          refine ax_get d_Mo_write_83 fg_Mo_87 (by first | assumption | exact hH.g 0 rfl | exact hH.g 1 rfl | exact hH.g 2 rfl | exact hH.g 3 rfl | exact hH.g 4 rfl | exact hH.g 5 rfl | exact hH.g 6 rfl | exact hH.g 7 rfl | exact hH.g 8 rfl | exact hH.g 9 rfl | exact hH.g 10 rfl | exact hH.g 11 rfl | exact hH.g 12 rfl | exact hH.g 13 rfl | exact hH.g 14 rfl | exact hH.g 15 rfl | exact hH.g 16 rfl | exact hH.g 17 rfl | exact hH.g 18 rfl) (by rfl) ?_
          refine az_icmp_ge 106 d_Mo_write_86 (by decide) (by omega) (by omega) (fun hc => ?_) (fun hc => ?_)
          · refine az_iconst d_Mo_write_106 ?_
            refine ax_istore_n d_Mo_write_107 (by decide) rfl ?_
            exact second (pk xs).length 0 ar8 h (by omega) hH hF ka h22 (fun j hj => h11 j (by omega)) (fun j hj => by omega)
          · exfalso
            omega
        | succ f ih =>
          intro k ar8 h he hH hF ka h22 h3 h4 h11
          have hR8 : RwS iz7 ar8 (pk xs) := ⟨e27, hR7.2.1, by rw [h3]; exact hR7.2.2.1, hb1⟩
          refine ax_iload_n d_Mo_write_81 rfl ?_
          refine ax_aload_n d_Mo_write_82 rfl ?_
          refine ax_get d_Mo_write_83 fg_Mo_87 (by first | assumption | exact hH.g 0 rfl | exact hH.g 1 rfl | exact hH.g 2 rfl | exact hH.g 3 rfl | exact hH.g 4 rfl | exact hH.g 5 rfl | exact hH.g 6 rfl | exact hH.g 7 rfl | exact hH.g 8 rfl | exact hH.g 9 rfl | exact hH.g 10 rfl | exact hH.g 11 rfl | exact hH.g 12 rfl | exact hH.g 13 rfl | exact hH.g 14 rfl | exact hH.g 15 rfl | exact hH.g 16 rfl | exact hH.g 17 rfl | exact hH.g 18 rfl) (by rfl) ?_
          refine az_icmp_ge 106 d_Mo_write_86 (by decide) (by omega) (by omega) (fun hc => ?_) (fun hc => ?_)
          · exfalso
            omega
          · refine ax_aload_n d_Mo_write_89 rfl ?_
            refine ax_get d_Mo_write_90 fg_Mo_28 (by first | assumption | exact hH.g 0 rfl | exact hH.g 1 rfl | exact hH.g 2 rfl | exact hH.g 3 rfl | exact hH.g 4 rfl | exact hH.g 5 rfl | exact hH.g 6 rfl | exact hH.g 7 rfl | exact hH.g 8 rfl | exact hH.g 9 rfl | exact hH.g 10 rfl | exact hH.g 11 rfl | exact hH.g 12 rfl | exact hH.g 13 rfl | exact hH.g 14 rfl | exact hH.g 15 rfl | exact hH.g 16 rfl | exact hH.g 17 rfl | exact hH.g 18 rfl) (by rfl) ?_
            refine ax_iload_n d_Mo_write_93 rfl ?_
            refine ax_aload_n d_Mo_write_94 rfl ?_
            refine ax_iload_n d_Mo_write_95 rfl ?_
            refine ax_cV1 d_Mo_write_96 v_Mo_lastAt lk_Mo_127 (by first | assumption | exact hH.g 0 rfl | exact hH.g 1 rfl | exact hH.g 2 rfl | exact hH.g 3 rfl | exact hH.g 4 rfl | exact hH.g 5 rfl | exact hH.g 6 rfl | exact hH.g 7 rfl | exact hH.g 8 rfl | exact hH.g 9 rfl | exact hH.g 10 rfl | exact hH.g 11 rfl | exact hH.g 12 rfl | exact hH.g 13 rfl | exact hH.g 14 rfl | exact hH.g 15 rfl | exact hH.g 16 rfl | exact hH.g 17 rfl | exact hH.g 18 rfl) (by decide) (Nat.le_of_ble_eq_true rfl) (cm_i (c_Mo_lastAt hH hR8 (fun j hj => by rw [h4]; exact h47 j hj) (k := k) (by omega)) (fun zz h9 hq => ?_))
            obtain ⟨rfl, rfl⟩ := hq
            first | refine ah_iast d_Mo_write_99 hH hF 0 rfl rfl (by omega) (by omega) (by omega) (by omega) (fun h hH hF => ?_) | refine ah_iast d_Mo_write_99 hH hF 1 rfl rfl (by omega) (by omega) (by omega) (by omega) (fun h hH hF => ?_) | refine ah_iast d_Mo_write_99 hH hF 2 rfl rfl (by omega) (by omega) (by omega) (by omega) (fun h hH hF => ?_) | refine ah_iast d_Mo_write_99 hH hF 3 rfl rfl (by omega) (by omega) (by omega) (by omega) (fun h hH hF => ?_) | refine ah_iast d_Mo_write_99 hH hF 4 rfl rfl (by omega) (by omega) (by omega) (by omega) (fun h hH hF => ?_) | refine ah_iast d_Mo_write_99 hH hF 5 rfl rfl (by omega) (by omega) (by omega) (by omega) (fun h hH hF => ?_) | refine ah_iast d_Mo_write_99 hH hF 6 rfl rfl (by omega) (by omega) (by omega) (by omega) (fun h hH hF => ?_) | refine ah_iast d_Mo_write_99 hH hF 7 rfl rfl (by omega) (by omega) (by omega) (by omega) (fun h hH hF => ?_) | refine ah_iast d_Mo_write_99 hH hF 8 rfl rfl (by omega) (by omega) (by omega) (by omega) (fun h hH hF => ?_) | refine ah_iast d_Mo_write_99 hH hF 9 rfl rfl (by omega) (by omega) (by omega) (by omega) (fun h hH hF => ?_) | refine ah_iast d_Mo_write_99 hH hF 10 rfl rfl (by omega) (by omega) (by omega) (by omega) (fun h hH hF => ?_) | refine ah_iast d_Mo_write_99 hH hF 11 rfl rfl (by omega) (by omega) (by omega) (by omega) (fun h hH hF => ?_) | refine ah_iast d_Mo_write_99 hH hF 12 rfl rfl (by omega) (by omega) (by omega) (by omega) (fun h hH hF => ?_) | refine ah_iast d_Mo_write_99 hH hF 13 rfl rfl (by omega) (by omega) (by omega) (by omega) (fun h hH hF => ?_) | refine ah_iast d_Mo_write_99 hH hF 14 rfl rfl (by omega) (by omega) (by omega) (by omega) (fun h hH hF => ?_) | refine ah_iast d_Mo_write_99 hH hF 15 rfl rfl (by omega) (by omega) (by omega) (by omega) (fun h hH hF => ?_) | refine ah_iast d_Mo_write_99 hH hF 16 rfl rfl (by omega) (by omega) (by omega) (by omega) (fun h hH hF => ?_) | refine ah_iast d_Mo_write_99 hH hF 17 rfl rfl (by omega) (by omega) (by omega) (by omega) (fun h hH hF => ?_) | refine ah_iast d_Mo_write_99 hH hF 18 rfl rfl (by omega) (by omega) (by omega) (by omega) (fun h hH hF => ?_)
            refine az_iinc d_Mo_write_100 rfl (by decide) rfl ?_
            refine ax_goto 81 d_Mo_write_103 (by decide) ?_
            refine ih (k + 1) (upA ar8 11 (up (ar8 11) k (gx (lastT (pk xs)) k))) h (by omega) hH hF (ka.up 11 _ rfl) h22 h3 h4 (fun j hj => ?_)
            show up (ar8 11) k _ j = _
            by_cases e : j = k
            · rw [e, up_at]
            · rw [up_ne e]; exact h11 j (by omega)
      refine az_iconst d_Mo_write_79 ?_
      refine ax_istore_n d_Mo_write_80 (by decide) rfl ?_
      exact first (pk xs).length 0 ar7 h7 (by omega) hH7 hFb ka07 rfl rfl rfl (fun j hj => by omega)
  refine ax_aload_n d_Mo_write_13 rfl ?_
  refine ax_get d_Mo_write_14 fg_Mo_87 (by first | assumption | exact hH.g 0 rfl | exact hH.g 1 rfl | exact hH.g 2 rfl | exact hH.g 3 rfl | exact hH.g 4 rfl | exact hH.g 5 rfl | exact hH.g 6 rfl | exact hH.g 7 rfl | exact hH.g 8 rfl | exact hH.g 9 rfl | exact hH.g 10 rfl | exact hH.g 11 rfl | exact hH.g 12 rfl | exact hH.g 13 rfl | exact hH.g 14 rfl | exact hH.g 15 rfl | exact hH.g 16 rfl | exact hH.g 17 rfl | exact hH.g 18 rfl) (by rfl) ?_
  refine az_if_ne 24 d_Mo_write_17 (by decide) (by first | exact bz_in _ | omega) (fun hz => ?_) (fun hz => ?_)
  · have hpp : plT (pk xs) 0 < (pk xs).length := plc_lt_n (ltT_ok _) (by omega)
    refine ax_aload_n d_Mo_write_24 rfl ?_
    refine ax_cV0 d_Mo_write_25 v_Mo_originOf lk_Mo_107 (by first | assumption | exact hH.g 0 rfl | exact hH.g 1 rfl | exact hH.g 2 rfl | exact hH.g 3 rfl | exact hH.g 4 rfl | exact hH.g 5 rfl | exact hH.g 6 rfl | exact hH.g 7 rfl | exact hH.g 8 rfl | exact hH.g 9 rfl | exact hH.g 10 rfl | exact hH.g 11 rfl | exact hH.g 12 rfl | exact hH.g 13 rfl | exact hH.g 14 rfl | exact hH.g 15 rfl | exact hH.g 16 rfl | exact hH.g 17 rfl | exact hH.g 18 rfl) (by decide) (Nat.le_of_ble_eq_true rfl) (cm_i (c_Mo_originOf hH e2 (by omega) ho4) (fun z h3 hq => ?_))
    obtain ⟨rfl, rfl⟩ := hq
    rw [if_neg (by omega)]
    exact mid (plT (pk xs) 0) (by rw [if_neg (by omega)]) (by omega)
  · refine az_iconst d_Mo_write_20 ?_
    refine ax_goto 28 d_Mo_write_21 (by decide) ?_
    exact mid 0 (by rw [if_pos (by omega)]; rfl) (by omega)
