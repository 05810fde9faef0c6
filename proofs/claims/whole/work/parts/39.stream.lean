/-! StreamWriter.writeStream -/
abbrev WG : List Nat := [7, 8, 9, 10, 11, 12, 13, 14, 18, 19, 20, 21, 22, 23, 24, 25, 26, 27, 28, 29, 30, 31, 32, 39, 40, 41]
def SwAny (h : ax_H) (out : List Int) : Prop := ∃ st, SwS h st ∧ st.1 = out
theorem SwAny.fr {h h1 : ax_H} {out : List Int} {S : List Nat} (k : SwAny h out) (hF : Fr S h h1) (hd : ([39, 40, 41].all fun a => !S.contains a) = true) : SwAny h1 out := by
  obtain ⟨st, h2, h3⟩ := k
  exact ⟨st, h2.fr hF hd, h3⟩
theorem strB_len {xs : List Int} {chk : Int} (hb : Bs xs) (hn : xs.length ≤ 750) (hok : xs.length ≠ 0 → okLg (lgR (lastT xs)) (nT (lastT xs))) : (strB xs chk).length ≤ 15302 := by
  unfold strB
  rw [List.length_append, List.length_append, List.length_append, List.length_append, bitsF_len, bitsF_len, bitsF_len, bitsF_len]
  by_cases h0 : xs.length = 0
  · rw [if_pos h0]
    simp
  · rw [if_neg h0]
    have h1 := listB_len (lastT xs)
    have hlt := lst_len (lastT xs)
    have h2 := lenB_len (hok h0) (show 0 < nT (lastT xs) by unfold nT; omega)
    have h3 := codB_len (vl := vlR (lastT xs)) (hok h0) (sy (lastT xs)) (sy_in (Bs_lastT hb))
    have h4 := sy_len (lastT xs)
    rw [lastT_len] at h4
    unfold rowB
    rw [List.length_append, List.length_append]
    unfold nT at h2 ⊢
    omega
set_option maxRecDepth 100000 in
set_option maxHeartbeats 8000000 in
theorem c_Sw_writeStream {h0 : ax_H} {r ra cap : Nat} {xs out : List Int} {chk : Int} (hB : BnO h0) (hT : TuAny h0) (hLs : RwAny h0 8 9 900) (hSy : SyAny h0) (hFl : FlAny h0) (hCd : CdAny h0) (hJn : JnAny h0) (hW : SwAny h0 out) (hR : Rw h0 r ra cap xs) (hbs : Bs xs) (hn : xs.length ≤ 750) (hd1 : WG.contains r = false) (hd2 : WG.contains ra = false) :
    ax_Cv m_Sw_writeStream 4 [.ref 39, .ref r, .int (iv chk), .ref 6] h0 (fun h1 => SwAny h1 (outT xs chk) ∧ TuAny h1 ∧ RwAny h1 8 9 900 ∧ SyAny h1 ∧ FlAny h1 ∧ CdAny h1 ∧ JnAny h1 ∧ Fr WG h0 h1) := by
  obtain ⟨st, ⟨hH, hRo, hokw⟩, -⟩ := hW
  obtain ⟨n0, rc0, db0, o0, p0, rk0, ln0, off0, hTu⟩ := hT
  obtain ⟨ls0, hLs⟩ := hLs
  have hszo := hRo.sz
  refine ax_enter [some (.ref 39), some (.ref r), some (.int (iv chk)), some (.ref 6)] rfl (Nat.le_of_ble_eq_true rfl) (by decide) ?_
  refine ax_aload_n d_Sw_writeStream_0 rfl ?_
  refine ax_get d_Sw_writeStream_1 fg_Sw_14 (by first | assumption | exact hH.g 0 rfl) (by rfl) ?_
  refine az_iconst d_Sw_writeStream_4 ?_
  refine ax_cV1 d_Sw_writeStream_5 v_Rw_shorten lk_Sw_20 (by first | assumption | exact hH.g 0 rfl) (by decide) (Nat.le_of_ble_eq_true rfl) (cm_v (c_Rw_shorten hRo (n := 0) (by omega)) (fun h1 hp => ?_))
  obtain ⟨hRo1, hF1⟩ := hp
  have hRo1 : Rw h1 40 41 2000 [] := hRo1
  have hH : Hs h1 [(39, ob 8 [.ref 40, .int (iv st.2.1), .int (iv st.2.2)])] := hH.fr hF1 rfl
  have hF : Fr [39] h1 h1 := Fr.rf
  refine ax_aload_n d_Sw_writeStream_8 rfl ?_
  refine az_iconst d_Sw_writeStream_9 ?_
  first | refine ah_put d_Sw_writeStream_10 fp_Sw_23 hH hF 0 rfl rfl rfl (by first | rfl | decide) (Nat.le_of_ble_eq_true rfl) (fun h hH hF => ?_)
  refine ax_aload_n d_Sw_writeStream_13 rfl ?_
  refine az_iconst d_Sw_writeStream_14 ?_
  first | refine ah_put d_Sw_writeStream_15 fp_Sw_27 hH hF 0 rfl rfl rfl (by first | rfl | decide) (Nat.le_of_ble_eq_true rfl) (fun h hH hF => ?_)
  have hSB : SwB h [] := ⟨⟨hH, hRo1.fr hF rfl rfl, okW0⟩, fun b hb => by simp at hb⟩
  have hFa : Fr WG h0 h := (hF1.wide rfl).tr (hF.wide rfl)
  have hR1 := hR.fr hFa hd1 hd2
  have hB1 : h[6]? = some (ob 1 [.ref 7, .ref 15, .ref 18, .ref 22, .ref 33, .ref 35, .ref 37]) := hB.fr hFa rfl
  have hTu1 := (hTu.fr hF1 rfl).fr hF rfl
  have c7 : h[7]? = _ := hTu1.g 0 rfl
  refine ax_aload_n d_Sw_writeStream_18 rfl ?_
  refine ax_get d_Sw_writeStream_19 fg_Sw_30 (by first | assumption | exact hH.g 0 rfl) (by rfl) ?_
  refine ax_aload_n d_Sw_writeStream_22 rfl ?_
  refine ax_cV1 d_Sw_writeStream_23 v_Tu_sortTurns lk_Sw_36 (by first | assumption | exact hH.g 0 rfl) (by decide) (Nat.le_of_ble_eq_true rfl) (cm_v (c_Tu_sortTurns hTu1 hR1 hbs (by omega) ((hLs.fr hF1 rfl rfl).fr hF rfl rfl) (by simp at hd1 ⊢; omega) (by simp at hd2 ⊢; omega)) (fun h2 hp => ?_))
  obtain ⟨⟨rc, db, oo, pp, rk, ln, of3, hTu2, hfin⟩, hLs2, hF2⟩ := hp
  have hSB2 := hSB.fr hF2 rfl
  have hFb : Fr WG h0 h2 := hFa.tr (hF2.wide rfl)
  have hR2 := hR.fr hFb hd1 hd2
  have hszr := hR2.sz
  have c39 := hSB2.sz
  refine ax_aload_n d_Sw_writeStream_26 rfl ?_
  refine az_sipush _ d_Sw_writeStream_27 (by decide) ?_
  refine az_bipush _ d_Sw_writeStream_30 (by decide) ?_
  refine ax_cV2 d_Sw_writeStream_32 v_Sw_put lk_Sw_42 (by first | assumption | exact hH.g 0 rfl) (by decide) (Nat.le_of_ble_eq_true rfl) (cm_v (c_Sw_putB hSB2 (v := 21332) (w := 16) (by omega) (by simp)) (fun h3 hp => ?_))
  obtain ⟨hSB3, hF3⟩ := hp
  have hR3 := hR2.fr hF3 (by simp at hd1 ⊢; omega) (by simp at hd2 ⊢; omega)
  have hszr := hR3.sz
  have c39 := hSB3.sz
  refine ax_aload_n d_Sw_writeStream_35 rfl ?_
  refine ax_aload_n d_Sw_writeStream_36 rfl ?_
  refine ax_get d_Sw_writeStream_37 fg_Sw_46 (by first | assumption | exact hH.g 0 rfl) (by rfl) ?_
  refine az_bipush _ d_Sw_writeStream_40 (by decide) ?_
  refine ax_cV2 d_Sw_writeStream_42 v_Sw_put lk_Sw_42 (by first | assumption | exact hH.g 0 rfl) (by decide) (Nat.le_of_ble_eq_true rfl) (cm_v (c_Sw_putB hSB3 (v := xs.length) (w := 16) (by omega) (by simp [bitsF_len])) (fun h4 hp => ?_))
  obtain ⟨hSB4, hF4⟩ := hp
  have hR4 := hR3.fr hF4 (by simp at hd1 ⊢; omega) (by simp at hd2 ⊢; omega)
  have hszr := hR4.sz
  have c39 := hSB4.sz
  have hFc : Fr WG h0 h4 := (hFb.tr (hF3.wide rfl)).tr (hF4.wide rfl)
  have hB4 : h4[6]? = some (ob 1 [.ref 7, .ref 15, .ref 18, .ref 22, .ref 33, .ref 35, .ref 37]) := hB.fr hFc rfl
  have hTu4 := (hTu2.fr hF3 rfl).fr hF4 rfl
  have c7 : h4[7]? = _ := hTu4.g 0 rfl
  have hpl : xs.length ≠ 0 → plT xs 0 < xs.length := fun q => plc_lt_n (ltT_ok xs) (by omega)
  -- the end of it
  have last : ∀ (h : ax_H) (B : List Nat), SwB h B → B = strB xs chk → B.length ≤ 15302 → TuAny h → RwAny h 8 9 900 → SyAny h → FlAny h → CdAny h → JnAny h → Fr WG h0 h →
      ax_W m_Sw_writeStream 4 140 [some (.ref 39), some (.ref r), some (.int (iv chk)), some (.ref 6)] [] h (fun r0 h1 => r0 = none ∧ SwAny h1 (outT xs chk) ∧ TuAny h1 ∧ RwAny h1 8 9 900 ∧ SyAny h1 ∧ FlAny h1 ∧ CdAny h1 ∧ JnAny h1 ∧ Fr WG h0 h1) := by
    intro h B hS hBe hlen a1 a2 a3 a4 a5 a6 hF
    have c39 := hS.sz
    have hk := (P0_ok hS.2).1.1
    refine ax_aload_n d_Sw_writeStream_140 rfl ?_
    refine az_iconst d_Sw_writeStream_141 ?_
    refine az_bipush _ d_Sw_writeStream_142 (by decide) ?_
    refine ax_aload_n d_Sw_writeStream_144 rfl ?_
    refine ax_get d_Sw_writeStream_145 fg_Sw_27 (by first | assumption | exact hH.g 0 rfl) (by rfl) ?_
    refine az_isub d_Sw_writeStream_148 ?_
    refine az_bipush _ d_Sw_writeStream_149 (by decide) ?_
    refine az_irem d_Sw_writeStream_151 (by omega) (by omega) ?_
    have e : ((8 : Int) - ((P0 B).2.2 : Int)) % 8 = ((padN B : Nat) : Int) := by unfold padN; omega
    rw [e]
    have hp8 : padN B < 8 := by unfold padN; omega
    refine ax_cV2 d_Sw_writeStream_152 v_Sw_put lk_Sw_42 (by first | assumption | exact hH.g 0 rfl) (by decide) (Nat.le_of_ble_eq_true rfl) (cm_v (c_Sw_putB hS (v := 0) (w := padN B) (by omega) (by omega)) (fun h9 hp => ?_))
    obtain ⟨hS9, hF9⟩ := hp
    refine ax_vret d_Sw_writeStream_155 rfl ?_
    refine ⟨rfl, ⟨_, hS9.1, ?_⟩, a1.fr hF9 rfl, a2.fr hF9 rfl rfl, a3.fr hF9 rfl, a4.fr hF9 rfl, a5.fr hF9 rfl, a6.fr hF9 rfl, hF.tr (hF9.wide rfl)⟩
    rw [hBe]
    rfl
  have mid : ∀ z : Int, z = (if xs.length = 0 then 0 else (plT xs 0 : Int)) → ax_W m_Sw_writeStream 4 65 [some (.ref 39), some (.ref r), some (.int (iv chk)), some (.ref 6)] [.int (iv z), .ref 39] h4 (fun r0 h1 => r0 = none ∧ SwAny h1 (outT xs chk) ∧ TuAny h1 ∧ RwAny h1 8 9 900 ∧ SyAny h1 ∧ FlAny h1 ∧ CdAny h1 ∧ JnAny h1 ∧ Fr WG h0 h1) := by
    intro z hz
    refine az_bipush _ d_Sw_writeStream_65 (by decide) ?_
    refine ax_cV2 d_Sw_writeStream_67 v_Sw_put lk_Sw_42 (by first | assumption | exact hH.g 0 rfl) (by decide) (Nat.le_of_ble_eq_true rfl) (cm_v (c_Sw_putB hSB4 (v := z) (w := 16) (by omega) (by simp [bitsF_len])) (fun h5 hp => ?_))
    obtain ⟨hSB5, hF5⟩ := hp
    have c39 := hSB5.sz
    refine ax_aload_n d_Sw_writeStream_70 rfl ?_
    refine ax_iload_n d_Sw_writeStream_71 rfl ?_
    refine az_bipush _ d_Sw_writeStream_72 (by decide) ?_
    refine ax_cV2 d_Sw_writeStream_74 v_Sw_put lk_Sw_42 (by first | assumption | exact hH.g 0 rfl) (by decide) (Nat.le_of_ble_eq_true rfl) (cm_v (c_Sw_putB hSB5 (v := chk) (w := 32) (by omega) (by simp [bitsF_len])) (fun h6 hp => ?_))
    obtain ⟨hSB6, hF6⟩ := hp
    have hR6 := (hR4.fr hF5 (by simp at hd1 ⊢; omega) (by simp at hd2 ⊢; omega)).fr hF6 (by simp at hd1 ⊢; omega) (by simp at hd2 ⊢; omega)
    have hszr := hR6.sz
    have hFd : Fr WG h0 h6 := (hFc.tr (hF5.wide rfl)).tr (hF6.wide rfl)
    have hTu6 := (hTu4.fr hF5 rfl).fr hF6 rfl
    have hLs6 := (((hLs2.fr hF3 rfl rfl).fr hF4 rfl rfl).fr hF5 rfl rfl).fr hF6 rfl rfl
    -- nothing before has touched symbols and codes
    have hFx : Fr [7, 8, 9, 10, 11, 12, 13, 14, 39, 40, 41] h0 h6 := (((((hF1.wide rfl).tr (hF.wide rfl)).tr (hF2.wide rfl)).tr (hF3.wide rfl)).tr (hF4.wide rfl)).tr ((hF5.wide rfl).tr (hF6.wide rfl))
    have hSy6 := hSy.fr hFx rfl
    have hFl6 := hFl.fr hFx rfl
    have hCd6 := hCd.fr hFx rfl
    have hJn6 := hJn.fr hFx rfl
    have hB6 : h6[6]? = some (ob 1 [.ref 7, .ref 15, .ref 18, .ref 22, .ref 33, .ref 35, .ref 37]) := hB.fr hFx rfl
    have c7 : h6[7]? = _ := hTu6.g 0 rfl
    refine ax_aload_n d_Sw_writeStream_77 rfl ?_
    refine ax_get d_Sw_writeStream_78 fg_Sw_46 (by first | assumption | exact hH.g 0 rfl) (by rfl) ?_
    refine az_if_le 140 d_Sw_writeStream_81 (by decide) (by first | exact bz_in _ | omega) (fun hsz => ?_) (fun hsz => ?_)
    · have h00 : xs.length = 0 := by omega
      refine last h6 _ hSB6 ?_ (by simp [bitsF_len]) ⟨_, _, _, _, _, _, _, _, hTu6⟩ ⟨_, hLs6⟩ hSy6 hFl6 hCd6 hJn6 hFd
      rw [hz]
      unfold strB
      simp [h00]
    · have h00 : xs.length ≠ 0 := by omega
      have hbl := Bs_lastT hbs
      obtain ⟨ss0, e0, hSy6⟩ := hSy6
      obtain ⟨l0, hFl6⟩ := hFl6
      obtain ⟨nc, wt, lg, vl, bl, pl, hCd6⟩ := hCd6
      obtain ⟨s0, hp0, nd, pr, dp, hJn6⟩ := hJn6
      have c18 := hSy6.sz
      refine ax_aload_n d_Sw_writeStream_84 rfl ?_
      refine ax_get d_Sw_writeStream_85 fg_Sw_53 (by first | assumption | exact hH.g 0 rfl) (by rfl) ?_
      refine ax_aload_n d_Sw_writeStream_88 rfl ?_
      refine ax_get d_Sw_writeStream_89 fg_Sw_30 (by first | assumption | exact hH.g 0 rfl) (by rfl) ?_
      refine ax_get d_Sw_writeStream_92 fg_Sw_57 (by first | assumption | exact hH.g 0 rfl) (by rfl) ?_
      refine ax_cV1 d_Sw_writeStream_95 v_Sy_makeFrom lk_Sw_60 (by first | assumption | exact hH.g 0 rfl) (by decide) (Nat.le_of_ble_eq_true rfl) (cm_v (c_Sy_makeFrom hFl6 hSy6 hLs6 hbl (by rw [lastT_len]; omega) rfl rfl) (fun h7 hp => ?_))
      obtain ⟨hSy7, ⟨l', hFl7, hll, hbl', hmem⟩, hF7⟩ := hp
      have hnT : nT (lastT xs) ≤ 258 ∧ 2 ≤ nT (lastT xs) := by have := lst_len (lastT xs); unfold nT; omega
      have e7 : (((lst (lastT xs)).length : Int) + 1) = ((nT (lastT xs) : Nat) : Int) - 1 := by unfold nT; omega
      have hSy7' := hSy7
      rw [e7] at hSy7'
      have hCd7 := hCd6.fr hF7 rfl
      have hJn7 := hJn6.fr hF7 rfl
      have hB7 : h7[6]? = some (ob 1 [.ref 7, .ref 15, .ref 18, .ref 22, .ref 33, .ref 35, .ref 37]) := BnO.fr hB6 hF7 rfl
      have c18 := hSy7.sz
      have c22 : h7[22]? = _ := hCd7.g 0 rfl
      refine ax_aload_n d_Sw_writeStream_98 rfl ?_
      refine ax_get d_Sw_writeStream_99 fg_Sw_65 (by first | assumption | exact hH.g 0 rfl) (by rfl) ?_
      refine ax_aload_n d_Sw_writeStream_102 rfl ?_
      refine ax_get d_Sw_writeStream_103 fg_Sw_53 (by first | assumption | exact hH.g 0 rfl) (by rfl) ?_
      refine ax_cV1 d_Sw_writeStream_106 v_Cd_makeFrom lk_Sw_69 (by first | assumption | exact hH.g 0 rfl) (by decide) (Nat.le_of_ble_eq_true rfl) (cm_v (c_Cd_makeFrom hCd7 hJn7 hnT.1 hnT.2 hSy7' (okS_sy hbl)) (fun h8 hp => ?_))
      obtain ⟨⟨wt8, lg8, vl8, bl8, pl8, hCd8, hok8⟩, hJn8, hF8⟩ := hp
      have hsl := sy_len (lastT xs)
      rw [lastT_len] at hsl
      obtain ⟨hl8, hv8, hokT⟩ := CdOK_T (by omega) hnT.1 (by omega) hok8
      have hoklg : okLg lg8 (nT (lastT xs)) := okLg_cg (fun k hk => (hl8 k hk).symm) hokT
      have hlen := strB_len (chk := chk) hbs hn (fun _ => hokT)
      have hSB8 := (hSB6.fr hF7 rfl).fr hF8 rfl
      have hFl8 := hFl7.fr hF8 rfl
      have hSy8 := hSy7.fr hF8 rfl
      have hB8 : h8[6]? = some (ob 1 [.ref 7, .ref 15, .ref 18, .ref 22, .ref 33, .ref 35, .ref 37]) := BnO.fr hB7 hF8 rfl
      have c18 := hSy8.sz
      have c39 := hSB8.sz
      refine ax_aload_n d_Sw_writeStream_109 rfl ?_
      refine ax_aload_n d_Sw_writeStream_110 rfl ?_
      refine ax_get d_Sw_writeStream_111 fg_Sw_53 (by first | assumption | exact hH.g 0 rfl) (by rfl) ?_
      refine ax_get d_Sw_writeStream_114 fg_Sw_74 (by first | assumption | exact hH.g 0 rfl) (by rfl) ?_
      refine ax_cV1 d_Sw_writeStream_117 v_Sw_putList lk_Sw_78 (by first | assumption | exact hH.g 0 rfl) (by decide) (Nat.le_of_ble_eq_true rfl) (cm_v (c_Sw_putList hFl8 hbl' hSB8 (by simp [bitsF_len])) (fun h9 hp => ?_))
      obtain ⟨hSB9, hF9⟩ := hp
      rw [perm_listB hmem] at hSB9
      have hCd9 := hCd8.fr hF9 rfl
      have hB9 : h9[6]? = some (ob 1 [.ref 7, .ref 15, .ref 18, .ref 22, .ref 33, .ref 35, .ref 37]) := BnO.fr hB8 hF9 rfl
      have c39 := hSB9.sz
      have hll9 := listB_len (lastT xs)
      refine ax_aload_n d_Sw_writeStream_120 rfl ?_
      refine ax_aload_n d_Sw_writeStream_121 rfl ?_
      refine ax_get d_Sw_writeStream_122 fg_Sw_65 (by first | assumption | exact hH.g 0 rfl) (by rfl) ?_
      refine ax_cV1 d_Sw_writeStream_125 v_Sw_putLengths lk_Sw_82 (by first | assumption | exact hH.g 0 rfl) (by decide) (Nat.le_of_ble_eq_true rfl) (cm_v (c_Sw_putLengths hCd9 hnT.1 (by omega) hoklg hSB9 (by simp [bitsF_len]; omega)) (fun h10 hp => ?_))
      obtain ⟨hSB10, hF10⟩ := hp
      have el : lenB lg8 (nT (lastT xs)) = lenB (lgR (lastT xs)) (nT (lastT xs)) := lenB_cg (by omega) hl8
      rw [el] at hSB10
      have hCd10 := hCd9.fr hF10 rfl
      have hSy10 := (hSy8.fr hF9 rfl).fr hF10 rfl
      have hB10 : h10[6]? = some (ob 1 [.ref 7, .ref 15, .ref 18, .ref 22, .ref 33, .ref 35, .ref 37]) := BnO.fr hB9 hF10 rfl
      have c39 := hSB10.sz
      have hlb := lenB_len hokT (show 0 < nT (lastT xs) by omega)
      have hlb : (lenB (lgR (lastT xs)) (nT (lastT xs))).length ≤ 4 + 23 * nT (lastT xs) := hlb
      refine ax_aload_n d_Sw_writeStream_128 rfl ?_
      refine ax_aload_n d_Sw_writeStream_129 rfl ?_
      refine ax_get d_Sw_writeStream_130 fg_Sw_53 (by first | assumption | exact hH.g 0 rfl) (by rfl) ?_
      refine ax_aload_n d_Sw_writeStream_133 rfl ?_
      refine ax_get d_Sw_writeStream_134 fg_Sw_65 (by first | assumption | exact hH.g 0 rfl) (by rfl) ?_
      refine ax_cV2 d_Sw_writeStream_137 v_Sw_putCodes lk_Sw_86 (by first | assumption | exact hH.g 0 rfl) (by decide) (Nat.le_of_ble_eq_true rfl) (cm_v (c_Sw_putCodes hCd10 hnT.1 hoklg hSy10 (sy_in hbl) hSB10 (by simp [bitsF_len]; omega)) (fun h11 hp => ?_))
      obtain ⟨hSB11, hF11⟩ := hp
      have ec : codB lg8 vl8 (sy (lastT xs)) = codB (lgR (lastT xs)) (vlR (lastT xs)) (sy (lastT xs)) := codB_cg hl8 hv8 _ (sy_in hbl)
      rw [ec] at hSB11
      have hFz : Fr WS h8 h11 := (hF9.tr hF10).tr hF11
      refine last h11 _ hSB11 ?_ ?_ ⟨_, _, _, _, _, _, _, _, ((hTu6.fr hF7 rfl).fr hF8 rfl).fr hFz rfl⟩ ⟨_, ((hLs6.fr hF7 rfl rfl).fr hF8 rfl rfl).fr hFz rfl rfl⟩ ⟨_, _, hSy8.fr hFz rfl⟩ ⟨_, hFl8.fr hFz rfl⟩ ⟨_, _, _, _, _, _, hCd8.fr hFz rfl⟩ (JnAny.fr hJn8 hFz rfl) (((hFd.tr (hF7.wide rfl)).tr (hF8.wide rfl)).tr (hFz.wide rfl))
      · rw [hz]
        unfold strB rowB
        rw [if_neg h00, if_neg h00]
        simp
      · have e9 : strB xs chk = ([] ++ bitsV 21332 16 ++ bitsV (xs.length : Int) 16 ++ bitsV z 16 ++ bitsV chk 32 ++ listB (lastT xs) ++ lenB (lgR (lastT xs)) (nT (lastT xs)) ++ codB (lgR (lastT xs)) (vlR (lastT xs)) (sy (lastT xs))) := by
          rw [hz]
          unfold strB rowB
          rw [if_neg h00, if_neg h00]
          simp
        rw [← e9]
        exact hlen
  refine ax_aload_n d_Sw_writeStream_45 rfl ?_
  refine ax_aload_n d_Sw_writeStream_46 rfl ?_
  refine ax_get d_Sw_writeStream_47 fg_Sw_46 (by first | assumption | exact hH.g 0 rfl) (by rfl) ?_
  refine az_if_ne 57 d_Sw_writeStream_50 (by decide) (by first | exact bz_in _ | omega) (fun hz0 => ?_) (fun hz0 => ?_)
  · refine ax_aload_n d_Sw_writeStream_57 rfl ?_
    refine ax_get d_Sw_writeStream_58 fg_Sw_30 (by first | assumption | exact hH.g 0 rfl) (by rfl) ?_
    refine az_iconst d_Sw_writeStream_61 ?_
    refine ax_cV1 d_Sw_writeStream_62 v_Tu_placeOf lk_Sw_49 (by first | assumption | exact hH.g 0 rfl) (by decide) (Nat.le_of_ble_eq_true rfl) (cm_i (c_Tu_placeOf hTu4 (by omega) (k := 0) (by omega)) (fun z h5 hp => ?_))
    obtain ⟨rfl, rfl⟩ := hp
    refine mid _ ?_
    rw [if_pos (by omega), if_neg (by omega)]
    exact hfin.1 0 (by omega)
  · refine az_iconst d_Sw_writeStream_53 ?_
    refine ax_goto 65 d_Sw_writeStream_54 (by decide) ?_
    refine mid 0 ?_
    rw [if_pos (by omega)]
