/-! SortTransform: what it holds between calls -/
theorem SrF.fr {h h1 : ax_H} {e : RF} {S : List Nat} (k : SrF h e) (hF : Fr S h h1) (hd : S.contains 42 = false) : SrF h1 e := by
  obtain ⟨p, c, o, q, hd', hH⟩ := k
  exact ⟨p, c, o, q, hd', hH.fr hF (by show ((!S.contains 42) && true) = true; rw [hd]; rfl)⟩
abbrev SOb (pf tf cf : Bool) : ax_C := ob 0 [.ref 2, .ref 4, .ref 6, .ref 39, .ref 42, .int (iv (bz pf)), .int (iv (bz tf)), .int (iv (bz cf))]
abbrev SO (h : ax_H) (pf tf cf : Bool) : Prop := Hs h [(1, SOb pf tf cf)]
def TuOK (h : ax_H) (xs : List Int) : Prop := (∃ (rc db : Int) (o p rk ln off : Nat → Int), Hs h (TuL xs.length rc db o p rk ln off) ∧ TuFin xs o p db) ∧ Rw h 8 9 900 (lastT xs)
theorem TuOK.fr {h h1 : ax_H} {xs : List Int} {S : List Nat} (k : TuOK h xs) (hF : Fr S h h1) (hd : ([7, 10, 11, 12, 13, 14].all fun a => !S.contains a) = true) (h8 : S.contains 8 = false) (h9 : S.contains 9 = false) : TuOK h1 xs := by
  obtain ⟨⟨rc, db, o, p, rk, ln, off, hH, hf⟩, hR⟩ := k
  exact ⟨⟨rc, db, o, p, rk, ln, off, hH.fr hF hd, hf⟩, hR.fr hF h8 h9⟩
def CoOK (h : ax_H) (xs : List Int) : Prop := Sy h (sy xs) ((lst xs).length + 1) ∧ ∃ wt lg vl bl pl : Nat → Int, Hs h (CdL (nT xs) wt lg vl bl pl) ∧ (∀ k : Nat, k < nT xs → lg k = lgR xs k) ∧ (∀ k : Nat, k < nT xs → vl k = vlR xs k) ∧ okLg (lgR xs) (nT xs)
theorem CoOK.fr {h h1 : ax_H} {xs : List Int} {S : List Nat} (k : CoOK h xs) (hF : Fr S h h1) (hd : ([18, 21].all fun a => !S.contains a) = true) (hd2 : ([22, 28, 29, 30, 31, 32].all fun a => !S.contains a) = true) : CoOK h1 xs := by
  obtain ⟨hS, wt, lg, vl, bl, pl, hH, hr⟩ := k
  exact ⟨hS.fr hF hd, wt, lg, vl, bl, pl, hH.fr hF hd2, hr⟩
/-- what it holds, the marks aside: block, tape, out, the place of the fault -/
def ClQ (h : ax_H) (xs T out : List Int) (fp : Int) : Prop := Rw h 2 3 600 xs ∧ Bs xs ∧ RwAny h 4 5 750 ∧ BnW h ∧ SwAny h out ∧ Rw h 43 44 3000 T ∧ Bs T ∧ RwAny h 45 46 900 ∧ ∃ f : Int, SrF h (f, fp)
def PkOK (h : ax_H) (xs : List Int) : Prop := Rw h 4 5 750 (pk xs) ∧ Bs (pk xs) ∧ (pk xs).length ≤ 750
def ClP (h : ax_H) (xs T out : List Int) (fp : Int) (pf tf cf : Bool) : Prop := SO h pf tf cf ∧ ClQ h xs T out fp ∧ (pf = true → PkOK h xs) ∧ (tf = true → TuOK h xs) ∧ (cf = true → CoOK h xs)
def ClI (h : ax_H) (xs T out : List Int) (fp : Int) : Prop := ∃ pf tf cf : Bool, ClP h xs T out fp pf tf cf
abbrev CLS : List Nat := [1, 2, 3, 4, 5, 6, 7, 8, 9, 10, 11, 12, 13, 14, 15, 16, 17, 18, 19, 20, 21, 22, 23, 24, 25, 26, 27, 28, 29, 30, 31, 32, 33, 34, 35, 36, 37, 38, 39, 40, 41, 42, 43, 44, 45, 46]
theorem ClQ.fr1 {h h1 : ax_H} {xs T out : List Int} {fp : Int} (k : ClQ h xs T out fp) (hF : Fr [1] h h1) : ClQ h1 xs T out fp := by
  obtain ⟨k1, k2, k3, k4, k5, k6, k7, k8, f, k9⟩ := k
  exact ⟨k1.fr hF rfl rfl, k2, k3.fr hF rfl rfl, k4.fr hF rfl, k5.fr hF rfl, k6.fr hF rfl rfl, k7, k8.fr hF rfl rfl, f, k9.fr hF rfl⟩
theorem ClI.none {h : ax_H} {xs T out : List Int} {fp : Int} (k1 : SO h false false false) (k2 : ClQ h xs T out fp) : ClI h xs T out fp := ⟨false, false, false, k1, k2, (fun q => by cases q), (fun q => by cases q), (fun q => by cases q)⟩
set_option maxRecDepth 100000 in
theorem c_S_benchUsed {h0 : ax_H} {pf tf cf : Bool} (hH : SO h0 pf tf cf) : ax_Cv m_S_benchUsed 0 [.ref 1] h0 (fun h1 => SO h1 pf false false ∧ Fr [1] h0 h1) := by
  have hF : Fr [1] h0 h0 := Fr.rf
  refine ax_enter [some (.ref 1)] rfl (Nat.le_of_ble_eq_true rfl) (by decide) ?_
  refine ax_aload_n d_S_benchUsed_0 rfl ?_
  refine az_iconst d_S_benchUsed_1 ?_
  first | refine ah_put d_S_benchUsed_2 fp_S_188 hH hF 0 rfl rfl rfl (by first | rfl | decide) (Nat.le_of_ble_eq_true rfl) (fun h hH hF => ?_)
  refine ax_aload_n d_S_benchUsed_5 rfl ?_
  refine az_iconst d_S_benchUsed_6 ?_
  first | refine ah_put d_S_benchUsed_7 fp_S_191 hH hF 0 rfl rfl rfl (by first | rfl | decide) (Nat.le_of_ble_eq_true rfl) (fun h hH hF => ?_)
  refine ax_vret d_S_benchUsed_10 rfl ?_
  exact ⟨rfl, hH, hF⟩
set_option maxRecDepth 100000 in
theorem c_S_blockChanged {h0 : ax_H} {pf tf cf : Bool} (hH : SO h0 pf tf cf) : ax_Cv m_S_blockChanged 1 [.ref 1] h0 (fun h1 => SO h1 false false false ∧ Fr [1] h0 h1) := by
  have hF : Fr [1] h0 h0 := Fr.rf
  refine ax_enter [some (.ref 1)] rfl (Nat.le_of_ble_eq_true rfl) (by decide) ?_
  refine ax_aload_n d_S_blockChanged_0 rfl ?_
  refine az_iconst d_S_blockChanged_1 ?_
  first | refine ah_put d_S_blockChanged_2 fp_S_184 hH hF 0 rfl rfl rfl (by first | rfl | decide) (Nat.le_of_ble_eq_true rfl) (fun h hH hF => ?_)
  refine ax_aload_n d_S_blockChanged_5 rfl ?_
  have hH : SO h false tf cf := hH
  refine ax_cV0 d_S_blockChanged_6 v_S_benchUsed lk_S_159 (by first | assumption | exact hH.g 0 rfl) (by decide) (Nat.le_of_ble_eq_true rfl) (cm_v (c_S_benchUsed hH) (fun h2 hq => ?_))
  refine ax_vret d_S_blockChanged_9 rfl ?_
  exact ⟨rfl, hq.1, hF.tr hq.2⟩
set_option maxRecDepth 100000 in
theorem c_S_freshenPack {h0 : ax_H} {xs T out : List Int} {fp : Int} (hC : ClI h0 xs T out fp) : ax_Cv m_S_freshenPack 3 [.ref 1] h0 (fun h1 => (∃ tf cf : Bool, ClP h1 xs T out fp true tf cf) ∧ Fr CLS h0 h1) := by
  obtain ⟨pf, tf, cf, hH, ⟨k1, k2, k3, k4, k5, k6, k7, k8, f, k9⟩, hp, ht, hcf⟩ := hC
  refine ax_enter [some (.ref 1)] rfl (Nat.le_of_ble_eq_true rfl) (by decide) ?_
  refine ax_aload_n d_S_freshenPack_0 rfl ?_
  refine ax_get d_S_freshenPack_1 fg_S_184 (by first | assumption | exact hH.g 0 rfl) (by rfl) ?_
  refine az_if_ne 23 d_S_freshenPack_4 (by decide) (by first | exact bz_in _ | omega) (fun hx => ?_) (fun hx => ?_)
  · have hpf := bz_t hx
    subst hpf
    refine ax_vret d_S_freshenPack_23 rfl ?_
    exact ⟨rfl, ⟨tf, cf, hH, ⟨k1, k2, k3, k4, k5, k6, k7, k8, f, k9⟩, hp, ht, hcf⟩, Fr.rf⟩
  · obtain ⟨ps, k3⟩ := k3
    refine ax_aload_n d_S_freshenPack_7 rfl ?_
    refine ax_get d_S_freshenPack_8 fg_S_14 (by first | assumption | exact hH.g 0 rfl) (by rfl) ?_
    refine ax_aload_n d_S_freshenPack_11 rfl ?_
    refine ax_get d_S_freshenPack_12 fg_S_18 (by first | assumption | exact hH.g 0 rfl) (by rfl) ?_
    refine ax_cS2 d_S_freshenPack_15 s_S_packInto lk_S_194 (by decide) (Nat.le_of_ble_eq_true rfl) (cm_v (c_S_packInto k1 k3 k2 k1.lc (Nat.le_refl _) rfl rfl) (fun h1 hq => ?_))
    obtain ⟨q1, q2, q3, hF1⟩ := hq
    have hH : SO h1 pf tf cf := hH.fr hF1 rfl
    have hF : Fr [1] h1 h1 := Fr.rf
    refine ax_aload_n d_S_freshenPack_18 rfl ?_
    refine az_iconst d_S_freshenPack_19 ?_
    first | refine ah_put d_S_freshenPack_20 fp_S_184 hH hF 0 rfl rfl rfl (by first | rfl | decide) (Nat.le_of_ble_eq_true rfl) (fun h hH hF => ?_)
    have hH : SO h true tf cf := hH
    refine ax_vret d_S_freshenPack_23 rfl ?_
    have q0 : ClQ h1 xs T out fp := ⟨k1.fr hF1 rfl rfl, k2, ⟨_, q1⟩, k4.fr hF1 rfl, k5.fr hF1 rfl, k6.fr hF1 rfl rfl, k7, k8.fr hF1 rfl rfl, f, k9.fr hF1 rfl⟩
    exact ⟨rfl, ⟨tf, cf, hH, q0.fr1 hF, fun _ => ⟨q1.fr hF rfl rfl, q2, q3⟩, fun q => ((ht q).fr hF1 rfl rfl rfl).fr hF rfl rfl rfl, fun q => ((hcf q).fr hF1 rfl rfl).fr hF rfl rfl⟩, (hF1.wide rfl).tr (hF.wide rfl)⟩
set_option maxRecDepth 100000 in
theorem c_S_freshenTurns {h0 : ax_H} {xs T out : List Int} {fp : Int} (hC : ClI h0 xs T out fp) : ax_Cv m_S_freshenTurns 3 [.ref 1] h0 (fun h1 => (∃ pf cf : Bool, ClP h1 xs T out fp pf true cf) ∧ Fr CLS h0 h1) := by
  obtain ⟨pf, tf, cf, hH, ⟨k1, k2, k3, k4, k5, k6, k7, k8, f, k9⟩, hp, ht, hcf⟩ := hC
  refine ax_enter [some (.ref 1)] rfl (Nat.le_of_ble_eq_true rfl) (by decide) ?_
  refine ax_aload_n d_S_freshenTurns_0 rfl ?_
  refine ax_get d_S_freshenTurns_1 fg_S_188 (by first | assumption | exact hH.g 0 rfl) (by rfl) ?_
  refine az_if_ne 26 d_S_freshenTurns_4 (by decide) (by first | exact bz_in _ | omega) (fun hx => ?_) (fun hx => ?_)
  · have hpf := bz_t hx
    subst hpf
    refine ax_vret d_S_freshenTurns_26 rfl ?_
    exact ⟨rfl, ⟨pf, cf, hH, ⟨k1, k2, k3, k4, k5, k6, k7, k8, f, k9⟩, hp, ht, hcf⟩, Fr.rf⟩
  · obtain ⟨b0, ⟨n0, rc0, db0, o0, p0, rk0, ln0, off0, hTu⟩, ⟨ls, b2⟩, b3, b4, b5, b6, b7, b8, b9, b10⟩ := k4
    have c6 : h0[6]? = some (ob 1 [.ref 7, .ref 15, .ref 18, .ref 22, .ref 33, .ref 35, .ref 37]) := b0
    have c7 : h0[7]? = _ := hTu.g 0 rfl
    have hl := k1.lc
    refine ax_aload_n d_S_freshenTurns_7 rfl ?_
    refine ax_get d_S_freshenTurns_8 fg_S_24 (by first | assumption | exact hH.g 0 rfl) (by rfl) ?_
    refine ax_get d_S_freshenTurns_11 fg_S_77 (by first | assumption | exact hH.g 0 rfl) (by rfl) ?_
    refine ax_aload_n d_S_freshenTurns_14 rfl ?_
    refine ax_get d_S_freshenTurns_15 fg_S_14 (by first | assumption | exact hH.g 0 rfl) (by rfl) ?_
    refine ax_cV1 d_S_freshenTurns_18 v_Tu_sortTurns lk_S_198 (by first | assumption | exact hH.g 0 rfl) (by decide) (Nat.le_of_ble_eq_true rfl) (cm_v (c_Tu_sortTurns hTu k1 k2 (by omega) b2 rfl rfl) (fun h1 hq => ?_))
    obtain ⟨⟨rc, db, o, p, rk, ln, off, q1, q2⟩, q3, hF1⟩ := hq
    have hH : SO h1 pf tf cf := hH.fr hF1 rfl
    have hF : Fr [1] h1 h1 := Fr.rf
    refine ax_aload_n d_S_freshenTurns_21 rfl ?_
    refine az_iconst d_S_freshenTurns_22 ?_
    first | refine ah_put d_S_freshenTurns_23 fp_S_188 hH hF 0 rfl rfl rfl (by first | rfl | decide) (Nat.le_of_ble_eq_true rfl) (fun h hH hF => ?_)
    have hH : SO h pf true cf := hH
    refine ax_vret d_S_freshenTurns_26 rfl ?_
    have q0 : ClQ h1 xs T out fp := ⟨k1.fr hF1 rfl rfl, k2, k3.fr hF1 rfl rfl, ⟨b0.fr hF1 rfl, ⟨_, _, _, _, _, _, _, _, q1⟩, ⟨_, q3⟩, b3.fr hF1 rfl, b4.fr hF1 rfl, b5.fr hF1 rfl, b6.fr hF1 rfl, b7.fr hF1 rfl, b8.fr hF1 rfl rfl, b9.fr hF1 rfl rfl, b10.fr hF1 rfl rfl⟩, k5.fr hF1 rfl, k6.fr hF1 rfl rfl, k7, k8.fr hF1 rfl rfl, f, k9.fr hF1 rfl⟩
    exact ⟨rfl, ⟨pf, cf, hH, q0.fr1 hF, fun q => ⟨((hp q).1.fr hF1 rfl rfl).fr hF rfl rfl, (hp q).2⟩, fun _ => TuOK.fr ⟨⟨_, _, _, _, _, _, _, q1, q2⟩, q3⟩ hF rfl rfl rfl, fun q => ((hcf q).fr hF1 rfl rfl).fr hF rfl rfl⟩, (hF1.wide rfl).tr (hF.wide rfl)⟩
set_option maxRecDepth 100000 in
theorem c_S_freshenCodes {h0 : ax_H} {xs T out : List Int} {fp : Int} (hC : ClI h0 xs T out fp) : ax_Cv m_S_freshenCodes 4 [.ref 1] h0 (fun h1 => (∃ pf tf : Bool, ClP h1 xs T out fp pf tf true) ∧ Fr CLS h0 h1) := by
  obtain ⟨pf, tf, cf, hH, ⟨k1, k2, k3, k4, k5, k6, k7, k8, f, k9⟩, hp, ht, hcf⟩ := hC
  refine ax_enter [some (.ref 1)] rfl (Nat.le_of_ble_eq_true rfl) (by decide) ?_
  refine ax_aload_n d_S_freshenCodes_0 rfl ?_
  refine ax_get d_S_freshenCodes_1 fg_S_191 (by first | assumption | exact hH.g 0 rfl) (by rfl) ?_
  refine az_if_ne 43 d_S_freshenCodes_4 (by decide) (by first | exact bz_in _ | omega) (fun hx => ?_) (fun hx => ?_)
  · have hpf := bz_t hx
    subst hpf
    refine ax_vret d_S_freshenCodes_43 rfl ?_
    exact ⟨rfl, ⟨pf, tf, hH, ⟨k1, k2, k3, k4, k5, k6, k7, k8, f, k9⟩, hp, ht, hcf⟩, Fr.rf⟩
  · obtain ⟨b0, b1, b2, b3, ⟨ss, e, b4⟩, ⟨l, b5⟩, ⟨nc, wt, lg, vl, bl, pl, b6⟩, ⟨s0, hp0, nd, pr, dp, b7⟩, b8, b9, b10⟩ := k4
    have c6 : h0[6]? = some (ob 1 [.ref 7, .ref 15, .ref 18, .ref 22, .ref 33, .ref 35, .ref 37]) := b0
    have c18 := b4.sz
    have hl := k1.lc
    refine ax_aload_n d_S_freshenCodes_7 rfl ?_
    refine ax_get d_S_freshenCodes_8 fg_S_24 (by first | assumption | exact hH.g 0 rfl) (by rfl) ?_
    refine ax_get d_S_freshenCodes_11 fg_S_128 (by first | assumption | exact hH.g 0 rfl) (by rfl) ?_
    refine ax_aload_n d_S_freshenCodes_14 rfl ?_
    refine ax_get d_S_freshenCodes_15 fg_S_14 (by first | assumption | exact hH.g 0 rfl) (by rfl) ?_
    refine ax_cV1 d_S_freshenCodes_18 v_Sy_makeFrom lk_S_201 (by first | assumption | exact hH.g 0 rfl) (by decide) (Nat.le_of_ble_eq_true rfl) (cm_v (c_Sy_makeFrom b5 b4 k1 k2 (by omega) rfl rfl) (fun h1 hq => ?_))
    obtain ⟨hSy1, ⟨l', hFl1, hll, hbl', hmem⟩, hF1⟩ := hq
    have hnT : nT xs ≤ 258 ∧ 2 ≤ nT xs := by have := lst_len xs; unfold nT; omega
    have e7 : (((lst xs).length : Int) + 1) = ((nT xs : Nat) : Int) - 1 := by unfold nT; omega
    have hSy1' := hSy1
    rw [e7] at hSy1'
    have hCd1 := b6.fr hF1 rfl
    have hJn1 := b7.fr hF1 rfl
    have hH : SO h1 pf tf cf := hH.fr hF1 rfl
    have c6 : h1[6]? = some (ob 1 [.ref 7, .ref 15, .ref 18, .ref 22, .ref 33, .ref 35, .ref 37]) := b0.fr hF1 rfl
    have c18 := hSy1.sz
    have c22 : h1[22]? = _ := hCd1.g 0 rfl
    refine ax_aload_n d_S_freshenCodes_21 rfl ?_
    refine ax_get d_S_freshenCodes_22 fg_S_24 (by first | assumption | exact hH.g 0 rfl) (by rfl) ?_
    refine ax_get d_S_freshenCodes_25 fg_S_135 (by first | assumption | exact hH.g 0 rfl) (by rfl) ?_
    refine ax_aload_n d_S_freshenCodes_28 rfl ?_
    refine ax_get d_S_freshenCodes_29 fg_S_24 (by first | assumption | exact hH.g 0 rfl) (by rfl) ?_
    refine ax_get d_S_freshenCodes_32 fg_S_128 (by first | assumption | exact hH.g 0 rfl) (by rfl) ?_
    refine ax_cV1 d_S_freshenCodes_35 v_Cd_makeFrom lk_S_204 (by first | assumption | exact hH.g 0 rfl) (by decide) (Nat.le_of_ble_eq_true rfl) (cm_v (c_Cd_makeFrom hCd1 hJn1 hnT.1 hnT.2 hSy1' (okS_sy k2)) (fun h2 hq => ?_))
    obtain ⟨⟨wt8, lg8, vl8, bl8, pl8, hCd2, hok8⟩, hJn2, hF2⟩ := hq
    have hsl := sy_len xs
    obtain ⟨hl8, hv8, hokT⟩ := CdOK_T (by omega) hnT.1 (by omega) hok8
    have hF12 : Fr [18, 19, 20, 21, 22, 23, 24, 25, 26, 27, 28, 29, 30, 31, 32] h0 h2 := (hF1.wide rfl).tr (hF2.wide rfl)
    have hH : SO h2 pf tf cf := hH.fr hF2 rfl
    have hF : Fr [1] h2 h2 := Fr.rf
    refine ax_aload_n d_S_freshenCodes_38 rfl ?_
    refine az_iconst d_S_freshenCodes_39 ?_
    first | refine ah_put d_S_freshenCodes_40 fp_S_191 hH hF 0 rfl rfl rfl (by first | rfl | decide) (Nat.le_of_ble_eq_true rfl) (fun h hH hF => ?_)
    have hH : SO h pf tf true := hH
    refine ax_vret d_S_freshenCodes_43 rfl ?_
    have q0 : ClQ h2 xs T out fp := ⟨k1.fr hF12 rfl rfl, k2, k3.fr hF12 rfl rfl, ⟨b0.fr hF12 rfl, b1.fr hF12 rfl, b2.fr hF12 rfl rfl, b3.fr hF12 rfl, ⟨_, _, hSy1.fr hF2 rfl⟩, ⟨_, hFl1.fr hF2 rfl⟩, ⟨_, _, _, _, _, _, hCd2⟩, hJn2, b8.fr hF12 rfl rfl, b9.fr hF12 rfl rfl, b10.fr hF12 rfl rfl⟩, k5.fr hF12 rfl, k6.fr hF12 rfl rfl, k7, k8.fr hF12 rfl rfl, f, k9.fr hF12 rfl⟩
    exact ⟨rfl, ⟨pf, tf, hH, q0.fr1 hF, fun q => ⟨((hp q).1.fr hF12 rfl rfl).fr hF rfl rfl, (hp q).2⟩, fun q => ((ht q).fr hF12 rfl rfl rfl).fr hF rfl rfl rfl, fun _ => CoOK.fr ⟨hSy1.fr hF2 rfl, _, _, _, _, _, hCd2, hl8, hv8, hokT⟩ hF rfl rfl⟩, (hF12.wide rfl).tr (hF.wide rfl)⟩
