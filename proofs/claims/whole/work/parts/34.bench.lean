/-! the bench: what is on it, going back, unpacking what is given -/
def nxT (xs : List Int) (k : Nat) : Int := (((List.range xs.length).find? (fun p => plc (kl (gx xs)) xs.length p == k)).getD 0 : Nat)
theorem nxT_is (xs : List Int) : isNx xs (nxT xs) := by
  intro p hp
  unfold nxT
  cases h : (List.range xs.length).find? (fun q => plc (kl (gx xs)) xs.length q == plc (kl (gx xs)) xs.length p) with
  | none =>
    have := List.find?_eq_none.mp h p (List.mem_range.mpr hp)
    simp at this
  | some q =>
    have h1 := List.find?_some h
    have h2 := List.mem_range.mp (List.mem_of_find?_eq_some h)
    have h3 : plc (kl (gx xs)) xs.length q = plc (kl (gx xs)) xs.length p := by simpa using h1
    have := plc_inj (kl_ok (gx xs) xs.length) h2 hp h3
    rw [this]
    rfl
theorem isNx_eq {xs : List Int} {nx : Nat → Int} (h : isNx xs nx) {k : Nat} (hk : k < xs.length) : nx k = nxT xs k := by
  obtain ⟨p, hp, e, e2⟩ := nx_in h hk
  rw [e, ← e2, nxT_is xs p hp]
theorem goN_cg {xs : List Int} {nx : Nat → Int} (h : isNx xs nx) : ∀ (f : Nat) (o : Nat), o < xs.length ∨ f = 0 → goN xs nx f o = goN xs (nxT xs) f o
  | 0, _, _ => rfl
  | f + 1, o, ho => by
    have ho : o < xs.length := by omega
    obtain ⟨p, hp, e, e2⟩ := nx_in h ho
    have e3 := isNx_eq h ho
    rw [goN, goN, show ((o : Nat) : Int).toNat = o by omega, ← e3, e, goN_cg h f p (Or.inl hp)]
theorem ringN_cg {xs : List Int} {nx : Nat → Int} (h : isNx xs nx) (k : Int) : ∀ (f : Nat) (o : Nat) (len : Int), o < xs.length → ringN nx k f o len = ringN (nxT xs) k f o len
  | 0, _, _, _ => rfl
  | f + 1, o, len, ho => by
    obtain ⟨p, hp, e, e2⟩ := nx_in h ho
    have e3 := isNx_eq h ho
    rw [ringN, ringN, show ((o : Nat) : Int).toNat = o by omega, ← e3, e, ringN_cg h k f p _ hp]
/-- what LAST gives back from an origin -/
def gbT (xs : List Int) (o : Nat) : List Int := goN xs (nxT xs) xs.length o
theorem gbT_len (xs : List Int) (o : Nat) : (gbT xs o).length = xs.length := goN_len _ _ _ _
theorem goN_Bs {xs : List Int} (hb : Bs xs) {nx : Nat → Int} (h : isNx xs nx) : ∀ (f o : Nat), o < xs.length ∨ f = 0 → Bs (goN xs nx f o)
  | 0, _, _ => Bs_nil
  | f + 1, o, ho => by
    have ho : o < xs.length := by omega
    obtain ⟨p, hp, e, e2⟩ := nx_in h ho
    have ih := goN_Bs hb h f p (Or.inl hp)
    rw [goN, show ((o : Nat) : Int).toNat = o by omega, e]
    intro i hi
    cases i with
    | zero => exact hb p hp
    | succ i => exact ih i (by simpa using hi)
theorem Bs_gbT {xs : List Int} (hb : Bs xs) {o : Nat} (ho : o < xs.length ∨ (o = 0 ∧ xs.length = 0)) : Bs (gbT xs o) := goN_Bs hb (nxT_is xs) _ _ (by omega)
def rightB (xs : List Int) (o : Nat) : Bool := decide (lastT (gbT xs o) = xs ∧ (xs.length = 0 ∨ plT (gbT xs o) 0 = o))
theorem Bs_lastT {xs : List Int} (hb : Bs xs) : Bs (lastT xs) := by
  intro i hi
  rw [lastT, mk_len] at hi
  rw [lastT, mk_at hi]
  exact hb _ (Nat.mod_lt _ (by omega))
theorem lastT_len (xs : List Int) : (lastT xs).length = xs.length := mk_len _ _
/-! parts of the bench, whatever they hold -/
def TuAny (h : ax_H) : Prop := ∃ (n rc db : Int) (o p rk ln off : Nat → Int), Hs h (TuL n rc db o p rk ln off)
def LsAny (h : ax_H) : Prop := ∃ ls, Rw h 8 9 900 ls
def ChAny (h : ax_H) : Prop := ∃ (n : Nat) (nx off : Nat → Int), Hs h (ChL n nx off)
def SyAny (h : ax_H) : Prop := ∃ (ss : List Int) (e : Int), Sy h ss e
def FlAny (h : ax_H) : Prop := ∃ l, Fl h l
def CdAny (h : ax_H) : Prop := ∃ (n : Nat) (wt lg vl bl pl : Nat → Int), Hs h (CdL n wt lg vl bl pl)
def JnAny (h : ax_H) : Prop := ∃ (s : Nat) (hp nd pr dp : Nat → Int), Hs h (JnL s hp nd pr dp)
def RwAny (h : ax_H) (r ra cap : Nat) : Prop := ∃ xs, Rw h r ra cap xs
section ANYF
variable {h h1 : ax_H} {S : List Nat}
theorem TuAny.fr (k : TuAny h) (hF : Fr S h h1) (hd : ([7, 10, 11, 12, 13, 14].all fun a => !S.contains a) = true) : TuAny h1 := by
  obtain ⟨n, rc, db, o, p, rk, ln, off, hH⟩ := k
  exact ⟨n, rc, db, o, p, rk, ln, off, hH.fr hF hd⟩
theorem ChAny.fr (k : ChAny h) (hF : Fr S h h1) (hd : ([15, 16, 17].all fun a => !S.contains a) = true) : ChAny h1 := by
  obtain ⟨n, nx, off, hH⟩ := k
  exact ⟨n, nx, off, hH.fr hF hd⟩
theorem SyAny.fr (k : SyAny h) (hF : Fr S h h1) (hd : ([18, 21].all fun a => !S.contains a) = true) : SyAny h1 := by
  obtain ⟨ss, e, hH⟩ := k
  exact ⟨ss, e, hH.fr hF hd⟩
theorem FlAny.fr (k : FlAny h) (hF : Fr S h h1) (hd : ([19, 20].all fun a => !S.contains a) = true) : FlAny h1 := by
  obtain ⟨l, hH⟩ := k
  exact ⟨l, hH.fr hF hd⟩
theorem CdAny.fr (k : CdAny h) (hF : Fr S h h1) (hd : ([22, 28, 29, 30, 31, 32].all fun a => !S.contains a) = true) : CdAny h1 := by
  obtain ⟨n, wt, lg, vl, bl, pl, hH⟩ := k
  exact ⟨n, wt, lg, vl, bl, pl, hH.fr hF hd⟩
theorem JnAny.fr (k : JnAny h) (hF : Fr S h h1) (hd : ([23, 24, 25, 26, 27].all fun a => !S.contains a) = true) : JnAny h1 := by
  obtain ⟨s, hp, nd, pr, dp, hH⟩ := k
  exact ⟨s, hp, nd, pr, dp, hH.fr hF hd⟩
theorem RwAny.fr {r ra cap : Nat} (k : RwAny h r ra cap) (hF : Fr S h h1) (hd : S.contains r = false) (hd2 : S.contains ra = false) : RwAny h1 r ra cap := by
  obtain ⟨xs, hR⟩ := k
  exact ⟨xs, hR.fr hF hd hd2⟩
end ANYF
def BnO (h : ax_H) : Prop := h[6]? = some (ob 1 [.ref 7, .ref 15, .ref 18, .ref 22, .ref 33, .ref 35, .ref 37])
theorem BnO.fr {h h1 : ax_H} {S : List Nat} (k : BnO h) (hF : Fr S h h1) (hd : S.contains 6 = false) : BnO h1 := by
  unfold BnO
  rw [hF.2.2 6 hd]
  exact k
abbrev BG : List Nat := [7, 8, 9, 10, 11, 12, 13, 14, 15, 16, 17, 33, 34]
set_option maxRecDepth 100000 in
set_option maxHeartbeats 4000000 in
theorem c_Bn_goBack {h0 : ax_H} {r ra cap : Nat} {xs : List Int} (hB : BnO h0) (hT : TuAny h0) (hLs : RwAny h0 8 9 900) (hC : ChAny h0) (hG : RwAny h0 33 34 900) (hR : Rw h0 r ra cap xs) (hbs : Bs xs) (hn : xs.length ≤ 900) {o : Nat} (ho : o < xs.length ∨ (o = 0 ∧ xs.length = 0)) (hd1 : BG.contains r = false) (hd2 : BG.contains ra = false) :
    ax_Cz m_Bn_goBack 3 [.ref 6, .ref r, .int (iv o)] h0 (fun b h1 => b = rightB xs o ∧ Rw h1 33 34 900 (gbT xs o) ∧ TuAny h1 ∧ RwAny h1 8 9 900 ∧ ChAny h1 ∧ Fr BG h0 h1) := by
  have hB' : h0[6]? = some (ob 1 [.ref 7, .ref 15, .ref 18, .ref 22, .ref 33, .ref 35, .ref 37]) := hB
  obtain ⟨nC, nx, off, hCh⟩ := hC
  obtain ⟨gs, hG⟩ := hG
  obtain ⟨ls, hLs⟩ := hLs
  obtain ⟨n0, rc0, db0, o0, p0, rk0, ln0, off0, hTu⟩ := hT
  have c15 : h0[15]? = _ := hCh.g 0 rfl
  refine ax_enter [some (.ref 6), some (.ref r), some (.int (iv o))] rfl (Nat.le_of_ble_eq_true rfl) (by decide) ?_
  refine ax_aload_n d_Bn_goBack_0 rfl ?_
  refine ax_get d_Bn_goBack_1 fg_Bn_21 (by first | assumption ) (by rfl) ?_
  refine ax_aload_n d_Bn_goBack_4 rfl ?_
  refine ax_cV1 d_Bn_goBack_5 v_Ch_link lk_Bn_54 (by first | assumption ) (by decide) (Nat.le_of_ble_eq_true rfl) (cm_v (c_Ch_link hR hbs hn hCh (by simp at hd1 ⊢; omega) (by simp at hd2 ⊢; omega)) (fun h1 hp => ?_))
  obtain ⟨nx1, off1, hCh1, hnx, hF1⟩ := hp
  have hR1 := hR.fr hF1 (by simp at hd1 ⊢; omega) (by simp at hd2 ⊢; omega)
  have hG1 := hG.fr hF1 rfl rfl
  have hB1 : h1[6]? = some (ob 1 [.ref 7, .ref 15, .ref 18, .ref 22, .ref 33, .ref 35, .ref 37]) := hB.fr hF1 rfl
  have c15 : h1[15]? = _ := hCh1.g 0 rfl
  refine ax_aload_n d_Bn_goBack_8 rfl ?_
  refine ax_get d_Bn_goBack_9 fg_Bn_21 (by first | assumption ) (by rfl) ?_
  refine ax_aload_n d_Bn_goBack_12 rfl ?_
  refine ax_iload_n d_Bn_goBack_13 rfl ?_
  refine ax_aload_n d_Bn_goBack_14 rfl ?_
  refine ax_get d_Bn_goBack_15 fg_Bn_44 (by first | assumption ) (by rfl) ?_
  refine ax_cV3 d_Bn_goBack_18 v_Ch_follow lk_Bn_58 (by first | assumption ) (by decide) (Nat.le_of_ble_eq_true rfl) (cm_v (c_Ch_follow hR1 hG1 hn hn hCh1 hnx ho (by simp at hd1 ⊢; omega) (by simp at hd2 ⊢; omega) rfl) (fun h2 hp => ?_))
  obtain ⟨hG2, hF2⟩ := hp
  have eg : goN xs nx1 xs.length o = gbT xs o := goN_cg hnx _ _ (by omega)
  rw [eg] at hG2
  have hR2 := hR1.fr hF2 (by simp at hd1 ⊢; omega) (by simp at hd2 ⊢; omega)
  have hF12 := (hF1.wide (S' := BG) rfl).tr (hF2.wide rfl)
  have hB2 : h2[6]? = some (ob 1 [.ref 7, .ref 15, .ref 18, .ref 22, .ref 33, .ref 35, .ref 37]) := BnO.fr hB1 hF2 rfl
  have hTu2 := (hTu.fr hF1 rfl).fr hF2 rfl
  have c7 : h2[7]? = _ := hTu2.g 0 rfl
  have hbg := Bs_gbT hbs ho
  have hlg := gbT_len xs o
  refine ax_aload_n d_Bn_goBack_21 rfl ?_
  refine ax_get d_Bn_goBack_22 fg_Bn_12 (by first | assumption ) (by rfl) ?_
  refine ax_aload_n d_Bn_goBack_25 rfl ?_
  refine ax_get d_Bn_goBack_26 fg_Bn_44 (by first | assumption ) (by rfl) ?_
  refine ax_cV1 d_Bn_goBack_29 v_Tu_sortTurns lk_Bn_62 (by first | assumption ) (by decide) (Nat.le_of_ble_eq_true rfl) (cm_v (c_Tu_sortTurns hTu2 hG2 hbg (by omega) ((hLs.fr hF1 rfl rfl).fr hF2 rfl rfl) rfl rfl) (fun h3 hp => ?_))
  obtain ⟨⟨rc, db, oo, pp, rk, ln, of3, hTu3, hfin⟩, hLs3, hF3⟩ := hp
  have hR3 := hR2.fr hF3 (by simp at hd1 ⊢; omega) (by simp at hd2 ⊢; omega)
  have hB3 : h3[6]? = some (ob 1 [.ref 7, .ref 15, .ref 18, .ref 22, .ref 33, .ref 35, .ref 37]) := BnO.fr hB2 hF3 rfl
  have c7 : h3[7]? = _ := hTu3.g 0 rfl
  have hsz8 := hLs3.sz
  have hszr := hR3.sz
  have hG3 := hG2.fr hF3 rfl rfl
  have hF13 := hF12.tr (hF3.wide rfl)
  have hCh3 := (hCh1.fr hF2 rfl).fr hF3 rfl
  have post : ∀ b : Bool, b = rightB xs o → b = rightB xs o ∧ Rw h3 33 34 900 (gbT xs o) ∧ TuAny h3 ∧ RwAny h3 8 9 900 ∧ ChAny h3 ∧ Fr BG h0 h3 := fun b hb => ⟨hb, hG3, ⟨_, _, _, _, _, _, _, _, hTu3⟩, ⟨_, hLs3⟩, ⟨_, _, _, hCh3⟩, hF13⟩
  refine ax_aload_n d_Bn_goBack_32 rfl ?_
  refine ax_get d_Bn_goBack_33 fg_Bn_12 (by first | assumption ) (by rfl) ?_
  refine ax_get d_Bn_goBack_36 fg_Bn_65 (by first | assumption ) (by rfl) ?_
  refine ax_aload_n d_Bn_goBack_39 rfl ?_
  refine ax_cV1 d_Bn_goBack_40 v_Rw_isLike lk_Bn_68 (by first | assumption ) (by decide) (Nat.le_of_ble_eq_true rfl) (cm_z (c_Rw_isLike hLs3 hR3 (Bs_lastT hbg) hbs) (fun b h4 hp => ?_))
  obtain ⟨rfl, rfl⟩ := hp
  refine az_if_eq 69 d_Bn_goBack_43 (by decide) (bz_in _) (fun hcb => ?_) (fun hcb => ?_)
  · have hne := of_decide_eq_false (bz_f hcb)
    refine az_iconst d_Bn_goBack_69 ?_
    refine ax_zret d_Bn_goBack_70 rfl (by decide) ?_
    exact ⟨false, rfl, post false (by symm; unfold rightB; rw [decide_eq_false_iff_not]; exact fun q => hne q.1)⟩
  · have heq := of_decide_eq_true (bz_t hcb)
    refine ax_aload_n d_Bn_goBack_46 rfl ?_
    refine ax_get d_Bn_goBack_47 fg_Bn_72 (by first | assumption ) (by rfl) ?_
    refine az_if_eq 65 d_Bn_goBack_50 (by decide) (by first | exact bz_in _ | omega) (fun hz => ?_) (fun hz => ?_)
    · refine az_iconst d_Bn_goBack_65 ?_
      refine ax_goto 70 d_Bn_goBack_66 (by decide) ?_
      refine ax_zret d_Bn_goBack_70 rfl (by decide) ?_
      exact ⟨true, rfl, post true (by symm; unfold rightB; rw [decide_eq_true_eq]; exact ⟨heq, Or.inl (by omega)⟩)⟩
    · refine ax_aload_n d_Bn_goBack_53 rfl ?_
      refine ax_get d_Bn_goBack_54 fg_Bn_12 (by first | assumption ) (by rfl) ?_
      refine az_iconst d_Bn_goBack_57 ?_
      refine ax_cV1 d_Bn_goBack_58 v_Tu_placeOf lk_Bn_76 (by first | assumption ) (by decide) (Nat.le_of_ble_eq_true rfl) (cm_i (c_Tu_placeOf hTu3 (by omega) (k := 0) (by omega)) (fun z h5 hp => ?_))
      obtain ⟨rfl, rfl⟩ := hp
      rw [if_pos (by omega)]
      have hp0 := hfin.1 0 (by omega)
      have hpl := plc_lt_n (ltT_ok (gbT xs o)) (show 0 < (gbT xs o).length by omega)
      have hpl : plT (gbT xs o) 0 < (gbT xs o).length := hpl
      have ep : pp (Int.toNat 0) = plT (gbT xs o) 0 := hp0
      rw [ep]
      refine ax_iload_n d_Bn_goBack_61 rfl ?_
      refine az_icmp_ne 69 d_Bn_goBack_62 (by decide) (by omega) (by omega) (fun hne => ?_) (fun hne => ?_)
      · refine az_iconst d_Bn_goBack_69 ?_
        refine ax_zret d_Bn_goBack_70 rfl (by decide) ?_
        refine ⟨false, rfl, post false ?_⟩
        symm
        unfold rightB
        rw [decide_eq_false_iff_not]
        rintro ⟨q1, q2⟩
        omega
      · refine az_iconst d_Bn_goBack_65 ?_
        refine ax_goto 70 d_Bn_goBack_66 (by decide) ?_
        refine ax_zret d_Bn_goBack_70 rfl (by decide) ?_
        exact ⟨true, rfl, post true (by symm; unfold rightB; rw [decide_eq_true_eq]; exact ⟨heq, Or.inr (by omega)⟩)⟩
/-- what a row unpacks to, if it is packed as told -/
def upT (ys : List Int) : Option (List Int) := match upS ys 0 0 [] with
  | none => none
  | some u => if pk u = ys then some u else none
abbrev UG : List Nat := [35, 36, 37, 38]
set_option maxRecDepth 100000 in
set_option maxHeartbeats 4000000 in
theorem c_Bn_unpackGiven {h0 : ax_H} {ys : List Int} (hB : BnO h0) (hU : RwAny h0 35 36 600) (hA : RwAny h0 37 38 750) (hR : Rw h0 33 34 900 ys) (hbs : Bs ys) :
    ax_Cz m_Bn_unpackGiven 3 [.ref 6] h0 (fun b h1 => (∃ u, Rw h1 35 36 600 u ∧ Bs u ∧ (b = true → upT ys = some u)) ∧ (b = false → upT ys = none) ∧ RwAny h1 37 38 750 ∧ Fr UG h0 h1) := by
  have hB' : h0[6]? = some (ob 1 [.ref 7, .ref 15, .ref 18, .ref 22, .ref 33, .ref 35, .ref 37]) := hB
  obtain ⟨us, hU⟩ := hU
  obtain ⟨as, hA⟩ := hA
  refine ax_enter [some (.ref 6)] rfl (Nat.le_of_ble_eq_true rfl) (by decide) ?_
  refine ax_aload_n d_Bn_unpackGiven_0 rfl ?_
  refine ax_get d_Bn_unpackGiven_1 fg_Bn_44 (by first | assumption ) (by rfl) ?_
  refine ax_aload_n d_Bn_unpackGiven_4 rfl ?_
  refine ax_get d_Bn_unpackGiven_5 fg_Bn_48 (by first | assumption ) (by rfl) ?_
  refine ax_cS2 d_Bn_unpackGiven_8 s_S_unpackInto lk_Bn_80 (by decide) (Nat.le_of_ble_eq_true rfl) (cm_z (c_S_unpackInto hR hU hbs hR.lc rfl rfl) (fun b h1 hp => ?_))
  obtain ⟨⟨u, hU1, hbu, hb1⟩, hb2, hF1⟩ := hp
  have hB1 : h1[6]? = some (ob 1 [.ref 7, .ref 15, .ref 18, .ref 22, .ref 33, .ref 35, .ref 37]) := hB.fr hF1 rfl
  have hA1 := hA.fr hF1 rfl rfl
  refine az_if_ne 16 d_Bn_unpackGiven_11 (by decide) (bz_in _) (fun hcb => ?_) (fun hcb => ?_)
  · have hu := hb1 (bz_t hcb)
    have hR1 := hR.fr hF1 rfl rfl
    refine ax_aload_n d_Bn_unpackGiven_16 rfl ?_
    refine ax_get d_Bn_unpackGiven_17 fg_Bn_48 (by first | assumption ) (by rfl) ?_
    refine ax_aload_n d_Bn_unpackGiven_20 rfl ?_
    refine ax_get d_Bn_unpackGiven_21 fg_Bn_51 (by first | assumption ) (by rfl) ?_
    refine ax_cS2 d_Bn_unpackGiven_24 s_S_packInto lk_Bn_84 (by decide) (Nat.le_of_ble_eq_true rfl) (cm_v (c_S_packInto hU1 hA1 hbu hU1.lc (Nat.le_refl _) rfl rfl) (fun h2 hp => ?_))
    obtain ⟨hA2, hbp, hlp, hF2⟩ := hp
    have hR2 := hR1.fr hF2 rfl rfl
    have hB2 : h2[6]? = some (ob 1 [.ref 7, .ref 15, .ref 18, .ref 22, .ref 33, .ref 35, .ref 37]) := BnO.fr hB1 hF2 rfl
    have hsz := hA2.sz
    refine ax_aload_n d_Bn_unpackGiven_27 rfl ?_
    refine ax_get d_Bn_unpackGiven_28 fg_Bn_51 (by first | assumption ) (by rfl) ?_
    refine ax_aload_n d_Bn_unpackGiven_31 rfl ?_
    refine ax_get d_Bn_unpackGiven_32 fg_Bn_44 (by first | assumption ) (by rfl) ?_
    refine ax_cV1 d_Bn_unpackGiven_35 v_Rw_isLike lk_Bn_68 (by first | assumption ) (by decide) (Nat.le_of_ble_eq_true rfl) (cm_z (c_Rw_isLike hA2 hR2 hbp hbs) (fun b2 h3 hp => ?_))
    obtain ⟨rfl, rfl⟩ := hp
    refine ax_zret d_Bn_unpackGiven_38 rfl (by cases decide (pk u = ys) <;> decide) ?_
    refine ⟨decide (pk u = ys), rfl, ⟨u, hU1.fr hF2 rfl rfl, hbu, fun q => ?_⟩, fun q => ?_, ⟨_, hA2⟩, (hF1.wide rfl).tr (hF2.wide rfl)⟩
    · rw [upT, hu]
      exact if_pos (of_decide_eq_true q)
    · rw [upT, hu]
      exact if_neg (of_decide_eq_false q)
  · have hb := bz_f hcb
    refine az_iconst d_Bn_unpackGiven_14 ?_
    refine ax_zret d_Bn_unpackGiven_15 rfl (by decide) ?_
    refine ⟨false, rfl, ⟨u, hU1, hbu, fun q => by cases q⟩, fun _ => ?_, ⟨_, hA1⟩, hF1.wide rfl⟩
    rw [upT, hb2 hb]
