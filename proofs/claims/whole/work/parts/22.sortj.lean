theorem RKo.cg {X : Nat → Int} {n L : Nat} {rk rk' : Nat → Int} (h : RKo X n L rk) (e : ∀ q, q < n → rk' q = rk q) : RKo X n L rk' := fun p q hp hq => by rw [e p hp, e q hq]; exact h p q hp hq
theorem RKd.cg {n rc : Nat} {rk rk' : Nat → Int} (h : RKd n rc rk) (e : ∀ q, q < n → rk' q = rk q) : RKd n rc rk' := ⟨fun p hp => by rw [e p hp]; exact h.1 p hp, fun v hv => by
  obtain ⟨p, hp, w⟩ := h.2 v hv
  exact ⟨p, hp, by rw [e p hp]; exact w⟩⟩
theorem nrk_mono {n M : Nat} {rk : Nat → Int} {pl oN : Nat → Nat} {p q : Nat} (h : pl p < pl q) : nrk n M rk pl oN p ≤ nrk n M rk pl oN q := by
  have := chg_mono (fun k => ap n M rk (oN k)) (pl p) (pl q - pl p)
  rw [show pl p + (pl q - pl p) = pl q by omega] at this
  exact this
def newRc (n M : Nat) (rk : Nat → Int) (oN : Nat → Nat) : Nat := (if n = 0 then 0 else chg (fun k => ap n M rk (oN k)) (n - 1) + 1).toNat
theorem newRc_eq (n M : Nat) (rk : Nat → Int) (oN : Nat → Nat) : (if n = 0 then 0 else chg (fun k => ap n M rk (oN k)) (n - 1) + 1) = (newRc n M rk oN : Int) := by
  unfold newRc
  have := chg_nn (fun k => ap n M rk (oN k)) (n - 1)
  split <;> omega
theorem newRc_le (n M : Nat) (rk : Nat → Int) (oN : Nat → Nat) : newRc n M rk oN ≤ n := by
  unfold newRc
  have := chg_le (fun k => ap n M rk (oN k)) (n - 1)
  split <;> omega
theorem newRc_pos {n M : Nat} {rk : Nat → Int} {oN : Nat → Nat} (hn : 0 < n) : (newRc n M rk oN : Int) = chg (fun k => ap n M rk (oN k)) (n - 1) + 1 := by
  rw [← newRc_eq, if_neg (by omega)]
theorem newRc_d {n M : Nat} {rk : Nat → Int} {pl oN : Nat → Nat} (h : back2 n pl oN) : RKd n (newRc n M rk oN) (nrk n M rk pl oN) := by
  by_cases hn : 0 < n
  · exact nrk_dense h hn (newRc_pos hn)
  · have : newRc n M rk oN = 0 := by have := newRc_le n M rk oN; omega
    rw [this]
    exact ⟨fun p hp => by omega, fun v hv => by omega⟩
theorem shift_perm {n L : Nat} {o ln : Nat → Int} {pl oN : Nat → Nat} (hb : back2 n pl oN) (ho : ∀ k : Nat, k < n → o k = oN k) (hL : L < n) (hln : ∀ k : Nat, k < n → ln k = arz n (o k - L)) :
    (∀ q : Nat, q < n → pl ((q + L) % n) < n ∧ ln (pl ((q + L) % n)) = q) ∧ (∀ k : Nat, k < n → ∃ t : Nat, t < n ∧ ln k = t ∧ pl ((t + L) % n) = k) ∧ injN n (fun q => pl ((q + L) % n)) := by
  have md : ∀ q : Nat, q < n → (q + L) % n = if q + L < n then q + L else q + L - n := by
    intro q hq
    split
    · rename_i h; exact Nat.mod_eq_of_lt h
    · rw [Nat.mod_eq_sub_mod (by omega), Nat.mod_eq_of_lt (by omega)]
  have h1 : ∀ q : Nat, q < n → pl ((q + L) % n) < n ∧ ln (pl ((q + L) % n)) = q := by
    intro q hq
    have hm := Nat.mod_lt (q + L) (show 0 < n by omega)
    have b := hb.1 _ hm
    refine ⟨b.1, ?_⟩
    rw [hln _ b.1, ho _ b.1, b.2, md q hq, arz]
    split <;> split <;> (try split) <;> omega
  refine ⟨h1, fun k hk => ?_, fun a b ha hb' e => ?_⟩
  · have b := hb.2 k hk
    have e := hln k hk
    rw [ho k hk] at e
    refine ⟨(arz n (oN k - L)).toNat, ?_, ?_, ?_⟩
    · unfold arz
      split
      · omega
      · split <;> omega
    · rw [e]
      unfold arz
      split
      · omega
      · split <;> omega
    · have e2 : ((arz n (oN k - L)).toNat + L) % n = oN k := by
        have hlt : (arz n (oN k - L)).toNat < n := by
          unfold arz
          split
          · omega
          · split <;> omega
        rw [md _ hlt]
        unfold arz
        split <;> split <;> (try split) <;> omega
      rw [e2]
      exact b.2
  · have e1 := (h1 a ha).2
    have e2 := (h1 b hb').2
    have e' : pl ((a + L) % n) = pl ((b + L) % n) := e
    rw [e'] at e1
    omega
set_option maxRecDepth 100000 in
set_option maxHeartbeats 4000000 in
theorem c_Tu_sortTurns {h0 : ax_H} {r ra cap : Nat} {xs ls : List Int} {n0 rc0 db0 : Int} {o0 p0 rk0 ln0 off0 : Nat → Int} (hH : Hs h0 (TuL n0 rc0 db0 o0 p0 rk0 ln0 off0)) (hR : Rw h0 r ra cap xs) (hbs : Bs xs) (hn : xs.length ≤ 900) (hLs : Rw h0 8 9 900 ls) (hd1 : TSa.contains r = false) (hd2 : TSa.contains ra = false) :
    ax_Cv m_Tu_sortTurns 2 [.ref 7, .ref r] h0 (fun h1 => (∃ (rc db : Int) (o p rk ln off : Nat → Int), Hs h1 (TuL xs.length rc db o p rk ln off) ∧ TuFin xs o p db) ∧ Rw h1 8 9 900 (lastT xs) ∧ Fr TSa h0 h1) := by
  have hd1t : TS.contains r = false := by simp at hd1 ⊢; omega
  have hd2t : TS.contains ra = false := by simp at hd2 ⊢; omega
  have hsz := hR.sz
  have hF : Fr TS h0 h0 := Fr.rf
  refine ax_enter [some (.ref 7), some (.ref r), none, none] rfl (Nat.le_of_ble_eq_true rfl) (by decide) ?_
  refine ax_aload_n d_Tu_sortTurns_0 rfl ?_
  refine ax_aload_n d_Tu_sortTurns_1 rfl ?_
  refine ax_get d_Tu_sortTurns_2 fg_Tu_40 (by first | assumption | exact hH.g 0 rfl | exact hH.g 1 rfl | exact hH.g 2 rfl | exact hH.g 3 rfl | exact hH.g 4 rfl | exact hH.g 5 rfl) (by rfl) ?_
  refine az_sipush _ d_Tu_sortTurns_5 (by decide) ?_
  refine az_mmin d_Tu_sortTurns_8 lk_Tu_41 (by decide) (Nat.le_of_ble_eq_true rfl) (by omega) (by omega) ?_
  first | refine ah_put d_Tu_sortTurns_11 fp_Tu_36 hH hF 0 rfl rfl rfl (by first | rfl | decide) (Nat.le_of_ble_eq_true rfl) (fun h hH hF => ?_) | refine ah_put d_Tu_sortTurns_11 fp_Tu_36 hH hF 1 rfl rfl rfl (by first | rfl | decide) (Nat.le_of_ble_eq_true rfl) (fun h hH hF => ?_) | refine ah_put d_Tu_sortTurns_11 fp_Tu_36 hH hF 2 rfl rfl rfl (by first | rfl | decide) (Nat.le_of_ble_eq_true rfl) (fun h hH hF => ?_) | refine ah_put d_Tu_sortTurns_11 fp_Tu_36 hH hF 3 rfl rfl rfl (by first | rfl | decide) (Nat.le_of_ble_eq_true rfl) (fun h hH hF => ?_) | refine ah_put d_Tu_sortTurns_11 fp_Tu_36 hH hF 4 rfl rfl rfl (by first | rfl | decide) (Nat.le_of_ble_eq_true rfl) (fun h hH hF => ?_) | refine ah_put d_Tu_sortTurns_11 fp_Tu_36 hH hF 5 rfl rfl rfl (by first | rfl | decide) (Nat.le_of_ble_eq_true rfl) (fun h hH hF => ?_)
  have e900 : min (xs.length : Int) 900 = xs.length := by omega
  rw [e900] at hH
  have hH : Hs h (TuL xs.length rc0 db0 o0 p0 rk0 ln0 off0) := hH
  -- the end
  have fin : ∀ (h : ax_H) (rc rr : Nat) (o p rk ln off : Nat → Int), Hs h (TuL xs.length rc rr o p rk ln off) → Fr TS h0 h → RKo (cx xs) xs.length xs.length rk → (∀ q : Nat, q < xs.length → 0 ≤ rk q ∧ rk q < rc) → rc ≤ 900 → isRnd xs rr → ∀ v2 v3 : Option Value,
      ax_W m_Tu_sortTurns 2 134 [some (.ref 7), some (.ref r), v2, v3] [] h (fun r0 h1 => r0 = none ∧ (∃ (rc db : Int) (o p rk ln off : Nat → Int), Hs h1 (TuL xs.length rc db o p rk ln off) ∧ TuFin xs o p db) ∧ Rw h1 8 9 900 (lastT xs) ∧ Fr TSa h0 h1) := by
    intro h rc rr o p rk ln off hH hF hr hrg hrc hrd v2 v3
    refine ax_aload_n d_Tu_sortTurns_134 rfl ?_
    refine ax_cV0 d_Tu_sortTurns_135 v_Tu_lineUp lk_Tu_54 (by first | assumption | exact hH.g 0 rfl | exact hH.g 1 rfl | exact hH.g 2 rfl | exact hH.g 3 rfl | exact hH.g 4 rfl | exact hH.g 5 rfl) (by decide) (Nat.le_of_ble_eq_true rfl) (cm_v (c_Tu_lineUp hH hn) (fun h1 hp => ?_))
    obtain ⟨⟨ln1, hH1, hl1⟩, hF1⟩ := hp
    refine ax_aload_n d_Tu_sortTurns_138 rfl ?_
    refine ax_cV0 d_Tu_sortTurns_139 v_Tu_sortByRank lk_Tu_57 (hH1.g 0 rfl) (by decide) (Nat.le_of_ble_eq_true rfl) (cm_v (c_Tu_sortByRank (lp := fun q => q) hH1 hn hrc hrg (fun q hq => ⟨hq, hl1 q hq⟩) (fun k hk => ⟨k, hk, hl1 k hk, rfl⟩)) (fun h2 hp => ?_))
    obtain ⟨⟨o2, off2, hH2, ho2⟩, hF2⟩ := hp
    have hinj : injN xs.length (fun q => q) := fun a b _ _ e => e
    obtain ⟨hb, ho⟩ := mkback hinj ho2
    have hFx := (hF.tr hF1).tr hF2
    have hR2 := hR.fr hFx hd1t hd2t
    have hL2 := hLs.fr hFx rfl rfl
    refine ax_aload_n d_Tu_sortTurns_142 rfl ?_
    refine ax_aload_n d_Tu_sortTurns_143 rfl ?_
    refine ax_cV1 d_Tu_sortTurns_144 v_Tu_notePlaces lk_Tu_69 (hH2.g 0 rfl) (by decide) (Nat.le_of_ble_eq_true rfl) (cm_v (c_Tu_notePlaces hH2 hn hb ho hR2 rfl hL2 hd1 hd2) (fun h3 hp => ?_))
    obtain ⟨⟨p3, hH3, hp3⟩, hL3, hF3⟩ := hp
    refine ax_vret d_Tu_sortTurns_147 rfl ?_
    refine ⟨rfl, ⟨_, _, _, p3, _, _, _, hH3, fun q hq => ?_, fun q hq => ?_, rr, rfl, hrd⟩, ?_, (hFx.wide rfl).tr hF3⟩
    · rw [hp3 q hq, final_places hr hq]
    · rw [← final_places hr hq, ho2 q hq]
    · have e : lastT xs = mk xs.length (fun k => gx xs (((o2 k).toNat + (xs.length - 1)) % xs.length)) := by
        unfold lastT
        refine ext_getD (by rw [mk_len, mk_len]) (fun i hi => ?_)
        rw [mk_len] at hi
        rw [mk_at hi, mk_at hi]
        have h9 := ordT_ok hi
        have : (o2 i).toNat = ordT xs i := by
          have h8 := ho2 (ordT xs i) h9.1
          rw [final_places hr h9.1, h9.2] at h8
          omega
        rw [this]
      rw [e]
      exact hL3
  -- the doubling loop
  have loop : ∀ (f rr rc : Nat) (h : ax_H) (o p rk ln off : Nat → Int), xs.length ≤ 2 ^ rr + f → 2 ^ rr ≤ 1800 → Hs h (TuL xs.length rc rr o p rk ln off) → Fr TS h0 h → TuMid xs rc rr o rk → ∀ v3 : Option Value,
      ax_W m_Tu_sortTurns 2 68 [some (.ref 7), some (.ref r), some (.int (iv ((2 ^ rr : Nat) : Int))), v3] [] h (fun r0 h1 => r0 = none ∧ (∃ (rc db : Int) (o p rk ln off : Nat → Int), Hs h1 (TuL xs.length rc db o p rk ln off) ∧ TuFin xs o p db) ∧ Rw h1 8 9 900 (lastT xs) ∧ Fr TSa h0 h1) := by
    intro f
    induction f with
    | zero =>
      intro rr rc h o p rk ln off hf h18 hH hF hm v3
      obtain ⟨-, hr, hd, hrcn, hlow⟩ := hm
      have hp2 : 0 < 2 ^ rr := Nat.two_pow_pos rr
      have hv : ∀ p q : Nat, p < xs.length → q < xs.length → cmpL (cx xs) (2 ^ rr) p q = 0 → cmpT xs p q = 0 := by
        intro p q hp hq e
        rw [cmpL_big (cx_per xs) (by omega) (by omega)] at e
        exact e
      refine ax_iload_n d_Tu_sortTurns_68 rfl ?_
      refine ax_aload_n d_Tu_sortTurns_69 rfl ?_
      refine ax_get d_Tu_sortTurns_70 fg_Tu_36 (by first | assumption | exact hH.g 0 rfl | exact hH.g 1 rfl | exact hH.g 2 rfl | exact hH.g 3 rfl | exact hH.g 4 rfl | exact hH.g 5 rfl) (by rfl) ?_
      refine az_icmp_ge 134 d_Tu_sortTurns_73 (by decide) (by omega) (by omega) (fun hc => ?_) (fun hc => ?_)
      · exact fin h rc rr o p rk ln off hH hF (valid_order hr hv) hd.1 (by omega) ⟨hv, hlow⟩ _ _
      · exfalso
        omega
    | succ f ih =>
      intro rr rc h o p rk ln off hf h18 hH hF hm v3
      obtain ⟨⟨pl, oN, hb, ho, hsrt⟩, hr, hd, hrcn, hlow⟩ := hm
      have hp2 : 0 < 2 ^ rr := Nat.two_pow_pos rr
      refine ax_iload_n d_Tu_sortTurns_68 rfl ?_
      refine ax_aload_n d_Tu_sortTurns_69 rfl ?_
      refine ax_get d_Tu_sortTurns_70 fg_Tu_36 (by first | assumption | exact hH.g 0 rfl | exact hH.g 1 rfl | exact hH.g 2 rfl | exact hH.g 3 rfl | exact hH.g 4 rfl | exact hH.g 5 rfl) (by rfl) ?_
      refine az_icmp_ge 134 d_Tu_sortTurns_73 (by decide) (by omega) (by omega) (fun hLn => ?_) (fun hLn => ?_)
      · have hv : ∀ p q : Nat, p < xs.length → q < xs.length → cmpL (cx xs) (2 ^ rr) p q = 0 → cmpT xs p q = 0 := by
          intro p q hp hq e
          rw [cmpL_big (cx_per xs) (by omega) (by omega)] at e
          exact e
        exact fin h rc rr o p rk ln off hH hF (valid_order hr hv) hd.1 (by omega) ⟨hv, hlow⟩ _ _
      · refine ax_aload_n d_Tu_sortTurns_76 rfl ?_
        refine ax_get d_Tu_sortTurns_77 fg_Tu_51 (by first | assumption | exact hH.g 0 rfl | exact hH.g 1 rfl | exact hH.g 2 rfl | exact hH.g 3 rfl | exact hH.g 4 rfl | exact hH.g 5 rfl) (by rfl) ?_
        refine ax_aload_n d_Tu_sortTurns_80 rfl ?_
        refine ax_get d_Tu_sortTurns_81 fg_Tu_36 (by first | assumption | exact hH.g 0 rfl | exact hH.g 1 rfl | exact hH.g 2 rfl | exact hH.g 3 rfl | exact hH.g 4 rfl | exact hH.g 5 rfl) (by rfl) ?_
        refine az_icmp_ge 134 d_Tu_sortTurns_84 (by decide) (by omega) (by omega) (fun hrn => ?_) (fun hrn => ?_)
        · have hv : ∀ p q : Nat, p < xs.length → q < xs.length → cmpL (cx xs) (2 ^ rr) p q = 0 → cmpT xs p q = 0 := by
            intro p q hp hq e
            have := surj_inj hd (by omega) hp hq ((hr.eq hp hq).mpr e)
            subst this
            have := cmpL_anti (cx xs) xs.length p p
            unfold cmpT
            omega
          exact fin h rc rr o p rk ln off hH hF (valid_order hr hv) hd.1 (by omega) ⟨hv, hlow⟩ _ _
        · have hLn' : 2 ^ rr < xs.length := by omega
          have hLpos : 0 < 2 ^ rr := Nat.two_pow_pos rr
          have hoB : ∀ k : Nat, k < xs.length → 0 ≤ o k ∧ o k < (xs.length : Nat) := by
            intro k hk
            have := (hb.2 k hk).1
            rw [ho k hk]
            omega
          refine ax_aload_n d_Tu_sortTurns_87 rfl ?_
          refine ax_get d_Tu_sortTurns_88 fg_Tu_51 (by first | assumption | exact hH.g 0 rfl | exact hH.g 1 rfl | exact hH.g 2 rfl | exact hH.g 3 rfl | exact hH.g 4 rfl | exact hH.g 5 rfl) (by rfl) ?_
          refine ax_istore_n d_Tu_sortTurns_91 (by decide) rfl ?_
          refine ax_aload_n d_Tu_sortTurns_92 rfl ?_
          refine ax_iload_n d_Tu_sortTurns_93 rfl ?_
          refine ax_cV1 d_Tu_sortTurns_94 v_Tu_shift lk_Tu_66 (hH.g 0 rfl) (by decide) (Nat.le_of_ble_eq_true rfl) (cm_v (c_Tu_shift (L := 2 ^ rr) hH hn (by omega) hoB) (fun h1 hp => ?_))
          obtain ⟨⟨ln1, hH1, hl1⟩, hF1⟩ := hp
          obtain ⟨q1, q2, q3⟩ := shift_perm hb ho hLn' hl1
          refine ax_aload_n d_Tu_sortTurns_97 rfl ?_
          refine ax_cV0 d_Tu_sortTurns_98 v_Tu_sortByRank lk_Tu_57 (hH1.g 0 rfl) (by decide) (Nat.le_of_ble_eq_true rfl) (cm_v (c_Tu_sortByRank (lp := fun q => pl ((q + 2 ^ rr) % xs.length)) hH1 hn (by omega) hd.1 q1 q2) (fun h2 hp => ?_))
          obtain ⟨⟨o2, off2, hH2, ho2⟩, hF2⟩ := hp
          obtain ⟨hb2, hoo⟩ := mkback q3 ho2
          have hs2 : srt xs.length (2 ^ rr) rk (plc (lt2 rk (fun q => pl ((q + 2 ^ rr) % xs.length))) xs.length) := by
            intro a b ha hb' hlt
            have h1 := (plc_iff (lt2_ok q3) ha hb').mp hlt
            rw [lt2_iff] at h1
            rcases h1 with h1 | ⟨h1, h2⟩
            · exact Or.inl h1
            · exact Or.inr ⟨h1, hsrt _ _ (Nat.mod_lt _ (by omega)) (Nat.mod_lt _ (by omega)) h2⟩
          refine ax_aload_n d_Tu_sortTurns_101 rfl ?_
          refine ax_iload_n d_Tu_sortTurns_102 rfl ?_
          refine ax_cV1 d_Tu_sortTurns_103 v_Tu_numberRanks lk_Tu_60 (hH2.g 0 rfl) (by decide) (Nat.le_of_ble_eq_true rfl) (cm_v (c_Tu_numberRanks (M := 2 ^ rr) hH2 hn (Or.inl hLn') hb2 hoo (fun q hq => by have := hd.1 q hq; omega)) (fun h3 hp => ?_))
          obtain ⟨⟨p3, rk3, hH3, hrk3⟩, hF3⟩ := hp
          rw [newRc_eq] at hH3
          have hle := newRc_le xs.length (2 ^ rr) rk (fun k => (o2 k).toNat)
          have hpos := newRc_pos (M := 2 ^ rr) (rk := rk) (oN := fun k => (o2 k).toNat) (show 0 < xs.length by omega)
          have hr3 : RKo (cx xs) xs.length (2 ^ (rr + 1)) rk3 := by
            rw [show 2 ^ (rr + 1) = 2 ^ rr + 2 ^ rr by rw [Nat.pow_succ]; omega]
            exact (nrk_order (cx_per xs) (by omega) hb2 hs2 hr).cg hrk3
          have hd3 : RKd xs.length (newRc xs.length (2 ^ rr) rk (fun k => (o2 k).toNat)) rk3 := (newRc_d hb2).cg hrk3
          have hFx := ((hF.tr hF1).tr hF2).tr hF3
          have hH := hH3
          refine ax_aload_n d_Tu_sortTurns_106 rfl ?_
          refine ax_get d_Tu_sortTurns_107 fg_Tu_51 (by first | assumption | exact hH.g 0 rfl | exact hH.g 1 rfl | exact hH.g 2 rfl | exact hH.g 3 rfl | exact hH.g 4 rfl | exact hH.g 5 rfl) (by rfl) ?_
          refine ax_iload_n d_Tu_sortTurns_110 rfl ?_
          refine az_icmp_ne 117 d_Tu_sortTurns_111 (by decide) (by omega) (by omega) (fun hq => ?_) (fun hq => ?_)
          · have hFz : Fr TS h3 h3 := Fr.rf
            have hF := hFx
            obtain ⟨a, b, ha, hb', e1, e2⟩ := nrk_split hb2 hs2 (by omega) hd (fun w => hq (by rw [w, hpos]))
            refine ax_aload_n d_Tu_sortTurns_117 rfl ?_
            refine ax_dup d_Tu_sortTurns_118 rfl ?_
            refine ax_get d_Tu_sortTurns_119 fg_Tu_63 (by first | assumption | exact hH.g 0 rfl | exact hH.g 1 rfl | exact hH.g 2 rfl | exact hH.g 3 rfl | exact hH.g 4 rfl | exact hH.g 5 rfl) (by rfl) ?_
            refine az_iconst d_Tu_sortTurns_122 ?_
            refine az_iadd d_Tu_sortTurns_123 ?_
            first | refine ah_put d_Tu_sortTurns_124 fp_Tu_63 hH hF 0 rfl rfl rfl (by first | rfl | decide) (Nat.le_of_ble_eq_true rfl) (fun h hH hF => ?_) | refine ah_put d_Tu_sortTurns_124 fp_Tu_63 hH hF 1 rfl rfl rfl (by first | rfl | decide) (Nat.le_of_ble_eq_true rfl) (fun h hH hF => ?_) | refine ah_put d_Tu_sortTurns_124 fp_Tu_63 hH hF 2 rfl rfl rfl (by first | rfl | decide) (Nat.le_of_ble_eq_true rfl) (fun h hH hF => ?_) | refine ah_put d_Tu_sortTurns_124 fp_Tu_63 hH hF 3 rfl rfl rfl (by first | rfl | decide) (Nat.le_of_ble_eq_true rfl) (fun h hH hF => ?_) | refine ah_put d_Tu_sortTurns_124 fp_Tu_63 hH hF 4 rfl rfl rfl (by first | rfl | decide) (Nat.le_of_ble_eq_true rfl) (fun h hH hF => ?_) | refine ah_put d_Tu_sortTurns_124 fp_Tu_63 hH hF 5 rfl rfl rfl (by first | rfl | decide) (Nat.le_of_ble_eq_true rfl) (fun h hH hF => ?_)
            refine ax_iload_n d_Tu_sortTurns_127 rfl ?_
            refine az_iconst d_Tu_sortTurns_128 ?_
            refine az_imul d_Tu_sortTurns_129 ?_
            refine ax_istore_n d_Tu_sortTurns_130 (by decide) rfl ?_
            refine ax_goto 68 d_Tu_sortTurns_131 (by decide) ?_
            have e2p : (((2 ^ rr : Nat) : Int) * 2) = ((2 ^ (rr + 1) : Nat) : Int) := by rw [Nat.pow_succ]; omega
            rw [e2p]
            refine ih (rr + 1) _ h o2 p3 rk3 ln1 off2 (by rw [Nat.pow_succ]; omega) (by rw [Nat.pow_succ]; omega) hH hF ⟨⟨_, _, hb2, hoo, fun x y hx hy hlt => by rw [hrk3 x hx, hrk3 y hy]; exact nrk_mono hlt⟩, hr3, hd3, hle, fun s hs => ?_⟩ _
            by_cases es : s = rr
            · subst es
              refine ⟨a, b, ha, hb', (hr.eq ha hb').mp e1, fun w => ?_⟩
              have h9 := (hr3.eq ha hb').mpr (cmpL_all (cx_per xs) (by omega) w _)
              rw [hrk3 a ha, hrk3 b hb'] at h9
              exact e2 h9
            · exact hlow s (by omega)
          · refine ax_goto 134 d_Tu_sortTurns_114 (by decide) ?_
            have hkeep := nrk_keep hb2 hs2 (by omega) hd (by rw [← hpos]; omega)
            have hv : ∀ p q : Nat, p < xs.length → q < xs.length → cmpL (cx xs) (2 ^ rr) p q = 0 → cmpT xs p q = 0 := by
              intro p q hp hq e
              refine cmp_stuck (cx_per xs) (by omega) hLpos (fun a b ha hb' e => ?_) e
              have h8 := (hr.eq ha hb').mpr e
              rw [← hkeep a ha, ← hkeep b hb', ← hrk3 a ha, ← hrk3 b hb'] at h8
              have h9 := (hr3.eq ha hb').mp h8
              rw [show 2 ^ (rr + 1) = 2 ^ rr + 2 ^ rr by rw [Nat.pow_succ]; omega] at h9
              exact h9
            have hrr : RKo (cx xs) xs.length (2 ^ rr) rk3 := hr.cg (fun q hq => by rw [hrk3 q hq, hkeep q hq])
            exact fin h3 _ rr o2 p3 rk3 ln1 off2 hH3 hFx (valid_order hrr hv) hd3.1 (by omega) ⟨hv, hlow⟩ _ _
  refine az_iconst d_Tu_sortTurns_14 ?_
  refine ax_istore_n d_Tu_sortTurns_15 (by decide) rfl ?_
  -- the ranks are the bytes
  have loop0 : ∀ (f i : Nat) (h : ax_H) (rk : Nat → Int), i + f = xs.length → Hs h (TuL xs.length rc0 db0 o0 p0 rk ln0 off0) → Fr TS h0 h → (∀ q : Nat, q < i → rk q = gx xs q) →
      ax_W m_Tu_sortTurns 2 16 [some (.ref 7), some (.ref r), some (.int (iv i)), none] [] h (fun r0 h1 => r0 = none ∧ (∃ (rc db : Int) (o p rk ln off : Nat → Int), Hs h1 (TuL xs.length rc db o p rk ln off) ∧ TuFin xs o p db) ∧ Rw h1 8 9 900 (lastT xs) ∧ Fr TSa h0 h1) := by
    intro f
    induction f with
    | zero =>
      intro i h rk he hH hF hrk
      have hrk' : ∀ q : Nat, q < xs.length → rk q = gx xs q := fun q hq => hrk q (by omega)
      have hrg : ∀ q : Nat, q < xs.length → 0 ≤ rk q ∧ rk q < (256 : Nat) := fun q hq => by rw [hrk' q hq]; exact hbs q hq
      refine ax_iload_n d_Tu_sortTurns_16 rfl ?_
      refine ax_aload_n d_Tu_sortTurns_17 rfl ?_
      refine ax_get d_Tu_sortTurns_18 fg_Tu_36 (by first | assumption | exact hH.g 0 rfl | exact hH.g 1 rfl | exact hH.g 2 rfl | exact hH.g 3 rfl | exact hH.g 4 rfl | exact hH.g 5 rfl) (by rfl) ?_
      refine az_icmp_ge 41 d_Tu_sortTurns_21 (by decide) (by omega) (by omega) (fun hc => ?_) (fun hc => ?_)
      · refine ax_aload_n d_Tu_sortTurns_41 rfl ?_
        refine az_sipush _ d_Tu_sortTurns_42 (by decide) ?_
        first | refine ah_put d_Tu_sortTurns_45 fp_Tu_51 hH hF 0 rfl rfl rfl (by first | rfl | decide) (Nat.le_of_ble_eq_true rfl) (fun h hH hF => ?_) | refine ah_put d_Tu_sortTurns_45 fp_Tu_51 hH hF 1 rfl rfl rfl (by first | rfl | decide) (Nat.le_of_ble_eq_true rfl) (fun h hH hF => ?_) | refine ah_put d_Tu_sortTurns_45 fp_Tu_51 hH hF 2 rfl rfl rfl (by first | rfl | decide) (Nat.le_of_ble_eq_true rfl) (fun h hH hF => ?_) | refine ah_put d_Tu_sortTurns_45 fp_Tu_51 hH hF 3 rfl rfl rfl (by first | rfl | decide) (Nat.le_of_ble_eq_true rfl) (fun h hH hF => ?_) | refine ah_put d_Tu_sortTurns_45 fp_Tu_51 hH hF 4 rfl rfl rfl (by first | rfl | decide) (Nat.le_of_ble_eq_true rfl) (fun h hH hF => ?_) | refine ah_put d_Tu_sortTurns_45 fp_Tu_51 hH hF 5 rfl rfl rfl (by first | rfl | decide) (Nat.le_of_ble_eq_true rfl) (fun h hH hF => ?_)
        refine ax_aload_n d_Tu_sortTurns_48 rfl ?_
        have hH : Hs h (TuL xs.length ((256 : Nat) : Int) db0 o0 p0 rk ln0 off0) := hH
        refine ax_cV0 d_Tu_sortTurns_49 v_Tu_lineUp lk_Tu_54 (by first | assumption | exact hH.g 0 rfl | exact hH.g 1 rfl | exact hH.g 2 rfl | exact hH.g 3 rfl | exact hH.g 4 rfl | exact hH.g 5 rfl) (by decide) (Nat.le_of_ble_eq_true rfl) (cm_v (c_Tu_lineUp hH hn) (fun h1 hp => ?_))
        obtain ⟨⟨ln1, hH1, hl1⟩, hF1⟩ := hp
        refine ax_aload_n d_Tu_sortTurns_52 rfl ?_
        refine ax_cV0 d_Tu_sortTurns_53 v_Tu_sortByRank lk_Tu_57 (hH1.g 0 rfl) (by decide) (Nat.le_of_ble_eq_true rfl) (cm_v (c_Tu_sortByRank (lp := fun q => q) hH1 hn (by decide) hrg (fun q hq => ⟨hq, hl1 q hq⟩) (fun k hk => ⟨k, hk, hl1 k hk, rfl⟩)) (fun h2 hp => ?_))
        obtain ⟨⟨o2, off2, hH2, ho2⟩, hF2⟩ := hp
        have hinj : injN xs.length (fun q => q) := fun a b _ _ e => e
        obtain ⟨hb2, hoo⟩ := mkback hinj ho2
        have hs2 : srt xs.length 0 rk (plc (lt2 rk (fun q => q)) xs.length) := by
          intro a b ha hb' hlt
          have h1 := (plc_iff (lt2_ok hinj) ha hb').mp hlt
          rw [lt2_iff] at h1
          rw [Nat.add_zero, Nat.add_zero, Nat.mod_eq_of_lt ha, Nat.mod_eq_of_lt hb']
          omega
        refine ax_aload_n d_Tu_sortTurns_56 rfl ?_
        refine az_iconst d_Tu_sortTurns_57 ?_
        refine ax_cV1 d_Tu_sortTurns_58 v_Tu_numberRanks lk_Tu_60 (hH2.g 0 rfl) (by decide) (Nat.le_of_ble_eq_true rfl) (cm_v (c_Tu_numberRanks (M := 0) hH2 hn (Or.inr rfl) hb2 hoo (fun q hq => by have := hrg q hq; omega)) (fun h3 hp => ?_))
        obtain ⟨⟨p3, rk3, hH3, hrk3⟩, hF3⟩ := hp
        rw [newRc_eq] at hH3
        have hr1 : RKo (cx xs) xs.length (2 ^ 0) rk := by
          intro a b ha hb'
          rw [hrk' a ha, hrk' b hb']
          show _ ↔ (if cx xs a < cx xs b then (-1 : Int) else if cx xs b < cx xs a then 1 else 0) < 0
          unfold cx
          rw [Nat.mod_eq_of_lt ha, Nat.mod_eq_of_lt hb']
          split
          · omega
          · split <;> omega
        have hH := hH3
        have hF := ((hF.tr hF1).tr hF2).tr hF3
        refine ax_aload_n d_Tu_sortTurns_61 rfl ?_
        refine az_iconst d_Tu_sortTurns_62 ?_
        first | refine ah_put d_Tu_sortTurns_63 fp_Tu_63 hH hF 0 rfl rfl rfl (by first | rfl | decide) (Nat.le_of_ble_eq_true rfl) (fun h hH hF => ?_) | refine ah_put d_Tu_sortTurns_63 fp_Tu_63 hH hF 1 rfl rfl rfl (by first | rfl | decide) (Nat.le_of_ble_eq_true rfl) (fun h hH hF => ?_) | refine ah_put d_Tu_sortTurns_63 fp_Tu_63 hH hF 2 rfl rfl rfl (by first | rfl | decide) (Nat.le_of_ble_eq_true rfl) (fun h hH hF => ?_) | refine ah_put d_Tu_sortTurns_63 fp_Tu_63 hH hF 3 rfl rfl rfl (by first | rfl | decide) (Nat.le_of_ble_eq_true rfl) (fun h hH hF => ?_) | refine ah_put d_Tu_sortTurns_63 fp_Tu_63 hH hF 4 rfl rfl rfl (by first | rfl | decide) (Nat.le_of_ble_eq_true rfl) (fun h hH hF => ?_) | refine ah_put d_Tu_sortTurns_63 fp_Tu_63 hH hF 5 rfl rfl rfl (by first | rfl | decide) (Nat.le_of_ble_eq_true rfl) (fun h hH hF => ?_)
        refine az_iconst d_Tu_sortTurns_66 ?_
        refine ax_istore_n d_Tu_sortTurns_67 (by decide) rfl ?_
        exact loop xs.length 0 _ h o2 p3 rk3 ln1 off2 (by omega) (by decide) hH hF ⟨⟨_, _, hb2, hoo, fun x y hx hy hlt => by rw [hrk3 x hx, hrk3 y hy]; exact nrk_mono hlt⟩, (nrk_same hb2 hs2 hr1).cg hrk3, (newRc_d hb2).cg hrk3, newRc_le _ _ _ _, fun s hs => by omega⟩ none
      · exfalso
        omega
    | succ f ih =>
      intro i h rk he hH hF hrk
      have hR1 := hR.fr hF hd1t hd2t
      have hsz := hR1.sz
      have e1 : rAt xs i = gx xs i := by rw [rAt, if_pos (by omega)]; rfl
      refine ax_iload_n d_Tu_sortTurns_16 rfl ?_
      refine ax_aload_n d_Tu_sortTurns_17 rfl ?_
      refine ax_get d_Tu_sortTurns_18 fg_Tu_36 (by first | assumption | exact hH.g 0 rfl | exact hH.g 1 rfl | exact hH.g 2 rfl | exact hH.g 3 rfl | exact hH.g 4 rfl | exact hH.g 5 rfl) (by rfl) ?_
      refine az_icmp_ge 41 d_Tu_sortTurns_21 (by decide) (by omega) (by omega) (fun hc => ?_) (fun hc => ?_)
      · exfalso
        omega
      · refine ax_aload_n d_Tu_sortTurns_24 rfl ?_
        refine ax_get d_Tu_sortTurns_25 fg_Tu_27 (by first | assumption | exact hH.g 0 rfl | exact hH.g 1 rfl | exact hH.g 2 rfl | exact hH.g 3 rfl | exact hH.g 4 rfl | exact hH.g 5 rfl) (by rfl) ?_
        refine ax_iload_n d_Tu_sortTurns_28 rfl ?_
        refine ax_aload_n d_Tu_sortTurns_29 rfl ?_
        refine ax_iload_n d_Tu_sortTurns_30 rfl ?_
        refine ax_cV1 d_Tu_sortTurns_31 v_Rw_at lk_Tu_47 (by first | assumption | exact hH.g 0 rfl | exact hH.g 1 rfl | exact hH.g 2 rfl | exact hH.g 3 rfl | exact hH.g 4 rfl | exact hH.g 5 rfl) (by decide) (Nat.le_of_ble_eq_true rfl) (cm_i (c_Rw_at hR1 (i := i) (by omega)) (fun z h3 hp => ?_))
        obtain ⟨rfl, rfl⟩ := hp
        rw [e1]
        first | refine ah_iast d_Tu_sortTurns_34 hH hF 0 rfl rfl (by omega) (by omega) (by omega) (by omega) (fun h hH hF => ?_) | refine ah_iast d_Tu_sortTurns_34 hH hF 1 rfl rfl (by omega) (by omega) (by omega) (by omega) (fun h hH hF => ?_) | refine ah_iast d_Tu_sortTurns_34 hH hF 2 rfl rfl (by omega) (by omega) (by omega) (by omega) (fun h hH hF => ?_) | refine ah_iast d_Tu_sortTurns_34 hH hF 3 rfl rfl (by omega) (by omega) (by omega) (by omega) (fun h hH hF => ?_) | refine ah_iast d_Tu_sortTurns_34 hH hF 4 rfl rfl (by omega) (by omega) (by omega) (by omega) (fun h hH hF => ?_) | refine ah_iast d_Tu_sortTurns_34 hH hF 5 rfl rfl (by omega) (by omega) (by omega) (by omega) (fun h hH hF => ?_)
        refine az_iinc d_Tu_sortTurns_35 rfl (by decide) rfl ?_
        refine ax_goto 16 d_Tu_sortTurns_38 (by decide) ?_
        refine ih (i + 1) h (up rk i (gx xs i)) (by omega) hH hF (fun q hq => ?_)
        by_cases e : q = i
        · rw [e, up_at]
        · rw [up_ne e]; exact hrk q (by omega)
  exact loop0 xs.length 0 h rk0 (by omega) hH hF (fun q hq => by omega)
