theorem RKo.cg {X : Nat → Int} {n L : Nat} {rk rk' : Nat → Int} (h : RKo X n L rk) (e : ∀ q, q < n → rk' q = rk q) : RKo X n L rk' := fun p q hp hq => by rw [e p hp, e q hq]; exact h p q hp hq
theorem RKd.cg {n rc : Nat} {rk rk' : Nat → Int} (h : RKd n rc rk) (e : ∀ q, q < n → rk' q = rk q) : RKd n rc rk' := ⟨fun p hp => by rw [e p hp]; exact h.1 p hp, fun v hv => by
  obtain ⟨p, hp, w⟩ := h.2 v hv
  exact ⟨p, hp, by rw [e p hp]; exact w⟩⟩
theorem nrk_mono {n M : Nat} {rk : Nat → Int} {pl oN : Nat → Nat} {p q : Nat} (h : pl p < pl q) : nrk n M rk pl oN p ≤ nrk n M rk pl oN q := by
  have := chg_mono (fun k => ap n M rk (oN k)) (pl p) (pl q - pl p)
  rw [show pl p + (pl q - pl p) = pl q by omega] at this
  exact this
def newRc (n M : Nat) (rk : Nat → Int) (oN : Nat → Nat) : Nat := (if n = 0 then 0 else chg (fun k => ap n M rk (oN k)) (n - 1) + 1).toNat
theorem newRc_eq (n M : Nat) (rk : Nat → Int) (oN : Nat → Nat) : (if n = 0 then 0 else chg (fun k => ap n M rk (oN k)) (n - 1) + 1) = (newRc n M rk oN : Int) := by
  unfold newRc
  have := chg_nn (fun k => ap n M rk (oN k)) (n - 1)
  split <;> omega
theorem newRc_le (n M : Nat) (rk : Nat → Int) (oN : Nat → Nat) : newRc n M rk oN ≤ n := by
  unfold newRc
  have := chg_le (fun k => ap n M rk (oN k)) (n - 1)
  split <;> omega
theorem newRc_pos {n M : Nat} {rk : Nat → Int} {oN : Nat → Nat} (hn : 0 < n) : (newRc n M rk oN : Int) = chg (fun k => ap n M rk (oN k)) (n - 1) + 1 := by
  rw [← newRc_eq, if_neg (by omega)]
theorem newRc_d {n M : Nat} {rk : Nat → Int} {pl oN : Nat → Nat} (h : back2 n pl oN) : RKd n (newRc n M rk oN) (nrk n M rk pl oN) := by
  by_cases hn : 0 < n
  · exact nrk_dense h hn (newRc_pos hn)
  · have : newRc n M rk oN = 0 := by have := newRc_le n M rk oN; omega
    rw [this]
    exact ⟨fun p hp => by omega, fun v hv => by omega⟩
theorem shift_perm {n L : Nat} {o ln : Nat → Int} {pl oN : Nat → Nat} (hb : back2 n pl oN) (ho : ∀ k : Nat, k < n → o k = oN k) (hL : L < n) (hln : ∀ k : Nat, k < n → ln k = arz n (o k - L)) :
    (∀ q : Nat, q < n → pl ((q + L) % n) < n ∧ ln (pl ((q + L) % n)) = q) ∧ (∀ k : Nat, k < n → ∃ t : Nat, t < n ∧ ln k = t ∧ pl ((t + L) % n) = k) ∧ injN n (fun q => pl ((q + L) % n)) := by
  have md : ∀ q : Nat, q < n → (q + L) % n = if q + L < n then q + L else q + L - n := by
    intro q hq
    split
    · rename_i h; exact Nat.mod_eq_of_lt h
    · rw [Nat.mod_eq_sub_mod (by omega), Nat.mod_eq_of_lt (by omega)]
  have h1 : ∀ q : Nat, q < n → pl ((q + L) % n) < n ∧ ln (pl ((q + L) % n)) = q := by
    intro q hq
    have hm := Nat.mod_lt (q + L) (show 0 < n by omega)
    have b := hb.1 _ hm
    refine ⟨b.1, ?_⟩
    rw [hln _ b.1, ho _ b.1, b.2, md q hq, arz]
    split <;> split <;> (try split) <;> omega
  refine ⟨h1, fun k hk => ?_, fun a b ha hb' e => ?_⟩
  · have b := hb.2 k hk
    have e := hln k hk
    rw [ho k hk] at e
    refine ⟨(arz n (oN k - L)).toNat, ?_, ?_, ?_⟩
    · unfold arz
      split
      · omega
      · split <;> omega
    · rw [e]
      unfold arz
      split
      · omega
      · split <;> omega
    · have e2 : ((arz n (oN k - L)).toNat + L) % n = oN k := by
        have hlt : (arz n (oN k - L)).toNat < n := by
          unfold arz
          split
          · omega
          · split <;> omega
        rw [md _ hlt]
        unfold arz
        split <;> split <;> (try split) <;> omega
      rw [e2]
      exact b.2
  · have e1 := (h1 a ha).2
    have e2 := (h1 b hb').2
    have e' : pl ((a + L) % n) = pl ((b + L) % n) := e
    rw [e'] at e1
    omega
set_option maxRecDepth 100000 in
set_option maxHeartbeats 4000000 in
theorem c_Tu_sortTurns {h0 : ax_H} {r ra cap : Nat} {xs ls : List Int} {n0 rc0 db0 : Int} {o0 p0 rk0 ln0 off0 : Nat → Int} (hH : Hs h0 (TuL n0 rc0 db0 o0 p0 rk0 ln0 off0)) (hR : Rw h0 r ra cap xs) (hbs : Bs xs) (hn : xs.length ≤ 900) (hLs : Rw h0 8 9 900 ls) (hd1 : TSa.contains r = false) (hd2 : TSa.contains ra = false) :
    ax_Cv m_Tu_sortTurns 2 [.ref 7, .ref r] h0 (fun h1 => (∃ (rc db : Int) (o p rk ln off : Nat → Int), Hs h1 (TuL xs.length rc db o p rk ln off) ∧ TuFin xs o p db) ∧ Rw h1 8 9 900 (lastT xs) ∧ Fr TSa h0 h1) := by
  have hd1t : TS.contains r = false := by simp at hd1 ⊢; omega
  have hd2t : TS.contains ra = false := by simp at hd2 ⊢; omega
  have hsz := hR.sz
  have hF : Fr TS h0 h0 := Fr.rf
  refine ax_enter [some (.ref 7), some (.ref r), none, none] rfl (Nat.le_of_ble_eq_true rfl) (by decide) ?_
  refine ax_aload_n d_Tu_sortTurns_0 rfl ?_
  refine ax_aload_n d_Tu_sortTurns_1 rfl ?_
  refine ax_get d_Tu_sortTurns_2 fg_Tu_40 (by first | assumption | exact hH.g 0 rfl | exact hH.g 1 rfl | exact hH.g 2 rfl | exact hH.g 3 rfl | exact hH.g 4 rfl | exact hH.g 5 rfl) (by rfl) ?_
  refine az_sipush _ d_Tu_sortTurns_5 (by decide) ?_
  refine az_mmin d_Tu_sortTurns_8 lk_Tu_41 (by decide) (Nat.le_of_ble_eq_true rfl) (by omega) (by omega) ?_
  first | refine ah_put d_Tu_sortTurns_11 fp_Tu_36 hH hF 0 rfl rfl rfl (by first | rfl | decide) (Nat.le_of_ble_eq_true rfl) (fun h hH hF => ?_) | refine ah_put d_Tu_sortTurns_11 fp_Tu_36 hH hF 1 rfl rfl rfl (by first | rfl | decide) (Nat.le_of_ble_eq_true rfl) (fun h hH hF => ?_) | refine ah_put d_Tu_sortTurns_11 fp_Tu_36 hH hF 2 rfl rfl rfl (by first | rfl | decide) (Nat.le_of_ble_eq_true rfl) (fun h hH hF => ?_) | refine ah_put d_Tu_sortTurns_11 fp_Tu_36 hH hF 3 rfl rfl rfl (by first | rfl | decide) (Nat.le_of_ble_eq_true rfl) (fun h hH hF => ?_) | refine ah_put d_Tu_sortTurns_11 fp_Tu_36 hH hF 4 rfl rfl rfl (by first | rfl | decide) (Nat.le_of_ble_eq_true rfl) (fun h hH hF => ?_) | refine ah_put d_Tu_sortTurns_11 fp_Tu_36 hH hF 5 rfl rfl rfl (by first | rfl | decide) (Nat.le_of_ble_eq_true rfl) (fun h hH hF => ?_)
  have e900 : min (xs.length : Int) 900 = xs.length := by omega
  rw [e900] at hH
  have hH : Hs h (TuL xs.length rc0 db0 o0 p0 rk0 ln0 off0) := hH
  -- the end
  have fin : ∀ (h : ax_H) (rc rr : Nat) (o p rk ln off : Nat → Int), Hs h (TuL xs.length rc rr o p rk ln off) → Fr TS h0 h → RKo (cx xs) xs.length xs.length rk → (∀ q : Nat, q < xs.length → 0 ≤ rk q ∧ rk q < rc) → rc ≤ 900 → isRnd xs rr → ∀ v2 v3 : Option Value,
      ax_W m_Tu_sortTurns 2 134 [some (.ref 7), some (.ref r), v2, v3] [] h (fun r0 h1 => r0 = none ∧ (∃ (rc db : Int) (o p rk ln off : Nat → Int), Hs h1 (TuL xs.length rc db o p rk ln off) ∧ TuFin xs o p db) ∧ Rw h1 8 9 900 (lastT xs) ∧ Fr TSa h0 h1) := by
    intro h rc rr o p rk ln off hH hF hr hrg hrc hrd v2 v3
    refine ax_aload_n d_Tu_sortTurns_134 rfl ?_
    refine ax_cV0 d_Tu_sortTurns_135 v_Tu_lineUp lk_Tu_54 (by first | assumption | exact hH.g 0 rfl | exact hH.g 1 rfl | exact hH.g 2 rfl | exact hH.g 3 rfl | exact hH.g 4 rfl | exact hH.g 5 rfl) (by decide) (Nat.le_of_ble_eq_true rfl) (cm_v (c_Tu_lineUp hH hn) (fun h1 hp => ?_))
    obtain ⟨⟨ln1, hH1, hl1⟩, hF1⟩ := hp
    refine ax_aload_n d_Tu_sortTurns_138 rfl ?_
    refine ax_cV0 d_Tu_sortTurns_139 v_Tu_sortByRank lk_Tu_57 (hH1.g 0 rfl) (by decide) (Nat.le_of_ble_eq_true rfl) (cm_v (c_Tu_sortByRank (lp := fun q => q) hH1 hn hrc hrg (fun q hq => ⟨hq, hl1 q hq⟩) (fun k hk => ⟨k, hk, hl1 k hk, rfl⟩)) (fun h2 hp => ?_))
    obtain ⟨⟨o2, off2, hH2, ho2⟩, hF2⟩ := hp
    have hinj : injN xs.length (fun q => q) := fun a b _ _ e => e
    obtain ⟨hb, ho⟩ := mkback hinj ho2
    have hFx := (hF.tr hF1).tr hF2
    have hR2 := hR.fr hFx hd1t hd2t
    have hL2 := hLs.fr hFx rfl rfl
    refine ax_aload_n d_Tu_sortTurns_142 rfl ?_
    refine ax_aload_n d_Tu_sortTurns_143 rfl ?_
    refine ax_cV1 d_Tu_sortTurns_144 v_Tu_notePlaces lk_Tu_69 (hH2.g 0 rfl) (by decide) (Nat.le_of_ble_eq_true rfl) (cm_v (c_Tu_notePlaces hH2 hn hb ho hR2 rfl hL2 hd1 hd2) (fun h3 hp => ?_))
    obtain ⟨⟨p3, hH3, hp3⟩, hL3, hF3⟩ := hp
    refine ax_vret d_Tu_sortTurns_147 rfl ?_
    refine ⟨rfl, ⟨_, _, _, p3, _, _, _, hH3, fun q hq => ?_, fun q hq => ?_, rr, rfl, hrd⟩, ?_, (hFx.wide rfl).tr hF3⟩
    · rw [hp3 q hq, final_places hr hq]
    · rw [← final_places hr hq, ho2 q hq]
    · have e : lastT xs = mk xs.length (fun k => gx xs (((o2 k).toNat + (xs.length - 1)) % xs.length)) := by
        unfold lastT
        refine ext_getD (by rw [mk_len, mk_len]) (fun i hi => ?_)
        rw [mk_len] at hi
        rw [mk_at hi, mk_at hi]
        have h9 := ordT_ok hi
        have : (o2 i).toNat = ordT xs i := by
          have h8 := ho2 (ordT xs i) h9.1
          rw [final_places hr h9.1, h9.2] at h8
          omega
        rw [this]
      rw [e]
      exact hL3
  sorry
