/-! the reference: wrong, get -/
theorem sb_bit : ∀ t : Fin 256, ∀ q : Fin 8, zand (zshr (sb ((t.val : Nat) : Int)) ((q.val : Nat) : Int)) 1 = ((bt ((t.val : Nat) : Int) q.val : Nat) : Int) := by decide +kernel
theorem sb_bit' {t : Int} (h : 0 ≤ t ∧ t < 256) {q : Nat} (hq : q < 8) : zand (zshr (sb t) (q : Int)) 1 = ((bt t q : Nat) : Int) := by
  obtain ⟨n, rfl⟩ := Int.eq_ofNat_of_zero_le h.1
  exact sb_bit ⟨n, by omega⟩ ⟨q, hq⟩
theorem lz_push {v b : Nat} (hv : v < 1000000000000) (hb : b < 2) : lzor (lzshl (v : Int) 1) (b : Int) = ((2 * v + b : Nat) : Int) := by
  rw [show (1 : Int) = ((1 : Nat) : Int) from rfl, lzshl_nat (by decide) (by omega), lzor_nat (by omega) (by omega)]
  have := Nat.two_pow_add_eq_or_of_lt (i := 1) (b := b) (by omega) v
  rw [show v * 2 ^ 1 = 2 ^ 1 * v by omega, ← this]
/-- reading at bit p, no fault so far -/
def MoR (iz : Nat → Int) (ar : Nat → Nat → Int) (T : List Int) (p : Nat) : Prop := iz 26 = T.length ∧ T.length ≤ 3000 ∧ lb (ar 25) T ∧ Bs T ∧ iz 27 = p ∧ p ≤ 8 * T.length ∧ iz 28 = 0
theorem MoR.fr {iz iz1 : Nat → Int} {ar ar1 : Nat → Nat → Int} {T : List Int} {p : Nat} {K K' : List Nat} (k : MoR iz ar T p) (hi : KI K iz iz1) (ha : KA K' ar ar1) (h1 : ([26, 27, 28].all fun a => !K.contains a) = true) (h2 : K'.contains 25 = false) : MoR iz1 ar1 T p := by
  have hm : ∀ a ∈ [26, 27, 28], iz1 a = iz a := fun a h => hi a (by have := List.all_eq_true.mp h1 a h; simpa using this)
  unfold MoR at k ⊢
  rw [hm 26 (by decide), hm 27 (by decide), hm 28 (by decide), ha 25 h2]
  exact k
theorem MoR.go {iz iz1 : Nat → Int} {ar ar1 : Nat → Nat → Int} {T : List Int} {p p1 : Nat} {K K' : List Nat} (k : MoR iz ar T p) (hi : KI K iz iz1) (ha : KA K' ar ar1) (h1 : ([26, 28].all fun a => !K.contains a) = true) (h2 : K'.contains 25 = false) (e : iz1 27 = p1) (hp : p1 ≤ 8 * T.length) : MoR iz1 ar1 T p1 := by
  have hm : ∀ a ∈ [26, 28], iz1 a = iz a := fun a h => hi a (by have := List.all_eq_true.mp h1 a h; simpa using this)
  unfold MoR at k ⊢
  rw [hm 26 (by decide), hm 28 (by decide), ha 25 h2]
  obtain ⟨k1, k2, k3, k4, k5, k6, k7⟩ := k
  exact ⟨k1, k2, k3, k4, e, hp, k7⟩
abbrev RKI : List Nat := [0, 2, 12, 27, 28, 29]
abbrev RKA : List Nat := [1, 3, 4, 5, 10, 11, 13, 16, 17]
/-- a fault is told -/
def RdE (h1 : ax_H) (iz : Nat → Int) (ar : Nat → Nat → Int) (e : RF) : Prop := ∃ iz1 ar1, MoH h1 iz1 ar1 ∧ KI RKI iz iz1 ∧ KA RKA ar ar1 ∧ iz1 28 = e.1 ∧ iz1 29 = e.2 ∧ 1 ≤ e.1 ∧ e.1 ≤ 12
theorem RdE.tr {h1 : ax_H} {iz iz1 : Nat → Int} {ar ar1 : Nat → Nat → Int} {e : RF} {K K' : List Nat} (k : RdE h1 iz1 ar1 e) (hi : KI K iz iz1) (ha : KA K' ar ar1) (g1 : K.all (fun x => RKI.contains x) = true) (g2 : K'.all (fun x => RKA.contains x) = true) : RdE h1 iz ar e := by
  obtain ⟨iz2, ar2, q1, q2, q3, q4⟩ := k
  exact ⟨iz2, ar2, q1, (hi.wide g1).tr q2, (ha.wide g2).tr q3, q4⟩
set_option maxRecDepth 100000 in
theorem c_Mo_wrong {h0 : ax_H} {iz : Nat → Int} {ar : Nat → Nat → Int} {f pl : Int} (hH : MoH h0 iz ar) (h28 : iz 28 = 0) (hf : 1 ≤ f ∧ f ≤ 12) : ax_Cz m_Mo_wrong 0 [.ref 47, .int (iv f), .int (iv pl)] h0 (fun b h1 => b = false ∧ RdE h1 iz ar (f, pl) ∧ Fr MOS h0 h1) := by
  have hF : Fr MOS h0 h0 := Fr.rf
  refine ax_enter [some (.ref 47), some (.int (iv f)), some (.int (iv pl))] rfl (Nat.le_of_ble_eq_true rfl) (by decide) ?_
  refine ax_aload_n d_Mo_wrong_0 rfl ?_
  refine ax_get d_Mo_wrong_1 fg_Mo_194 (by first | assumption | exact hH.g 0 rfl | exact hH.g 1 rfl | exact hH.g 2 rfl | exact hH.g 3 rfl | exact hH.g 4 rfl | exact hH.g 5 rfl | exact hH.g 6 rfl | exact hH.g 7 rfl | exact hH.g 8 rfl | exact hH.g 9 rfl | exact hH.g 10 rfl | exact hH.g 11 rfl | exact hH.g 12 rfl | exact hH.g 13 rfl | exact hH.g 14 rfl | exact hH.g 15 rfl | exact hH.g 16 rfl | exact hH.g 17 rfl | exact hH.g 18 rfl) (by rfl) ?_
  refine az_if_ne 17 d_Mo_wrong_4 (by decide) (by first | exact bz_in _ | omega) (fun hc => ?_) (fun hc => ?_)
  · exfalso
    omega
  · refine ax_aload_n d_Mo_wrong_7 rfl ?_
    refine ax_iload_n d_Mo_wrong_8 rfl ?_
    first | refine ah_put d_Mo_wrong_9 fp_Mo_194 hH hF 0 rfl rfl rfl (by first | rfl | decide) (Nat.le_of_ble_eq_true rfl) (fun h hH hF => ?_) | refine ah_put d_Mo_wrong_9 fp_Mo_194 hH hF 1 rfl rfl rfl (by first | rfl | decide) (Nat.le_of_ble_eq_true rfl) (fun h hH hF => ?_) | refine ah_put d_Mo_wrong_9 fp_Mo_194 hH hF 2 rfl rfl rfl (by first | rfl | decide) (Nat.le_of_ble_eq_true rfl) (fun h hH hF => ?_) | refine ah_put d_Mo_wrong_9 fp_Mo_194 hH hF 3 rfl rfl rfl (by first | rfl | decide) (Nat.le_of_ble_eq_true rfl) (fun h hH hF => ?_) | refine ah_put d_Mo_wrong_9 fp_Mo_194 hH hF 4 rfl rfl rfl (by first | rfl | decide) (Nat.le_of_ble_eq_true rfl) (fun h hH hF => ?_) | refine ah_put d_Mo_wrong_9 fp_Mo_194 hH hF 5 rfl rfl rfl (by first | rfl | decide) (Nat.le_of_ble_eq_true rfl) (fun h hH hF => ?_) | refine ah_put d_Mo_wrong_9 fp_Mo_194 hH hF 6 rfl rfl rfl (by first | rfl | decide) (Nat.le_of_ble_eq_true rfl) (fun h hH hF => ?_) | refine ah_put d_Mo_wrong_9 fp_Mo_194 hH hF 7 rfl rfl rfl (by first | rfl | decide) (Nat.le_of_ble_eq_true rfl) (fun h hH hF => ?_) | refine ah_put d_Mo_wrong_9 fp_Mo_194 hH hF 8 rfl rfl rfl (by first | rfl | decide) (Nat.le_of_ble_eq_true rfl) (fun h hH hF => ?_) | refine ah_put d_Mo_wrong_9 fp_Mo_194 hH hF 9 rfl rfl rfl (by first | rfl | decide) (Nat.le_of_ble_eq_true rfl) (fun h hH hF => ?_) | refine ah_put d_Mo_wrong_9 fp_Mo_194 hH hF 10 rfl rfl rfl (by first | rfl | decide) (Nat.le_of_ble_eq_true rfl) (fun h hH hF => ?_) | refine ah_put d_Mo_wrong_9 fp_Mo_194 hH hF 11 rfl rfl rfl (by first | rfl | decide) (Nat.le_of_ble_eq_true rfl) (fun h hH hF => ?_) | refine ah_put d_Mo_wrong_9 fp_Mo_194 hH hF 12 rfl rfl rfl (by first | rfl | decide) (Nat.le_of_ble_eq_true rfl) (fun h hH hF => ?_) | refine ah_put d_Mo_wrong_9 fp_Mo_194 hH hF 13 rfl rfl rfl (by first | rfl | decide) (Nat.le_of_ble_eq_true rfl) (fun h hH hF => ?_) | refine ah_put d_Mo_wrong_9 fp_Mo_194 hH hF 14 rfl rfl rfl (by first | rfl | decide) (Nat.le_of_ble_eq_true rfl) (fun h hH hF => ?_) | refine ah_put d_Mo_wrong_9 fp_Mo_194 hH hF 15 rfl rfl rfl (by first | rfl | decide) (Nat.le_of_ble_eq_true rfl) (fun h hH hF => ?_) | refine ah_put d_Mo_wrong_9 fp_Mo_194 hH hF 16 rfl rfl rfl (by first | rfl | decide) (Nat.le_of_ble_eq_true rfl) (fun h hH hF => ?_) | refine ah_put d_Mo_wrong_9 fp_Mo_194 hH hF 17 rfl rfl rfl (by first | rfl | decide) (Nat.le_of_ble_eq_true rfl) (fun h hH hF => ?_) | refine ah_put d_Mo_wrong_9 fp_Mo_194 hH hF 18 rfl rfl rfl (by first | rfl | decide) (Nat.le_of_ble_eq_true rfl) (fun h hH hF => ?_)
    refine ax_aload_n d_Mo_wrong_12 rfl ?_
    refine ax_iload_n d_Mo_wrong_13 rfl ?_
    first | refine ah_put d_Mo_wrong_14 fp_Mo_63 hH hF 0 rfl rfl rfl (by first | rfl | decide) (Nat.le_of_ble_eq_true rfl) (fun h hH hF => ?_) | refine ah_put d_Mo_wrong_14 fp_Mo_63 hH hF 1 rfl rfl rfl (by first | rfl | decide) (Nat.le_of_ble_eq_true rfl) (fun h hH hF => ?_) | refine ah_put d_Mo_wrong_14 fp_Mo_63 hH hF 2 rfl rfl rfl (by first | rfl | decide) (Nat.le_of_ble_eq_true rfl) (fun h hH hF => ?_) | refine ah_put d_Mo_wrong_14 fp_Mo_63 hH hF 3 rfl rfl rfl (by first | rfl | decide) (Nat.le_of_ble_eq_true rfl) (fun h hH hF => ?_) | refine ah_put d_Mo_wrong_14 fp_Mo_63 hH hF 4 rfl rfl rfl (by first | rfl | decide) (Nat.le_of_ble_eq_true rfl) (fun h hH hF => ?_) | refine ah_put d_Mo_wrong_14 fp_Mo_63 hH hF 5 rfl rfl rfl (by first | rfl | decide) (Nat.le_of_ble_eq_true rfl) (fun h hH hF => ?_) | refine ah_put d_Mo_wrong_14 fp_Mo_63 hH hF 6 rfl rfl rfl (by first | rfl | decide) (Nat.le_of_ble_eq_true rfl) (fun h hH hF => ?_) | refine ah_put d_Mo_wrong_14 fp_Mo_63 hH hF 7 rfl rfl rfl (by first | rfl | decide) (Nat.le_of_ble_eq_true rfl) (fun h hH hF => ?_) | refine ah_put d_Mo_wrong_14 fp_Mo_63 hH hF 8 rfl rfl rfl (by first | rfl | decide) (Nat.le_of_ble_eq_true rfl) (fun h hH hF => ?_) | refine ah_put d_Mo_wrong_14 fp_Mo_63 hH hF 9 rfl rfl rfl (by first | rfl | decide) (Nat.le_of_ble_eq_true rfl) (fun h hH hF => ?_) | refine ah_put d_Mo_wrong_14 fp_Mo_63 hH hF 10 rfl rfl rfl (by first | rfl | decide) (Nat.le_of_ble_eq_true rfl) (fun h hH hF => ?_) | refine ah_put d_Mo_wrong_14 fp_Mo_63 hH hF 11 rfl rfl rfl (by first | rfl | decide) (Nat.le_of_ble_eq_true rfl) (fun h hH hF => ?_) | refine ah_put d_Mo_wrong_14 fp_Mo_63 hH hF 12 rfl rfl rfl (by first | rfl | decide) (Nat.le_of_ble_eq_true rfl) (fun h hH hF => ?_) | refine ah_put d_Mo_wrong_14 fp_Mo_63 hH hF 13 rfl rfl rfl (by first | rfl | decide) (Nat.le_of_ble_eq_true rfl) (fun h hH hF => ?_) | refine ah_put d_Mo_wrong_14 fp_Mo_63 hH hF 14 rfl rfl rfl (by first | rfl | decide) (Nat.le_of_ble_eq_true rfl) (fun h hH hF => ?_) | refine ah_put d_Mo_wrong_14 fp_Mo_63 hH hF 15 rfl rfl rfl (by first | rfl | decide) (Nat.le_of_ble_eq_true rfl) (fun h hH hF => ?_) | refine ah_put d_Mo_wrong_14 fp_Mo_63 hH hF 16 rfl rfl rfl (by first | rfl | decide) (Nat.le_of_ble_eq_true rfl) (fun h hH hF => ?_) | refine ah_put d_Mo_wrong_14 fp_Mo_63 hH hF 17 rfl rfl rfl (by first | rfl | decide) (Nat.le_of_ble_eq_true rfl) (fun h hH hF => ?_) | refine ah_put d_Mo_wrong_14 fp_Mo_63 hH hF 18 rfl rfl rfl (by first | rfl | decide) (Nat.le_of_ble_eq_true rfl) (fun h hH hF => ?_)
    refine az_iconst d_Mo_wrong_17 ?_
    refine ax_zret d_Mo_wrong_18 rfl (by decide) ?_
    exact ⟨false, rfl, rfl, ⟨up (up iz 28 f) 29 pl, ar, hH, (KI.rf.up 28 _ rfl).up 29 _ rfl, KA.rf, rfl, rfl, hf⟩, hF⟩
set_option maxRecDepth 100000 in
theorem c_Mo_wrong2 {h0 : ax_H} {iz : Nat → Int} {ar : Nat → Nat → Int} {f pl : Int} (hH : MoH h0 iz ar) (h28 : 1 ≤ iz 28 ∧ iz 28 ≤ 12) : ax_Cz m_Mo_wrong 0 [.ref 47, .int (iv f), .int (iv pl)] h0 (fun b h1 => b = false ∧ h1 = h0) := by
  refine ax_enter [some (.ref 47), some (.int (iv f)), some (.int (iv pl))] rfl (Nat.le_of_ble_eq_true rfl) (by decide) ?_
  refine ax_aload_n d_Mo_wrong_0 rfl ?_
  refine ax_get d_Mo_wrong_1 fg_Mo_194 (by first | assumption | exact hH.g 0 rfl | exact hH.g 1 rfl | exact hH.g 2 rfl | exact hH.g 3 rfl | exact hH.g 4 rfl | exact hH.g 5 rfl | exact hH.g 6 rfl | exact hH.g 7 rfl | exact hH.g 8 rfl | exact hH.g 9 rfl | exact hH.g 10 rfl | exact hH.g 11 rfl | exact hH.g 12 rfl | exact hH.g 13 rfl | exact hH.g 14 rfl | exact hH.g 15 rfl | exact hH.g 16 rfl | exact hH.g 17 rfl | exact hH.g 18 rfl) (by rfl) ?_
  refine az_if_ne 17 d_Mo_wrong_4 (by decide) (by first | exact bz_in _ | omega) (fun hc => ?_) (fun hc => ?_)
  · refine az_iconst d_Mo_wrong_17 ?_
    refine ax_zret d_Mo_wrong_18 rfl (by decide) ?_
    exact ⟨false, rfl, rfl, rfl⟩
  · exfalso
    omega
set_option maxRecDepth 100000 in
theorem c_Mo_get2 {h0 : ax_H} {iz : Nat → Int} {ar : Nat → Nat → Int} {n : Int} (hH : MoH h0 iz ar) (h28 : 1 ≤ iz 28 ∧ iz 28 ≤ 12) : ax_Cj m_Mo_get 1 [.ref 47, .int (iv n)] h0 (fun z h1 => z = 0 ∧ h1 = h0) := by
  refine ax_enter [some (.ref 47), some (.int (iv n)), none, none, none] rfl (Nat.le_of_ble_eq_true rfl) (by decide) ?_
  refine ax_aload_n d_Mo_get_0 rfl ?_
  refine ax_get d_Mo_get_1 fg_Mo_194 (by first | assumption | exact hH.g 0 rfl | exact hH.g 1 rfl | exact hH.g 2 rfl | exact hH.g 3 rfl | exact hH.g 4 rfl | exact hH.g 5 rfl | exact hH.g 6 rfl | exact hH.g 7 rfl | exact hH.g 8 rfl | exact hH.g 9 rfl | exact hH.g 10 rfl | exact hH.g 11 rfl | exact hH.g 12 rfl | exact hH.g 13 rfl | exact hH.g 14 rfl | exact hH.g 15 rfl | exact hH.g 16 rfl | exact hH.g 17 rfl | exact hH.g 18 rfl) (by rfl) ?_
  refine az_if_eq 9 d_Mo_get_4 (by decide) (by first | exact bz_in _ | omega) (fun hc => ?_) (fun hc => ?_)
  · exfalso
    omega
  · refine aj_lconst 0 d_Mo_get_7 rfl ?_
    refine ax_lret d_Mo_get_8 rfl ?_
    exact ⟨_, rfl, rfl, rfl⟩
set_option maxRecDepth 100000 in
set_option maxHeartbeats 8000000 in
theorem c_Mo_get {h0 : ax_H} {iz : Nat → Int} {ar : Nat → Nat → Int} {T : List Int} {p n : Nat} (hH : MoH h0 iz ar) (hR : MoR iz ar T p) (hn : n ≤ 32) : ax_Cj m_Mo_get 1 [.ref 47, .int (iv n)] h0 (fun z h1 => (if 8 * T.length < p + n then z = 0 ∧ RdE h1 iz ar (1, T.length) else z = tv T n p ∧ ∃ iz1, MoH h1 iz1 ar ∧ KI [27] iz iz1 ∧ MoR iz1 ar T (p + n)) ∧ Fr MOS h0 h1) := by
  obtain ⟨r1, r2, r3, r4, r5, r6, r7⟩ := id hR
  have hF : Fr MOS h0 h0 := Fr.rf
  refine ax_enter [some (.ref 47), some (.int (iv n)), none, none, none] rfl (Nat.le_of_ble_eq_true rfl) (by decide) ?_
  refine ax_aload_n d_Mo_get_0 rfl ?_
  refine ax_get d_Mo_get_1 fg_Mo_194 (by first | assumption | exact hH.g 0 rfl | exact hH.g 1 rfl | exact hH.g 2 rfl | exact hH.g 3 rfl | exact hH.g 4 rfl | exact hH.g 5 rfl | exact hH.g 6 rfl | exact hH.g 7 rfl | exact hH.g 8 rfl | exact hH.g 9 rfl | exact hH.g 10 rfl | exact hH.g 11 rfl | exact hH.g 12 rfl | exact hH.g 13 rfl | exact hH.g 14 rfl | exact hH.g 15 rfl | exact hH.g 16 rfl | exact hH.g 17 rfl | exact hH.g 18 rfl) (by rfl) ?_
  refine az_if_eq 9 d_Mo_get_4 (by decide) (by first | exact bz_in _ | omega) (fun hc => ?_) (fun hc => ?_)
  · refine ax_aload_n d_Mo_get_9 rfl ?_
    refine ax_get d_Mo_get_10 fg_Mo_197 (by first | assumption | exact hH.g 0 rfl | exact hH.g 1 rfl | exact hH.g 2 rfl | exact hH.g 3 rfl | exact hH.g 4 rfl | exact hH.g 5 rfl | exact hH.g 6 rfl | exact hH.g 7 rfl | exact hH.g 8 rfl | exact hH.g 9 rfl | exact hH.g 10 rfl | exact hH.g 11 rfl | exact hH.g 12 rfl | exact hH.g 13 rfl | exact hH.g 14 rfl | exact hH.g 15 rfl | exact hH.g 16 rfl | exact hH.g 17 rfl | exact hH.g 18 rfl) (by rfl) ?_
    refine ax_iload_n d_Mo_get_13 rfl ?_
    refine az_iadd d_Mo_get_14 ?_
    refine az_bipush _ d_Mo_get_15 (by decide) ?_
    refine ax_aload_n d_Mo_get_17 rfl ?_
    refine ax_get d_Mo_get_18 fg_Mo_191 (by first | assumption | exact hH.g 0 rfl | exact hH.g 1 rfl | exact hH.g 2 rfl | exact hH.g 3 rfl | exact hH.g 4 rfl | exact hH.g 5 rfl | exact hH.g 6 rfl | exact hH.g 7 rfl | exact hH.g 8 rfl | exact hH.g 9 rfl | exact hH.g 10 rfl | exact hH.g 11 rfl | exact hH.g 12 rfl | exact hH.g 13 rfl | exact hH.g 14 rfl | exact hH.g 15 rfl | exact hH.g 16 rfl | exact hH.g 17 rfl | exact hH.g 18 rfl) (by rfl) ?_
    refine az_imul d_Mo_get_21 ?_
    refine az_icmp_le 37 d_Mo_get_22 (by decide) (by omega) (by omega) (fun hlk => ?_) (fun hlk => ?_)
    · have hnl : ¬ 8 * T.length < p + n := by omega
      simp only [if_neg hnl]
      refine aj_lconst 0 d_Mo_get_37 rfl ?_
      refine ax_lstore_n d_Mo_get_38 (by decide) rfl ?_
      refine az_iconst d_Mo_get_39 ?_
      refine ax_istore d_Mo_get_40 (by decide) rfl ?_
      have key : ∀ (f k a : Nat) (iz1 : Nat → Int) (h : ax_H), k + f = n → a < 2 ^ k → tvA T f (p + k) a = tv T n p → MoH h iz1 ar → Fr MOS h0 h → KI [27] iz iz1 → iz1 27 = ((p + k : Nat) : Int) →
          ax_W m_Mo_get 1 42 [some (.ref 47), some (.int (iv n)), some (.long (lz (a : Int))), none, some (.int (iv k))] [] h (fun r0 h1 => ∃ z : Int, r0 = some (.long (lz z)) ∧ (z = tv T n p ∧ ∃ iz1, MoH h1 iz1 ar ∧ KI [27] iz iz1 ∧ MoR iz1 ar T (p + n)) ∧ Fr MOS h0 h1) := by
        intro f
        induction f with
        | zero =>
          intro k a iz1 h he ha ht hH hF ki e27
          have hk : k = n := by omega
          subst hk
          refine ax_iload d_Mo_get_42 rfl ?_
          refine ax_iload_n d_Mo_get_44 rfl ?_
          refine az_icmp_ge 95 d_Mo_get_45 (by decide) (by omega) (by omega) (fun hc => ?_) (fun hc => ?_)
          · refine ax_lload_n d_Mo_get_95 rfl ?_
            refine ax_lret d_Mo_get_96 rfl ?_
            exact ⟨_, rfl, ⟨by rw [← ht]; rfl, iz1, hH, ki, hR.go ki (KA.rf (K := [])) rfl rfl e27 (by omega)⟩, hF⟩
          · exfalso
            omega
        | succ f ih =>
          intro k a iz1 h he ha ht hH hF ki e27
          have hpw : 2 ^ k ≤ 2 ^ 32 := Nat.pow_le_pow_right (by decide) (by omega)
          have hp32 : (2 : Nat) ^ 32 = 4294967296 := by decide
          have ed : iz1 27 / 8 = (((p + k) / 8 : Nat) : Int) := by omega
          have em : (7 : Int) - iz1 27 % 8 = ((7 - (p + k) % 8 : Nat) : Int) := by omega
          have er : ar 25 ((((p + k) / 8 : Nat) : Int).toNat) = sb (gx T ((p + k) / 8)) := by
            rw [show (((p + k) / 8 : Nat) : Int).toNat = (p + k) / 8 by omega]
            exact r3 _ (by omega)
          have hbit := sb_bit' (gx_Bs r4 ((p + k) / 8)) (show 7 - (p + k) % 8 < 8 by omega)
          have htb : bt (gx T ((p + k) / 8)) (7 - (p + k) % 8) = tb T (p + k) := rfl
          rw [htb] at hbit
          have hb2 := tb_lt T (p + k)
          have hps := lz_push (v := a) (b := tb T (p + k)) (by omega) hb2
          refine ax_iload d_Mo_get_42 rfl ?_
          refine ax_iload_n d_Mo_get_44 rfl ?_
          refine az_icmp_ge 95 d_Mo_get_45 (by decide) (by omega) (by omega) (fun hc => ?_) (fun hc => ?_)
          · exfalso
            omega
          · refine ax_lload_n d_Mo_get_48 rfl ?_
            refine az_iconst d_Mo_get_49 ?_
            refine aj_lshl d_Mo_get_50 ?_
            refine ax_aload_n d_Mo_get_51 rfl ?_
            refine ax_get d_Mo_get_52 fg_Mo_60 (by first | assumption | exact hH.g 0 rfl | exact hH.g 1 rfl | exact hH.g 2 rfl | exact hH.g 3 rfl | exact hH.g 4 rfl | exact hH.g 5 rfl | exact hH.g 6 rfl | exact hH.g 7 rfl | exact hH.g 8 rfl | exact hH.g 9 rfl | exact hH.g 10 rfl | exact hH.g 11 rfl | exact hH.g 12 rfl | exact hH.g 13 rfl | exact hH.g 14 rfl | exact hH.g 15 rfl | exact hH.g 16 rfl | exact hH.g 17 rfl | exact hH.g 18 rfl) (by rfl) ?_
            refine ax_aload_n d_Mo_get_55 rfl ?_
            refine ax_get d_Mo_get_56 fg_Mo_197 (by first | assumption | exact hH.g 0 rfl | exact hH.g 1 rfl | exact hH.g 2 rfl | exact hH.g 3 rfl | exact hH.g 4 rfl | exact hH.g 5 rfl | exact hH.g 6 rfl | exact hH.g 7 rfl | exact hH.g 8 rfl | exact hH.g 9 rfl | exact hH.g 10 rfl | exact hH.g 11 rfl | exact hH.g 12 rfl | exact hH.g 13 rfl | exact hH.g 14 rfl | exact hH.g 15 rfl | exact hH.g 16 rfl | exact hH.g 17 rfl | exact hH.g 18 rfl) (by rfl) ?_
            refine az_bipush _ d_Mo_get_59 (by decide) ?_
            refine az_idiv d_Mo_get_61 (by omega) (by omega) ?_
            rw [ed]
            refine aj_bald d_Mo_get_62 (by first | assumption | exact hH.g 0 rfl | exact hH.g 1 rfl | exact hH.g 2 rfl | exact hH.g 3 rfl | exact hH.g 4 rfl | exact hH.g 5 rfl | exact hH.g 6 rfl | exact hH.g 7 rfl | exact hH.g 8 rfl | exact hH.g 9 rfl | exact hH.g 10 rfl | exact hH.g 11 rfl | exact hH.g 12 rfl | exact hH.g 13 rfl | exact hH.g 14 rfl | exact hH.g 15 rfl | exact hH.g 16 rfl | exact hH.g 17 rfl | exact hH.g 18 rfl) (by omega) (by omega) (by omega) ?_
            rw [er]
            refine az_bipush _ d_Mo_get_63 (by decide) ?_
            refine ax_aload_n d_Mo_get_65 rfl ?_
            refine ax_get d_Mo_get_66 fg_Mo_197 (by first | assumption | exact hH.g 0 rfl | exact hH.g 1 rfl | exact hH.g 2 rfl | exact hH.g 3 rfl | exact hH.g 4 rfl | exact hH.g 5 rfl | exact hH.g 6 rfl | exact hH.g 7 rfl | exact hH.g 8 rfl | exact hH.g 9 rfl | exact hH.g 10 rfl | exact hH.g 11 rfl | exact hH.g 12 rfl | exact hH.g 13 rfl | exact hH.g 14 rfl | exact hH.g 15 rfl | exact hH.g 16 rfl | exact hH.g 17 rfl | exact hH.g 18 rfl) (by rfl) ?_
            refine az_bipush _ d_Mo_get_69 (by decide) ?_
            refine az_irem d_Mo_get_71 (by omega) (by omega) ?_
            refine az_isub d_Mo_get_72 ?_
            rw [em]
            refine az_ishr d_Mo_get_73 ?_
            refine az_iconst d_Mo_get_74 ?_
            refine az_iand d_Mo_get_75 ?_
            rw [hbit]
            refine aj_i2l d_Mo_get_76 (by omega) ?_
            refine aj_lor d_Mo_get_77 ?_
            rw [hps]
            refine ax_lstore_n d_Mo_get_78 (by decide) rfl ?_
            refine ax_aload_n d_Mo_get_79 rfl ?_
            refine ax_dup d_Mo_get_80 rfl ?_
            refine ax_get d_Mo_get_81 fg_Mo_197 (by first | assumption | exact hH.g 0 rfl | exact hH.g 1 rfl | exact hH.g 2 rfl | exact hH.g 3 rfl | exact hH.g 4 rfl | exact hH.g 5 rfl | exact hH.g 6 rfl | exact hH.g 7 rfl | exact hH.g 8 rfl | exact hH.g 9 rfl | exact hH.g 10 rfl | exact hH.g 11 rfl | exact hH.g 12 rfl | exact hH.g 13 rfl | exact hH.g 14 rfl | exact hH.g 15 rfl | exact hH.g 16 rfl | exact hH.g 17 rfl | exact hH.g 18 rfl) (by rfl) ?_
            refine az_iconst d_Mo_get_84 ?_
            refine az_iadd d_Mo_get_85 ?_
            first | refine ah_put d_Mo_get_86 fp_Mo_197 hH hF 0 rfl rfl rfl (by first | rfl | decide) (Nat.le_of_ble_eq_true rfl) (fun h hH hF => ?_) | refine ah_put d_Mo_get_86 fp_Mo_197 hH hF 1 rfl rfl rfl (by first | rfl | decide) (Nat.le_of_ble_eq_true rfl) (fun h hH hF => ?_) | refine ah_put d_Mo_get_86 fp_Mo_197 hH hF 2 rfl rfl rfl (by first | rfl | decide) (Nat.le_of_ble_eq_true rfl) (fun h hH hF => ?_) | refine ah_put d_Mo_get_86 fp_Mo_197 hH hF 3 rfl rfl rfl (by first | rfl | decide) (Nat.le_of_ble_eq_true rfl) (fun h hH hF => ?_) | refine ah_put d_Mo_get_86 fp_Mo_197 hH hF 4 rfl rfl rfl (by first | rfl | decide) (Nat.le_of_ble_eq_true rfl) (fun h hH hF => ?_) | refine ah_put d_Mo_get_86 fp_Mo_197 hH hF 5 rfl rfl rfl (by first | rfl | decide) (Nat.le_of_ble_eq_true rfl) (fun h hH hF => ?_) | refine ah_put d_Mo_get_86 fp_Mo_197 hH hF 6 rfl rfl rfl (by first | rfl | decide) (Nat.le_of_ble_eq_true rfl) (fun h hH hF => ?_) | refine ah_put d_Mo_get_86 fp_Mo_197 hH hF 7 rfl rfl rfl (by first | rfl | decide) (Nat.le_of_ble_eq_true rfl) (fun h hH hF => ?_) | refine ah_put d_Mo_get_86 fp_Mo_197 hH hF 8 rfl rfl rfl (by first | rfl | decide) (Nat.le_of_ble_eq_true rfl) (fun h hH hF => ?_) | refine ah_put d_Mo_get_86 fp_Mo_197 hH hF 9 rfl rfl rfl (by first | rfl | decide) (Nat.le_of_ble_eq_true rfl) (fun h hH hF => ?_) | refine ah_put d_Mo_get_86 fp_Mo_197 hH hF 10 rfl rfl rfl (by first | rfl | decide) (Nat.le_of_ble_eq_true rfl) (fun h hH hF => ?_) | refine ah_put d_Mo_get_86 fp_Mo_197 hH hF 11 rfl rfl rfl (by first | rfl | decide) (Nat.le_of_ble_eq_true rfl) (fun h hH hF => ?_) | refine ah_put d_Mo_get_86 fp_Mo_197 hH hF 12 rfl rfl rfl (by first | rfl | decide) (Nat.le_of_ble_eq_true rfl) (fun h hH hF => ?_) | refine ah_put d_Mo_get_86 fp_Mo_197 hH hF 13 rfl rfl rfl (by first | rfl | decide) (Nat.le_of_ble_eq_true rfl) (fun h hH hF => ?_) | refine ah_put d_Mo_get_86 fp_Mo_197 hH hF 14 rfl rfl rfl (by first | rfl | decide) (Nat.le_of_ble_eq_true rfl) (fun h hH hF => ?_) | refine ah_put d_Mo_get_86 fp_Mo_197 hH hF 15 rfl rfl rfl (by first | rfl | decide) (Nat.le_of_ble_eq_true rfl) (fun h hH hF => ?_) | refine ah_put d_Mo_get_86 fp_Mo_197 hH hF 16 rfl rfl rfl (by first | rfl | decide) (Nat.le_of_ble_eq_true rfl) (fun h hH hF => ?_) | refine ah_put d_Mo_get_86 fp_Mo_197 hH hF 17 rfl rfl rfl (by first | rfl | decide) (Nat.le_of_ble_eq_true rfl) (fun h hH hF => ?_) | refine ah_put d_Mo_get_86 fp_Mo_197 hH hF 18 rfl rfl rfl (by first | rfl | decide) (Nat.le_of_ble_eq_true rfl) (fun h hH hF => ?_)
            refine az_iinc d_Mo_get_89 rfl (by decide) rfl ?_
            refine ax_goto 42 d_Mo_get_92 (by decide) ?_
            refine ih (k + 1) (2 * a + tb T (p + k)) (up iz1 27 (iz1 27 + 1)) h (by omega) (by rw [Nat.pow_succ]; omega) ?_ hH hF (ki.up 27 _ rfl) (by show iz1 27 + 1 = _; omega)
            rw [← ht]
            rfl
      exact key n 0 0 iz h0 (by omega) (by decide) rfl hH hF KI.rf (by rw [r5]; rfl)
    · have hyl : 8 * T.length < p + n := by omega
      simp only [if_pos hyl]
      refine ax_aload_n d_Mo_get_25 rfl ?_
      refine az_iconst d_Mo_get_26 ?_
      refine ax_aload_n d_Mo_get_27 rfl ?_
      refine ax_get d_Mo_get_28 fg_Mo_191 (by first | assumption | exact hH.g 0 rfl | exact hH.g 1 rfl | exact hH.g 2 rfl | exact hH.g 3 rfl | exact hH.g 4 rfl | exact hH.g 5 rfl | exact hH.g 6 rfl | exact hH.g 7 rfl | exact hH.g 8 rfl | exact hH.g 9 rfl | exact hH.g 10 rfl | exact hH.g 11 rfl | exact hH.g 12 rfl | exact hH.g 13 rfl | exact hH.g 14 rfl | exact hH.g 15 rfl | exact hH.g 16 rfl | exact hH.g 17 rfl | exact hH.g 18 rfl) (by rfl) ?_
      rw [r1]
      refine ax_cV2 d_Mo_get_31 v_Mo_wrong lk_Mo_200 (by first | assumption | exact hH.g 0 rfl | exact hH.g 1 rfl | exact hH.g 2 rfl | exact hH.g 3 rfl | exact hH.g 4 rfl | exact hH.g 5 rfl | exact hH.g 6 rfl | exact hH.g 7 rfl | exact hH.g 8 rfl | exact hH.g 9 rfl | exact hH.g 10 rfl | exact hH.g 11 rfl | exact hH.g 12 rfl | exact hH.g 13 rfl | exact hH.g 14 rfl | exact hH.g 15 rfl | exact hH.g 16 rfl | exact hH.g 17 rfl | exact hH.g 18 rfl) (by decide) (Nat.le_of_ble_eq_true rfl) (cm_z (c_Mo_wrong hH r7 (f := 1) (pl := (T.length : Int)) (by omega)) (fun b h1 hq => ?_))
      obtain ⟨rfl, hE, hF1⟩ := hq
      refine ax_pop d_Mo_get_34 rfl ?_
      refine aj_lconst 0 d_Mo_get_35 rfl ?_
      refine ax_lret d_Mo_get_36 rfl ?_
      exact ⟨_, rfl, ⟨rfl, hE⟩, hF1⟩
  · exfalso
    omega
