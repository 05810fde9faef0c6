/-! the reference: its cells, frames of its fields -/
def ax_Cj (N : ax_M) (d : Nat) (av : List Value) (h : ax_H) (P : Int → ax_H → Prop) : Prop := ax_Cl N d av h (fun r h1 => ∃ z : Int, r = some (.long (lz z)) ∧ P z h1)
theorem cm_j {M N : ax_M} {d d' pc : Nat} {lv : ax_L} {st av : List Value} {h : ax_H} {Q : Option Value → ax_H → Prop} {P : Int → ax_H → Prop} (k : ax_Cj N d' av h P) (f : ∀ (z : Int) (h1 : ax_H), P z h1 → ax_W M d pc lv (.long (lz z) :: st) h1 Q) : ax_Cl N d' av h (fun r h1 => ax_W M d pc lv (r.toList ++ st) h1 Q) :=
  ax_Cl.mono k (fun r h1 hp => by obtain ⟨z, rfl, hp⟩ := hp; exact f z h1 hp)
abbrev MoOb (iz : Nat → Int) : ax_C := ob 11 [.int (iv (iz 0)), .ref 48, .int (iv (iz 2)), .ref 49, .ref 50, .ref 51, .int (iv (iz 6)), .ref 52, .int (iv (iz 8)), .int (iv (iz 9)), .ref 53, .ref 54, .int (iv (iz 12)), .ref 55, .int (iv (iz 14)), .ref 56, .ref 57, .ref 58, .ref 59, .ref 60, .ref 61, .ref 62, .ref 63, .int (iv (iz 23)), .int (iv (iz 24)), .ref 64, .int (iv (iz 26)), .int (iv (iz 27)), .int (iv (iz 28)), .int (iv (iz 29)), .ref 65]
abbrev MoL (iz : Nat → Int) (ar : Nat → Nat → Int) : List (Nat × ax_C) := [(47, MoOb iz), (48, ia 600 (ar 1)), (49, ia 900 (ar 3)), (50, ia 900 (ar 4)), (51, ia 900 (ar 5)), (52, ia 600 (ar 7)), (53, ia 900 (ar 10)), (54, ia 900 (ar 11)), (55, ia 256 (ar 13)), (56, ia 902 (ar 15)), (57, ia 258 (ar 16)), (58, ia 258 (ar 17)), (59, ja 515 (ar 18)), (60, ia 515 (ar 19)), (61, ia 515 (ar 20)), (62, ja 258 (ar 21)), (63, ba 3000 (ar 22)), (64, ba 3000 (ar 25)), (65, ia 600 (ar 30))]
abbrev MoH (h : ax_H) (iz : Nat → Int) (ar : Nat → Nat → Int) : Prop := Hs h (MoL iz ar)
abbrev MOS : List Nat := [47, 48, 49, 50, 51, 52, 53, 54, 55, 56, 57, 58, 59, 60, 61, 62, 63, 64, 65]
def upA (ar : Nat → Nat → Int) (k : Nat) (g : Nat → Int) : Nat → Nat → Int := fun j => if j = k then g else ar j
def KI (K : List Nat) (f g : Nat → Int) : Prop := ∀ j : Nat, K.contains j = false → g j = f j
theorem KI.rf {K : List Nat} {f : Nat → Int} : KI K f f := fun _ _ => rfl
theorem KI.tr {K : List Nat} {f g e : Nat → Int} (h1 : KI K f g) (h2 : KI K g e) : KI K f e := fun j hj => (h2 j hj).trans (h1 j hj)
theorem KI.up {K : List Nat} {f g : Nat → Int} (h : KI K f g) (k : Nat) (v : Int) (hk : K.contains k = true) : KI K f (up g k v) := by
  intro j hj
  have : j ≠ k := fun q => by subst q; rw [hj] at hk; cases hk
  rw [up_ne this]
  exact h j hj
theorem KI.wide {K K' : List Nat} {f g : Nat → Int} (h : KI K f g) (hs : K.all (fun x => K'.contains x) = true) : KI K' f g := by
  intro j hj
  apply h j
  cases hc : K.contains j with
  | false => rfl
  | true =>
    have h3 := List.all_eq_true.mp hs j (List.contains_iff_mem.mp hc)
    rw [hj] at h3
    cases h3
def KA (K : List Nat) (f g : Nat → Nat → Int) : Prop := ∀ j : Nat, K.contains j = false → g j = f j
theorem KA.rf {K : List Nat} {f : Nat → Nat → Int} : KA K f f := fun _ _ => rfl
theorem KA.tr {K : List Nat} {f g e : Nat → Nat → Int} (h1 : KA K f g) (h2 : KA K g e) : KA K f e := fun j hj => (h2 j hj).trans (h1 j hj)
theorem KA.up {K : List Nat} {f g : Nat → Nat → Int} (h : KA K f g) (k : Nat) (v : Nat → Int) (hk : K.contains k = true) : KA K f (upA g k v) := by
  intro j hj
  have : j ≠ k := fun q => by subst q; rw [hj] at hk; cases hk
  show (if j = k then v else g j) = f j
  rw [if_neg this]
  exact h j hj
theorem KA.wide {K K' : List Nat} {f g : Nat → Nat → Int} (h : KA K f g) (hs : K.all (fun x => K'.contains x) = true) : KA K' f g := by
  intro j hj
  apply h j
  cases hc : K.contains j with
  | false => rfl
  | true =>
    have h3 := List.all_eq_true.mp hs j (List.contains_iff_mem.mp hc)
    rw [hj] at h3
    cases h3
set_option maxRecDepth 100000 in
theorem c_Mo_isIn {h0 : ax_H} {v a b : Int} (hv : -9000000000000000000 ≤ v ∧ v < 9000000000000000000) (ha : -9000000000000000000 ≤ a ∧ a < 9000000000000000000) (hb : -9000000000000000000 ≤ b ∧ b < 9000000000000000000) : ax_Cz m_Mo_isIn 0 [.long (lz v), .long (lz a), .long (lz b)] h0 (fun z h1 => h1 = h0 ∧ z = decide (a ≤ v ∧ v ≤ b)) := by
  have s1 := cmp3_sp v a
  have s2 := cmp3_sp v b
  refine ax_enter [some (.long (lz v)), none, some (.long (lz a)), none, some (.long (lz b)), none] rfl (Nat.le_of_ble_eq_true rfl) (by decide) ?_
  refine ax_lload_n d_Mo_isIn_0 rfl ?_
  refine ax_lload_n d_Mo_isIn_1 rfl ?_
  refine aj_lcmp d_Mo_isIn_2 (by omega) (by omega) ?_
  refine az_if_lt 17 d_Mo_isIn_3 (by decide) (by first | exact bz_in _ | omega) (fun hc => ?_) (fun hc => ?_)
  · refine az_iconst d_Mo_isIn_17 ?_
    refine ax_zret d_Mo_isIn_18 rfl (by decide) ?_
    refine ⟨false, rfl, rfl, ?_⟩
    simp; omega
  · refine ax_lload_n d_Mo_isIn_6 rfl ?_
    refine ax_lload d_Mo_isIn_7 rfl ?_
    refine aj_lcmp d_Mo_isIn_9 (by omega) (by omega) ?_
    refine az_if_gt 17 d_Mo_isIn_10 (by decide) (by first | exact bz_in _ | omega) (fun hc => ?_) (fun hc => ?_)
    · refine az_iconst d_Mo_isIn_17 ?_
      refine ax_zret d_Mo_isIn_18 rfl (by decide) ?_
      refine ⟨false, rfl, rfl, ?_⟩
      simp; omega
    · refine az_iconst d_Mo_isIn_13 ?_
      refine ax_goto 18 d_Mo_isIn_14 (by decide) ?_
      refine ax_zret d_Mo_isIn_18 rfl (by decide) ?_
      refine ⟨true, rfl, rfl, ?_⟩
      simp; omega
theorem la_take_succ {g : Nat → Int} {l : List Int} {n : Nat} (h : la g l) (hn : l.length = n) (b : Int) : la (up g n b) (l ++ [b]) := by
  subst hn
  exact la_snoc h b
set_option maxRecDepth 100000 in
set_option maxHeartbeats 4000000 in
theorem c_Mo_takeBlock {h0 : ax_H} {iz : Nat → Int} {ar : Nat → Nat → Int} {xs : List Int} (hH : MoH h0 iz ar) (hm : iz 0 = xs.length) (hx : xs.length ≤ 600) (hb : la (ar 1) xs) : ax_Cv m_Mo_takeBlock 0 [.ref 47] h0 (fun h1 => (∃ iz1 ar1, MoH h1 iz1 ar1 ∧ KI [2] iz iz1 ∧ KA [3] ar ar1 ∧ iz1 2 = xs.length ∧ la (ar1 3) xs) ∧ Fr MOS h0 h1) := by
  have hF : Fr MOS h0 h0 := Fr.rf
  refine ax_enter [some (.ref 47), none] rfl (Nat.le_of_ble_eq_true rfl) (by decide) ?_
  refine ax_aload_n d_Mo_takeBlock_0 rfl ?_
  refine ax_aload_n d_Mo_takeBlock_1 rfl ?_
  refine ax_get d_Mo_takeBlock_2 fg_Mo_76 (by first | assumption | exact hH.g 0 rfl | exact hH.g 1 rfl | exact hH.g 2 rfl | exact hH.g 3 rfl | exact hH.g 4 rfl | exact hH.g 5 rfl | exact hH.g 6 rfl | exact hH.g 7 rfl | exact hH.g 8 rfl | exact hH.g 9 rfl | exact hH.g 10 rfl | exact hH.g 11 rfl | exact hH.g 12 rfl | exact hH.g 13 rfl | exact hH.g 14 rfl | exact hH.g 15 rfl | exact hH.g 16 rfl | exact hH.g 17 rfl | exact hH.g 18 rfl) (by rfl) ?_
  first | refine ah_put d_Mo_takeBlock_5 fp_Mo_87 hH hF 0 rfl rfl rfl (by first | rfl | decide) (Nat.le_of_ble_eq_true rfl) (fun h hH hF => ?_) | refine ah_put d_Mo_takeBlock_5 fp_Mo_87 hH hF 1 rfl rfl rfl (by first | rfl | decide) (Nat.le_of_ble_eq_true rfl) (fun h hH hF => ?_) | refine ah_put d_Mo_takeBlock_5 fp_Mo_87 hH hF 2 rfl rfl rfl (by first | rfl | decide) (Nat.le_of_ble_eq_true rfl) (fun h hH hF => ?_) | refine ah_put d_Mo_takeBlock_5 fp_Mo_87 hH hF 3 rfl rfl rfl (by first | rfl | decide) (Nat.le_of_ble_eq_true rfl) (fun h hH hF => ?_) | refine ah_put d_Mo_takeBlock_5 fp_Mo_87 hH hF 4 rfl rfl rfl (by first | rfl | decide) (Nat.le_of_ble_eq_true rfl) (fun h hH hF => ?_) | refine ah_put d_Mo_takeBlock_5 fp_Mo_87 hH hF 5 rfl rfl rfl (by first | rfl | decide) (Nat.le_of_ble_eq_true rfl) (fun h hH hF => ?_) | refine ah_put d_Mo_takeBlock_5 fp_Mo_87 hH hF 6 rfl rfl rfl (by first | rfl | decide) (Nat.le_of_ble_eq_true rfl) (fun h hH hF => ?_) | refine ah_put d_Mo_takeBlock_5 fp_Mo_87 hH hF 7 rfl rfl rfl (by first | rfl | decide) (Nat.le_of_ble_eq_true rfl) (fun h hH hF => ?_) | refine ah_put d_Mo_takeBlock_5 fp_Mo_87 hH hF 8 rfl rfl rfl (by first | rfl | decide) (Nat.le_of_ble_eq_true rfl) (fun h hH hF => ?_) | refine ah_put d_Mo_takeBlock_5 fp_Mo_87 hH hF 9 rfl rfl rfl (by first | rfl | decide) (Nat.le_of_ble_eq_true rfl) (fun h hH hF => ?_) | refine ah_put d_Mo_takeBlock_5 fp_Mo_87 hH hF 10 rfl rfl rfl (by first | rfl | decide) (Nat.le_of_ble_eq_true rfl) (fun h hH hF => ?_) | refine ah_put d_Mo_takeBlock_5 fp_Mo_87 hH hF 11 rfl rfl rfl (by first | rfl | decide) (Nat.le_of_ble_eq_true rfl) (fun h hH hF => ?_) | refine ah_put d_Mo_takeBlock_5 fp_Mo_87 hH hF 12 rfl rfl rfl (by first | rfl | decide) (Nat.le_of_ble_eq_true rfl) (fun h hH hF => ?_) | refine ah_put d_Mo_takeBlock_5 fp_Mo_87 hH hF 13 rfl rfl rfl (by first | rfl | decide) (Nat.le_of_ble_eq_true rfl) (fun h hH hF => ?_) | refine ah_put d_Mo_takeBlock_5 fp_Mo_87 hH hF 14 rfl rfl rfl (by first | rfl | decide) (Nat.le_of_ble_eq_true rfl) (fun h hH hF => ?_) | refine ah_put d_Mo_takeBlock_5 fp_Mo_87 hH hF 15 rfl rfl rfl (by first | rfl | decide) (Nat.le_of_ble_eq_true rfl) (fun h hH hF => ?_) | refine ah_put d_Mo_takeBlock_5 fp_Mo_87 hH hF 16 rfl rfl rfl (by first | rfl | decide) (Nat.le_of_ble_eq_true rfl) (fun h hH hF => ?_) | refine ah_put d_Mo_takeBlock_5 fp_Mo_87 hH hF 17 rfl rfl rfl (by first | rfl | decide) (Nat.le_of_ble_eq_true rfl) (fun h hH hF => ?_) | refine ah_put d_Mo_takeBlock_5 fp_Mo_87 hH hF 18 rfl rfl rfl (by first | rfl | decide) (Nat.le_of_ble_eq_true rfl) (fun h hH hF => ?_)
  refine az_iconst d_Mo_takeBlock_8 ?_
  refine ax_istore_n d_Mo_takeBlock_9 (by decide) rfl ?_
  have key : ∀ (f i : Nat) (iz1 : Nat → Int) (ar1 : Nat → Nat → Int) (h : ax_H), i + f = xs.length → MoH h iz1 ar1 → Fr MOS h0 h → KI [2] iz iz1 → KA [3] ar ar1 → iz1 2 = xs.length → la (ar1 3) (xs.take i) →
      ax_W m_Mo_takeBlock 0 10 [some (.ref 47), some (.int (iv i))] [] h (fun r0 h1 => r0 = none ∧ (∃ iz1 ar1, MoH h1 iz1 ar1 ∧ KI [2] iz iz1 ∧ KA [3] ar ar1 ∧ iz1 2 = xs.length ∧ la (ar1 3) xs) ∧ Fr MOS h0 h1) := by
    intro f
    induction f with
    | zero =>
      intro i iz1 ar1 h he hH hF hi ha h2 hl
      have e0 := hi 0 rfl
      refine ax_iload_n d_Mo_takeBlock_10 rfl ?_
      refine ax_aload_n d_Mo_takeBlock_11 rfl ?_
      refine ax_get d_Mo_takeBlock_12 fg_Mo_76 (by first | assumption | exact hH.g 0 rfl | exact hH.g 1 rfl | exact hH.g 2 rfl | exact hH.g 3 rfl | exact hH.g 4 rfl | exact hH.g 5 rfl | exact hH.g 6 rfl | exact hH.g 7 rfl | exact hH.g 8 rfl | exact hH.g 9 rfl | exact hH.g 10 rfl | exact hH.g 11 rfl | exact hH.g 12 rfl | exact hH.g 13 rfl | exact hH.g 14 rfl | exact hH.g 15 rfl | exact hH.g 16 rfl | exact hH.g 17 rfl | exact hH.g 18 rfl) (by rfl) ?_
      refine az_icmp_ge 36 d_Mo_takeBlock_15 (by decide) (by omega) (by omega) (fun hc => ?_) (fun hc => ?_)
      · refine ax_vret d_Mo_takeBlock_36 rfl ?_
        rw [List.take_of_length_le (by omega)] at hl
        exact ⟨rfl, ⟨iz1, ar1, hH, hi, ha, h2, hl⟩, hF⟩
      · exfalso
        omega
    | succ f ih =>
      intro i iz1 ar1 h he hH hF hi ha h2 hl
      have e0 := hi 0 rfl
      have e1 := ha 1 rfl
      refine ax_iload_n d_Mo_takeBlock_10 rfl ?_
      refine ax_aload_n d_Mo_takeBlock_11 rfl ?_
      refine ax_get d_Mo_takeBlock_12 fg_Mo_76 (by first | assumption | exact hH.g 0 rfl | exact hH.g 1 rfl | exact hH.g 2 rfl | exact hH.g 3 rfl | exact hH.g 4 rfl | exact hH.g 5 rfl | exact hH.g 6 rfl | exact hH.g 7 rfl | exact hH.g 8 rfl | exact hH.g 9 rfl | exact hH.g 10 rfl | exact hH.g 11 rfl | exact hH.g 12 rfl | exact hH.g 13 rfl | exact hH.g 14 rfl | exact hH.g 15 rfl | exact hH.g 16 rfl | exact hH.g 17 rfl | exact hH.g 18 rfl) (by rfl) ?_
      refine az_icmp_ge 36 d_Mo_takeBlock_15 (by decide) (by omega) (by omega) (fun hc => ?_) (fun hc => ?_)
      · exfalso
        omega
      · refine ax_aload_n d_Mo_takeBlock_18 rfl ?_
        refine ax_get d_Mo_takeBlock_19 fg_Mo_13 (by first | assumption | exact hH.g 0 rfl | exact hH.g 1 rfl | exact hH.g 2 rfl | exact hH.g 3 rfl | exact hH.g 4 rfl | exact hH.g 5 rfl | exact hH.g 6 rfl | exact hH.g 7 rfl | exact hH.g 8 rfl | exact hH.g 9 rfl | exact hH.g 10 rfl | exact hH.g 11 rfl | exact hH.g 12 rfl | exact hH.g 13 rfl | exact hH.g 14 rfl | exact hH.g 15 rfl | exact hH.g 16 rfl | exact hH.g 17 rfl | exact hH.g 18 rfl) (by rfl) ?_
        refine ax_iload_n d_Mo_takeBlock_22 rfl ?_
        refine ax_aload_n d_Mo_takeBlock_23 rfl ?_
        refine ax_get d_Mo_takeBlock_24 fg_Mo_7 (by first | assumption | exact hH.g 0 rfl | exact hH.g 1 rfl | exact hH.g 2 rfl | exact hH.g 3 rfl | exact hH.g 4 rfl | exact hH.g 5 rfl | exact hH.g 6 rfl | exact hH.g 7 rfl | exact hH.g 8 rfl | exact hH.g 9 rfl | exact hH.g 10 rfl | exact hH.g 11 rfl | exact hH.g 12 rfl | exact hH.g 13 rfl | exact hH.g 14 rfl | exact hH.g 15 rfl | exact hH.g 16 rfl | exact hH.g 17 rfl | exact hH.g 18 rfl) (by rfl) ?_
        refine ax_iload_n d_Mo_takeBlock_27 rfl ?_
        refine az_iald d_Mo_takeBlock_28 (by first | assumption | exact hH.g 0 rfl | exact hH.g 1 rfl | exact hH.g 2 rfl | exact hH.g 3 rfl | exact hH.g 4 rfl | exact hH.g 5 rfl | exact hH.g 6 rfl | exact hH.g 7 rfl | exact hH.g 8 rfl | exact hH.g 9 rfl | exact hH.g 10 rfl | exact hH.g 11 rfl | exact hH.g 12 rfl | exact hH.g 13 rfl | exact hH.g 14 rfl | exact hH.g 15 rfl | exact hH.g 16 rfl | exact hH.g 17 rfl | exact hH.g 18 rfl) (by omega) (by omega) (by omega) ?_
        first | refine ah_iast d_Mo_takeBlock_29 hH hF 0 rfl rfl (by omega) (by omega) (by omega) (by omega) (fun h hH hF => ?_) | refine ah_iast d_Mo_takeBlock_29 hH hF 1 rfl rfl (by omega) (by omega) (by omega) (by omega) (fun h hH hF => ?_) | refine ah_iast d_Mo_takeBlock_29 hH hF 2 rfl rfl (by omega) (by omega) (by omega) (by omega) (fun h hH hF => ?_) | refine ah_iast d_Mo_takeBlock_29 hH hF 3 rfl rfl (by omega) (by omega) (by omega) (by omega) (fun h hH hF => ?_) | refine ah_iast d_Mo_takeBlock_29 hH hF 4 rfl rfl (by omega) (by omega) (by omega) (by omega) (fun h hH hF => ?_) | refine ah_iast d_Mo_takeBlock_29 hH hF 5 rfl rfl (by omega) (by omega) (by omega) (by omega) (fun h hH hF => ?_) | refine ah_iast d_Mo_takeBlock_29 hH hF 6 rfl rfl (by omega) (by omega) (by omega) (by omega) (fun h hH hF => ?_) | refine ah_iast d_Mo_takeBlock_29 hH hF 7 rfl rfl (by omega) (by omega) (by omega) (by omega) (fun h hH hF => ?_) | refine ah_iast d_Mo_takeBlock_29 hH hF 8 rfl rfl (by omega) (by omega) (by omega) (by omega) (fun h hH hF => ?_) | refine ah_iast d_Mo_takeBlock_29 hH hF 9 rfl rfl (by omega) (by omega) (by omega) (by omega) (fun h hH hF => ?_) | refine ah_iast d_Mo_takeBlock_29 hH hF 10 rfl rfl (by omega) (by omega) (by omega) (by omega) (fun h hH hF => ?_) | refine ah_iast d_Mo_takeBlock_29 hH hF 11 rfl rfl (by omega) (by omega) (by omega) (by omega) (fun h hH hF => ?_) | refine ah_iast d_Mo_takeBlock_29 hH hF 12 rfl rfl (by omega) (by omega) (by omega) (by omega) (fun h hH hF => ?_) | refine ah_iast d_Mo_takeBlock_29 hH hF 13 rfl rfl (by omega) (by omega) (by omega) (by omega) (fun h hH hF => ?_) | refine ah_iast d_Mo_takeBlock_29 hH hF 14 rfl rfl (by omega) (by omega) (by omega) (by omega) (fun h hH hF => ?_) | refine ah_iast d_Mo_takeBlock_29 hH hF 15 rfl rfl (by omega) (by omega) (by omega) (by omega) (fun h hH hF => ?_) | refine ah_iast d_Mo_takeBlock_29 hH hF 16 rfl rfl (by omega) (by omega) (by omega) (by omega) (fun h hH hF => ?_) | refine ah_iast d_Mo_takeBlock_29 hH hF 17 rfl rfl (by omega) (by omega) (by omega) (by omega) (fun h hH hF => ?_) | refine ah_iast d_Mo_takeBlock_29 hH hF 18 rfl rfl (by omega) (by omega) (by omega) (by omega) (fun h hH hF => ?_)
        refine az_iinc d_Mo_takeBlock_30 rfl (by decide) rfl ?_
        refine ax_goto 10 d_Mo_takeBlock_33 (by decide) ?_
        refine ih (i + 1) iz1 (upA ar1 3 _) h (by omega) hH hF hi (ha.up 3 _ rfl) h2 ?_
        have ex : ar1 1 i = xs.getD i 0 := by rw [e1]; exact hb i (by omega)
        rw [← take_succ_getD xs (by omega)]
        have := la_take_succ hl (n := i) (by rw [List.length_take]; omega) (xs.getD i 0)
        show la (up (ar1 3) i (ar1 1 i)) _
        rw [ex]
        exact this
  exact key xs.length 0 (up iz 2 (iz 0)) ar h (by omega) hH hF (KI.rf.up 2 _ rfl) KA.rf hm (fun i hi => by simp at hi)
