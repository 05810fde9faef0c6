/-! the reference: nexts, givesBack, back, ring -/
set_option maxRecDepth 100000 in
set_option maxHeartbeats 8000000 in
theorem c_Mo_nexts {h0 : ax_H} {iz : Nat → Int} {ar : Nat → Nat → Int} {xs : List Int} (hH : MoH h0 iz ar) (hR : RwS iz ar xs) : ax_Cv m_Mo_nexts 0 [.ref 47] h0 (fun h1 => (∃ ar1, MoH h1 iz ar1 ∧ KA [10] ar ar1 ∧ isNx xs (ar1 10)) ∧ Fr MOS h0 h1) := by
  obtain ⟨e2, hn, hl, hbs⟩ := hR
  have hF : Fr MOS h0 h0 := Fr.rf
  refine ax_enter [some (.ref 47), none, none, none] rfl (Nat.le_of_ble_eq_true rfl) (by decide) ?_
  refine az_iconst d_Mo_nexts_0 ?_
  refine ax_istore_n d_Mo_nexts_1 (by decide) rfl ?_
  refine az_iconst d_Mo_nexts_2 ?_
  refine ax_istore_n d_Mo_nexts_3 (by decide) rfl ?_
  have key : ∀ (f b : Nat) (ar1 : Nat → Nat → Int) (h : ax_H), b + f = 256 → MoH h iz ar1 → Fr MOS h0 h → KA [10] ar ar1 → (∀ j : Nat, j < xs.length → gx xs j < b → ar1 10 (plc (kl (gx xs)) xs.length j) = j) → ∀ v3 : Option Value,
      ax_W m_Mo_nexts 0 4 [some (.ref 47), some (.int (iv ((cL xs b : Nat) : Int))), some (.int (iv b)), v3] [] h (fun r0 h1 => r0 = none ∧ (∃ ar1, MoH h1 iz ar1 ∧ KA [10] ar ar1 ∧ isNx xs (ar1 10)) ∧ Fr MOS h0 h1) := by
    intro f
    induction f with
    | zero =>
      intro b ar1 h he hH hF hka hnx v3
      refine ax_iload_n d_Mo_nexts_4 rfl ?_
      refine az_sipush _ d_Mo_nexts_5 (by decide) ?_
      refine az_icmp_ge 53 d_Mo_nexts_8 (by decide) (by omega) (by omega) (fun hc => ?_) (fun hc => ?_)
      · refine ax_vret d_Mo_nexts_53 rfl ?_
        refine ⟨rfl, ⟨ar1, hH, hka, fun j hj => hnx j hj ?_⟩, hF⟩
        have := (gx_Bs hbs j).2
        omega
      · exfalso
        omega
    | succ f ih =>
      intro b ar1 h he hH hF hka hnx v3
      refine ax_iload_n d_Mo_nexts_4 rfl ?_
      refine az_sipush _ d_Mo_nexts_5 (by decide) ?_
      refine az_icmp_ge 53 d_Mo_nexts_8 (by decide) (by omega) (by omega) (fun hc => ?_) (fun hc => ?_)
      · exfalso
        omega
      · refine az_iconst d_Mo_nexts_11 ?_
        refine ax_istore_n d_Mo_nexts_12 (by decide) rfl ?_
        have inner : ∀ (g k : Nat) (ar1 : Nat → Nat → Int) (h : ax_H), k + g = xs.length → MoH h iz ar1 → Fr MOS h0 h → KA [10] ar ar1 → (∀ j : Nat, j < xs.length → gx xs j < b ∨ (gx xs j = b ∧ j < k) → ar1 10 (plc (kl (gx xs)) xs.length j) = j) →
            ax_W m_Mo_nexts 0 13 [some (.ref 47), some (.int (iv ((cL xs b + cE xs k b : Nat) : Int))), some (.int (iv b)), some (.int (iv k))] [] h (fun r0 h1 => r0 = none ∧ (∃ ar1, MoH h1 iz ar1 ∧ KA [10] ar ar1 ∧ isNx xs (ar1 10)) ∧ Fr MOS h0 h1) := by
          intro g
          induction g with
          | zero =>
            intro k ar1 h he2 hH hF hka hnx
            have hk : k = xs.length := by omega
            subst hk
            refine ax_iload_n d_Mo_nexts_13 rfl ?_
            refine ax_aload_n d_Mo_nexts_14 rfl ?_
            refine ax_get d_Mo_nexts_15 fg_Mo_87 (by first | assumption | exact hH.g 0 rfl | exact hH.g 1 rfl | exact hH.g 2 rfl | exact hH.g 3 rfl | exact hH.g 4 rfl | exact hH.g 5 rfl | exact hH.g 6 rfl | exact hH.g 7 rfl | exact hH.g 8 rfl | exact hH.g 9 rfl | exact hH.g 10 rfl | exact hH.g 11 rfl | exact hH.g 12 rfl | exact hH.g 13 rfl | exact hH.g 14 rfl | exact hH.g 15 rfl | exact hH.g 16 rfl | exact hH.g 17 rfl | exact hH.g 18 rfl) (by rfl) ?_
            refine az_icmp_ge 47 d_Mo_nexts_18 (by decide) (by omega) (by omega) (fun hc => ?_) (fun hc => ?_)
            · refine az_iinc d_Mo_nexts_47 rfl (by decide) rfl ?_
              refine ax_goto 4 d_Mo_nexts_50 (by decide) ?_
              have ec : cL xs b + cE xs xs.length b = cL xs ((b + 1 : Nat) : Int) := by
                rw [show ((b + 1 : Nat) : Int) = (b : Int) + 1 by omega, cL_succ]
              rw [ec]
              refine ih (b + 1) ar1 h (by omega) hH hF hka (fun j hj hlt => hnx j hj ?_) _
              omega
            · exfalso
              omega
          | succ g ih2 =>
            intro k ar1 h he2 hH hF hka hnx
            have e3 := hka 3 rfl
            have er : ar1 3 ((k : Int).toNat) = gx xs k := by rw [e3]; exact hl k (by omega)
            have hg := gx_Bs hbs k
            have hs := cE_succ xs k b
            refine ax_iload_n d_Mo_nexts_13 rfl ?_
            refine ax_aload_n d_Mo_nexts_14 rfl ?_
            refine ax_get d_Mo_nexts_15 fg_Mo_87 (by first | assumption | exact hH.g 0 rfl | exact hH.g 1 rfl | exact hH.g 2 rfl | exact hH.g 3 rfl | exact hH.g 4 rfl | exact hH.g 5 rfl | exact hH.g 6 rfl | exact hH.g 7 rfl | exact hH.g 8 rfl | exact hH.g 9 rfl | exact hH.g 10 rfl | exact hH.g 11 rfl | exact hH.g 12 rfl | exact hH.g 13 rfl | exact hH.g 14 rfl | exact hH.g 15 rfl | exact hH.g 16 rfl | exact hH.g 17 rfl | exact hH.g 18 rfl) (by rfl) ?_
            refine az_icmp_ge 47 d_Mo_nexts_18 (by decide) (by omega) (by omega) (fun hc => ?_) (fun hc => ?_)
            · exfalso
              omega
            · refine ax_aload_n d_Mo_nexts_21 rfl ?_
              refine ax_get d_Mo_nexts_22 fg_Mo_13 (by first | assumption | exact hH.g 0 rfl | exact hH.g 1 rfl | exact hH.g 2 rfl | exact hH.g 3 rfl | exact hH.g 4 rfl | exact hH.g 5 rfl | exact hH.g 6 rfl | exact hH.g 7 rfl | exact hH.g 8 rfl | exact hH.g 9 rfl | exact hH.g 10 rfl | exact hH.g 11 rfl | exact hH.g 12 rfl | exact hH.g 13 rfl | exact hH.g 14 rfl | exact hH.g 15 rfl | exact hH.g 16 rfl | exact hH.g 17 rfl | exact hH.g 18 rfl) (by rfl) ?_
              refine ax_iload_n d_Mo_nexts_25 rfl ?_
              refine az_iald d_Mo_nexts_26 (by first | assumption | exact hH.g 0 rfl | exact hH.g 1 rfl | exact hH.g 2 rfl | exact hH.g 3 rfl | exact hH.g 4 rfl | exact hH.g 5 rfl | exact hH.g 6 rfl | exact hH.g 7 rfl | exact hH.g 8 rfl | exact hH.g 9 rfl | exact hH.g 10 rfl | exact hH.g 11 rfl | exact hH.g 12 rfl | exact hH.g 13 rfl | exact hH.g 14 rfl | exact hH.g 15 rfl | exact hH.g 16 rfl | exact hH.g 17 rfl | exact hH.g 18 rfl) (by omega) (by omega) (by omega) ?_
              rw [er]
              refine ax_iload_n d_Mo_nexts_27 rfl ?_
              refine az_icmp_ne 41 d_Mo_nexts_28 (by decide) (by omega) (by omega) (fun hne => ?_) (fun hne => ?_)
              · rw [if_neg hne] at hs
                refine az_iinc d_Mo_nexts_41 rfl (by decide) rfl ?_
                refine ax_goto 13 d_Mo_nexts_44 (by decide) ?_
                have e9 : cL xs b + cE xs k b = cL xs b + cE xs (k + 1) b := by omega
                rw [e9]
                refine ih2 (k + 1) ar1 h (by omega) hH hF hka (fun j hj hlt => hnx j hj ?_)
                rcases hlt with h1 | ⟨h1, h2⟩
                · exact Or.inl h1
                · refine Or.inr ⟨h1, ?_⟩
                  by_cases e : j = k
                  · rw [e] at h1; exact absurd h1 hne
                  · omega
              · rw [if_pos hne] at hs
                have hpl := plc_lt_n (kl_ok (gx xs) xs.length) (show k < xs.length by omega)
                have hpe := cLE_plc (xs := xs) (k := k) (by omega)
                rw [hne] at hpe
                rw [← hpe]
                refine ax_aload_n d_Mo_nexts_31 rfl ?_
                refine ax_get d_Mo_nexts_32 fg_Mo_25 (by first | assumption | exact hH.g 0 rfl | exact hH.g 1 rfl | exact hH.g 2 rfl | exact hH.g 3 rfl | exact hH.g 4 rfl | exact hH.g 5 rfl | exact hH.g 6 rfl | exact hH.g 7 rfl | exact hH.g 8 rfl | exact hH.g 9 rfl | exact hH.g 10 rfl | exact hH.g 11 rfl | exact hH.g 12 rfl | exact hH.g 13 rfl | exact hH.g 14 rfl | exact hH.g 15 rfl | exact hH.g 16 rfl | exact hH.g 17 rfl | exact hH.g 18 rfl) (by rfl) ?_
                refine ax_iload_n d_Mo_nexts_35 rfl ?_
                refine az_iinc d_Mo_nexts_36 rfl (by decide) rfl ?_
                refine ax_iload_n d_Mo_nexts_39 rfl ?_
                first | refine ah_iast d_Mo_nexts_40 hH hF 0 rfl rfl (by omega) (by omega) (by omega) (by omega) (fun h hH hF => ?_) | refine ah_iast d_Mo_nexts_40 hH hF 1 rfl rfl (by omega) (by omega) (by omega) (by omega) (fun h hH hF => ?_) | refine ah_iast d_Mo_nexts_40 hH hF 2 rfl rfl (by omega) (by omega) (by omega) (by omega) (fun h hH hF => ?_) | refine ah_iast d_Mo_nexts_40 hH hF 3 rfl rfl (by omega) (by omega) (by omega) (by omega) (fun h hH hF => ?_) | refine ah_iast d_Mo_nexts_40 hH hF 4 rfl rfl (by omega) (by omega) (by omega) (by omega) (fun h hH hF => ?_) | refine ah_iast d_Mo_nexts_40 hH hF 5 rfl rfl (by omega) (by omega) (by omega) (by omega) (fun h hH hF => ?_) | refine ah_iast d_Mo_nexts_40 hH hF 6 rfl rfl (by omega) (by omega) (by omega) (by omega) (fun h hH hF => ?_) | refine ah_iast d_Mo_nexts_40 hH hF 7 rfl rfl (by omega) (by omega) (by omega) (by omega) (fun h hH hF => ?_) | refine ah_iast d_Mo_nexts_40 hH hF 8 rfl rfl (by omega) (by omega) (by omega) (by omega) (fun h hH hF => ?_) | refine ah_iast d_Mo_nexts_40 hH hF 9 rfl rfl (by omega) (by omega) (by omega) (by omega) (fun h hH hF => ?_) | refine ah_iast d_Mo_nexts_40 hH hF 10 rfl rfl (by omega) (by omega) (by omega) (by omega) (fun h hH hF => ?_) | refine ah_iast d_Mo_nexts_40 hH hF 11 rfl rfl (by omega) (by omega) (by omega) (by omega) (fun h hH hF => ?_) | refine ah_iast d_Mo_nexts_40 hH hF 12 rfl rfl (by omega) (by omega) (by omega) (by omega) (fun h hH hF => ?_) | refine ah_iast d_Mo_nexts_40 hH hF 13 rfl rfl (by omega) (by omega) (by omega) (by omega) (fun h hH hF => ?_) | refine ah_iast d_Mo_nexts_40 hH hF 14 rfl rfl (by omega) (by omega) (by omega) (by omega) (fun h hH hF => ?_) | refine ah_iast d_Mo_nexts_40 hH hF 15 rfl rfl (by omega) (by omega) (by omega) (by omega) (fun h hH hF => ?_) | refine ah_iast d_Mo_nexts_40 hH hF 16 rfl rfl (by omega) (by omega) (by omega) (by omega) (fun h hH hF => ?_) | refine ah_iast d_Mo_nexts_40 hH hF 17 rfl rfl (by omega) (by omega) (by omega) (by omega) (fun h hH hF => ?_) | refine ah_iast d_Mo_nexts_40 hH hF 18 rfl rfl (by omega) (by omega) (by omega) (by omega) (fun h hH hF => ?_)
                refine az_iinc d_Mo_nexts_41 rfl (by decide) rfl ?_
                refine ax_goto 13 d_Mo_nexts_44 (by decide) ?_
                have e9 : ((plc (kl (gx xs)) xs.length k : Nat) : Int) + 1 = ((cL xs b + cE xs (k + 1) b : Nat) : Int) := by omega
                rw [e9]
                refine ih2 (k + 1) (upA ar1 10 (up (ar1 10) (plc (kl (gx xs)) xs.length k) k)) h (by omega) hH hF (hka.up 10 _ rfl) (fun j hj hlt => ?_)
                show up (ar1 10) (plc (kl (gx xs)) xs.length k) (k : Int) (plc (kl (gx xs)) xs.length j) = j
                by_cases e : j = k
                · rw [e, up_at]
                · rw [up_ne (fun q => e (plc_inj (kl_ok (gx xs) xs.length) hj (by omega) q))]
                  refine hnx j hj ?_
                  omega
        have e0 : cL xs b + cE xs 0 b = cL xs b := Nat.add_zero _
        have := inner xs.length 0 ar1 h (by omega) hH hF hka (fun j hj hlt => hnx j hj (by omega))
        rw [e0] at this
        exact this
  have c0 : cL xs ((0 : Nat) : Int) = 0 := cnt_false (fun i hi => by
    have h9 : 0 ≤ gx xs i := (hbs i hi).1
    exact decide_eq_false (by omega))
  have := key 256 0 ar h0 (by omega) hH hF KA.rf (fun j hj hlt => by have := (gx_Bs hbs j).1; omega) none
  rw [c0] at this
  exact this
set_option maxRecDepth 100000 in
theorem c_Mo_lastAt {h0 : ax_H} {iz : Nat → Int} {ar : Nat → Nat → Int} {xs : List Int} (hH : MoH h0 iz ar) (hR : RwS iz ar xs) (ho : ∀ k : Nat, k < xs.length → ar 4 k = ordT xs k) {k : Nat} (hk : k < xs.length) : ax_Ci m_Mo_lastAt 0 [.ref 47, .int (iv k)] h0 (fun z h1 => h1 = h0 ∧ z = gx (lastT xs) k) := by
  obtain ⟨e2, hn, hl, hbs⟩ := hR
  have hk4 : ar 4 ((k : Int).toNat) = ordT xs k := ho k hk
  have hol := (ordT_ok hk).1
  have em : ((ordT xs k : Nat) : Int) + iz 2 - 1 = ((ordT xs k : Nat) : Int) + ((xs.length - 1 : Nat) : Int) := by omega
  have hml : (ordT xs k + (xs.length - 1)) % xs.length < xs.length := Nat.mod_lt _ (by omega)
  have em2 : (((ordT xs k : Nat) : Int) + ((xs.length - 1 : Nat) : Int)) % iz 2 = (((ordT xs k + (xs.length - 1)) % xs.length : Nat) : Int) := by rw [e2]; exact mod_nat _ _ _
  refine ax_enter [some (.ref 47), some (.int (iv k))] rfl (Nat.le_of_ble_eq_true rfl) (by decide) ?_
  refine ax_aload_n d_Mo_lastAt_0 rfl ?_
  refine ax_get d_Mo_lastAt_1 fg_Mo_13 (by first | assumption | exact hH.g 0 rfl | exact hH.g 1 rfl | exact hH.g 2 rfl | exact hH.g 3 rfl | exact hH.g 4 rfl | exact hH.g 5 rfl | exact hH.g 6 rfl | exact hH.g 7 rfl | exact hH.g 8 rfl | exact hH.g 9 rfl | exact hH.g 10 rfl | exact hH.g 11 rfl | exact hH.g 12 rfl | exact hH.g 13 rfl | exact hH.g 14 rfl | exact hH.g 15 rfl | exact hH.g 16 rfl | exact hH.g 17 rfl | exact hH.g 18 rfl) (by rfl) ?_
  refine ax_aload_n d_Mo_lastAt_4 rfl ?_
  refine ax_get d_Mo_lastAt_5 fg_Mo_16 (by first | assumption | exact hH.g 0 rfl | exact hH.g 1 rfl | exact hH.g 2 rfl | exact hH.g 3 rfl | exact hH.g 4 rfl | exact hH.g 5 rfl | exact hH.g 6 rfl | exact hH.g 7 rfl | exact hH.g 8 rfl | exact hH.g 9 rfl | exact hH.g 10 rfl | exact hH.g 11 rfl | exact hH.g 12 rfl | exact hH.g 13 rfl | exact hH.g 14 rfl | exact hH.g 15 rfl | exact hH.g 16 rfl | exact hH.g 17 rfl | exact hH.g 18 rfl) (by rfl) ?_
  refine ax_iload_n d_Mo_lastAt_8 rfl ?_
  refine az_iald d_Mo_lastAt_9 (by first | assumption | exact hH.g 0 rfl | exact hH.g 1 rfl | exact hH.g 2 rfl | exact hH.g 3 rfl | exact hH.g 4 rfl | exact hH.g 5 rfl | exact hH.g 6 rfl | exact hH.g 7 rfl | exact hH.g 8 rfl | exact hH.g 9 rfl | exact hH.g 10 rfl | exact hH.g 11 rfl | exact hH.g 12 rfl | exact hH.g 13 rfl | exact hH.g 14 rfl | exact hH.g 15 rfl | exact hH.g 16 rfl | exact hH.g 17 rfl | exact hH.g 18 rfl) (by omega) (by omega) (by omega) ?_
  rw [hk4]
  refine ax_aload_n d_Mo_lastAt_10 rfl ?_
  refine ax_get d_Mo_lastAt_11 fg_Mo_87 (by first | assumption | exact hH.g 0 rfl | exact hH.g 1 rfl | exact hH.g 2 rfl | exact hH.g 3 rfl | exact hH.g 4 rfl | exact hH.g 5 rfl | exact hH.g 6 rfl | exact hH.g 7 rfl | exact hH.g 8 rfl | exact hH.g 9 rfl | exact hH.g 10 rfl | exact hH.g 11 rfl | exact hH.g 12 rfl | exact hH.g 13 rfl | exact hH.g 14 rfl | exact hH.g 15 rfl | exact hH.g 16 rfl | exact hH.g 17 rfl | exact hH.g 18 rfl) (by rfl) ?_
  refine az_iadd d_Mo_lastAt_14 ?_
  refine az_iconst d_Mo_lastAt_15 ?_
  refine az_isub d_Mo_lastAt_16 ?_
  rw [em]
  refine ax_aload_n d_Mo_lastAt_17 rfl ?_
  refine ax_get d_Mo_lastAt_18 fg_Mo_87 (by first | assumption | exact hH.g 0 rfl | exact hH.g 1 rfl | exact hH.g 2 rfl | exact hH.g 3 rfl | exact hH.g 4 rfl | exact hH.g 5 rfl | exact hH.g 6 rfl | exact hH.g 7 rfl | exact hH.g 8 rfl | exact hH.g 9 rfl | exact hH.g 10 rfl | exact hH.g 11 rfl | exact hH.g 12 rfl | exact hH.g 13 rfl | exact hH.g 14 rfl | exact hH.g 15 rfl | exact hH.g 16 rfl | exact hH.g 17 rfl | exact hH.g 18 rfl) (by rfl) ?_
  refine az_irem d_Mo_lastAt_21 (by omega) (by omega) ?_
  rw [em2]
  refine az_iald d_Mo_lastAt_22 (by first | assumption | exact hH.g 0 rfl | exact hH.g 1 rfl | exact hH.g 2 rfl | exact hH.g 3 rfl | exact hH.g 4 rfl | exact hH.g 5 rfl | exact hH.g 6 rfl | exact hH.g 7 rfl | exact hH.g 8 rfl | exact hH.g 9 rfl | exact hH.g 10 rfl | exact hH.g 11 rfl | exact hH.g 12 rfl | exact hH.g 13 rfl | exact hH.g 14 rfl | exact hH.g 15 rfl | exact hH.g 16 rfl | exact hH.g 17 rfl | exact hH.g 18 rfl) (by omega) (by omega) (by omega) ?_
  refine ax_iret d_Mo_lastAt_23 rfl ?_
  refine ⟨_, rfl, rfl, ?_⟩
  rw [show gx (lastT xs) k = (lastT xs).getD k 0 from rfl, lastT, mk_at hk, show (((ordT xs k + (xs.length - 1)) % xs.length : Nat) : Int).toNat = (ordT xs k + (xs.length - 1)) % xs.length by omega]
  exact hl _ hml
theorem zand_bz (a b : Bool) : zand (bz a) (bz b) = bz (a && b) := by cases a <;> cases b <;> decide
theorem gx_ext {a b : List Int} (h1 : a.length = b.length) (h2 : ∀ i : Nat, i < a.length → gx a i = gx b i) : a = b := by
  apply List.ext_getElem h1
  intro i g1 g2
  have := h2 i g1
  rw [show gx a i = a.getD i 0 from rfl, show gx b i = b.getD i 0 from rfl, List.getD_eq_getElem?_getD, List.getD_eq_getElem?_getD, List.getElem?_eq_getElem g1, List.getElem?_eq_getElem g2] at this
  exact this
set_option maxRecDepth 100000 in
set_option maxHeartbeats 8000000 in
theorem c_Mo_givesBack {h0 : ax_H} {iz : Nat → Int} {ar : Nat → Nat → Int} {xs : List Int} (hH : MoH h0 iz ar) (hR : RwS iz ar xs) {o : Nat} (ho : o < xs.length) : ax_Cz m_Mo_givesBack 3 [.ref 47, .int (iv o)] h0 (fun b h1 => b = rightB xs o ∧ (∃ ar1, MoH h1 iz ar1 ∧ KA [3, 4, 5, 10, 11] ar ar1 ∧ RwS iz ar1 (gbT xs o)) ∧ Fr MOS h0 h1) := by
  obtain ⟨e2, hn, hl, hbs⟩ := id hR
  have hgl := gbT_len xs o
  have hgb : Bs (gbT xs o) := Bs_gbT hbs (Or.inl ho)
  refine ax_enter [some (.ref 47), some (.int (iv o)), none, none, none] rfl (Nat.le_of_ble_eq_true rfl) (by decide) ?_
  refine ax_aload_n d_Mo_givesBack_0 rfl ?_
  refine ax_cV0 d_Mo_givesBack_1 v_Mo_nexts lk_Mo_124 (by first | assumption | exact hH.g 0 rfl | exact hH.g 1 rfl | exact hH.g 2 rfl | exact hH.g 3 rfl | exact hH.g 4 rfl | exact hH.g 5 rfl | exact hH.g 6 rfl | exact hH.g 7 rfl | exact hH.g 8 rfl | exact hH.g 9 rfl | exact hH.g 10 rfl | exact hH.g 11 rfl | exact hH.g 12 rfl | exact hH.g 13 rfl | exact hH.g 14 rfl | exact hH.g 15 rfl | exact hH.g 16 rfl | exact hH.g 17 rfl | exact hH.g 18 rfl) (by decide) (Nat.le_of_ble_eq_true rfl) (cm_v (c_Mo_nexts hH hR) (fun h1 hq => ?_))
  obtain ⟨⟨ar1, hH1, ka1, hnx⟩, hF1⟩ := hq
  have eg : goN xs (ar1 10) xs.length o = gbT xs o := goN_cg hnx _ _ (Or.inl ho)
  have hH := hH1
  refine ax_iload_n d_Mo_givesBack_4 rfl ?_
  refine ax_istore_n d_Mo_givesBack_5 (by decide) rfl ?_
  refine az_iconst d_Mo_givesBack_6 ?_
  refine ax_istore_n d_Mo_givesBack_7 (by decide) rfl ?_
  -- whether all is right
  have third : ∀ (f k : Nat) (b : Bool) (ar3 : Nat → Nat → Int) (h : ax_H), k + f = xs.length → MoH h iz ar3 → Fr MOS h0 h → KA [3, 4, 5, 10, 11] ar ar3 → RwS iz ar3 (gbT xs o) → (∀ j : Nat, j < xs.length → ar3 4 j = ordT (gbT xs o) j) → (∀ j : Nat, j < xs.length → ar3 11 j = gx xs j) → (b = true ↔ plT (gbT xs o) 0 = o ∧ ∀ j : Nat, j < k → gx (lastT (gbT xs o)) j = gx xs j) → ∀ v2 : Int,
      ax_W m_Mo_givesBack 3 106 [some (.ref 47), some (.int (iv o)), some (.int (iv v2)), some (.int (iv (bz b))), some (.int (iv k))] [] h (fun r0 h1 => ∃ b : Bool, r0 = some (.int (iv (bz b))) ∧ b = rightB xs o ∧ (∃ ar1, MoH h1 iz ar1 ∧ KA [3, 4, 5, 10, 11] ar ar1 ∧ RwS iz ar1 (gbT xs o)) ∧ Fr MOS h0 h1) := by
    intro f
    induction f with
    | zero =>
      intro k b ar3 h he hH hF ka hR3 h4 h11 hb v2
      refine ax_iload d_Mo_givesBack_106 rfl ?_
      refine ax_aload_n d_Mo_givesBack_108 rfl ?_
      refine ax_get d_Mo_givesBack_109 fg_Mo_87 (by first | assumption | exact hH.g 0 rfl | exact hH.g 1 rfl | exact hH.g 2 rfl | exact hH.g 3 rfl | exact hH.g 4 rfl | exact hH.g 5 rfl | exact hH.g 6 rfl | exact hH.g 7 rfl | exact hH.g 8 rfl | exact hH.g 9 rfl | exact hH.g 10 rfl | exact hH.g 11 rfl | exact hH.g 12 rfl | exact hH.g 13 rfl | exact hH.g 14 rfl | exact hH.g 15 rfl | exact hH.g 16 rfl | exact hH.g 17 rfl | exact hH.g 18 rfl) (by rfl) ?_
      refine az_icmp_ge 145 d_Mo_givesBack_112 (by decide) (by omega) (by omega) (fun hc => ?_) (fun hc => ?_)
      · refine ax_iload_n d_Mo_givesBack_145 rfl ?_
        refine ax_zret d_Mo_givesBack_146 rfl (by cases b <;> decide) ?_
        refine ⟨b, rfl, ?_, ⟨ar3, hH, ka, hR3⟩, hF⟩
        have : b = true ↔ rightB xs o = true := by
          rw [hb]
          unfold rightB
          rw [decide_eq_true_eq]
          constructor
          · rintro ⟨q1, q2⟩
            refine ⟨gx_ext (by rw [lastT_len, hgl]) (fun i hi => q2 i (by rw [lastT_len, hgl] at hi; omega)), Or.inr q1⟩
          · rintro ⟨q1, q2⟩
            refine ⟨by omega, fun j hj => by rw [q1]⟩
        cases b with
        | true => exact (this.mp rfl).symm
        | false =>
          cases hr : rightB xs o with
          | false => rfl
          | true => exact this.mpr hr
      · exfalso
        omega
    | succ f ih =>
      intro k b ar3 h he hH hF ka hR3 h4 h11 hb v2
      have h11k : ar3 11 ((k : Int).toNat) = gx xs k := h11 k (by omega)
      have hg1 := gx_Bs hbs k
      have hg2 := gx_Bs (Bs_lastT hgb) k
      have fin : ∀ c : Bool, (c = true ↔ gx (lastT (gbT xs o)) k = gx xs k) → ax_W m_Mo_givesBack 3 137 [some (.ref 47), some (.int (iv o)), some (.int (iv v2)), some (.int (iv (bz b))), some (.int (iv k))] [.int (iv (bz c)), .int (iv (bz b))] h (fun r0 h1 => ∃ b : Bool, r0 = some (.int (iv (bz b))) ∧ b = rightB xs o ∧ (∃ ar1, MoH h1 iz ar1 ∧ KA [3, 4, 5, 10, 11] ar ar1 ∧ RwS iz ar1 (gbT xs o)) ∧ Fr MOS h0 h1) := by
        intro c hcc
        refine az_iand d_Mo_givesBack_137 ?_
        rw [zand_bz]
        refine ax_istore_n d_Mo_givesBack_138 (by decide) rfl ?_
        refine az_iinc d_Mo_givesBack_139 rfl (by decide) rfl ?_
        refine ax_goto 106 d_Mo_givesBack_142 (by decide) ?_
        refine ih (k + 1) (b && c) ar3 h (by omega) hH hF ka hR3 h4 h11 ?_ _
        rw [Bool.and_eq_true, hb, hcc]
        constructor
        · rintro ⟨⟨q1, q2⟩, q3⟩
          refine ⟨q1, fun j hj => ?_⟩
          by_cases e : j = k
          · rw [e]; exact q3
          · exact q2 j (by omega)
        · rintro ⟨q1, q2⟩
          exact ⟨⟨q1, fun j hj => q2 j (by omega)⟩, q2 k (by omega)⟩
      refine ax_iload d_Mo_givesBack_106 rfl ?_
      refine ax_aload_n d_Mo_givesBack_108 rfl ?_
      refine ax_get d_Mo_givesBack_109 fg_Mo_87 (by first | assumption | exact hH.g 0 rfl | exact hH.g 1 rfl | exact hH.g 2 rfl | exact hH.g 3 rfl | exact hH.g 4 rfl | exact hH.g 5 rfl | exact hH.g 6 rfl | exact hH.g 7 rfl | exact hH.g 8 rfl | exact hH.g 9 rfl | exact hH.g 10 rfl | exact hH.g 11 rfl | exact hH.g 12 rfl | exact hH.g 13 rfl | exact hH.g 14 rfl | exact hH.g 15 rfl | exact hH.g 16 rfl | exact hH.g 17 rfl | exact hH.g 18 rfl) (by rfl) ?_
      refine az_icmp_ge 145 d_Mo_givesBack_112 (by decide) (by omega) (by omega) (fun hc => ?_) (fun hc => ?_)
      · exfalso
        omega
      · refine ax_iload_n d_Mo_givesBack_115 rfl ?_
        refine ax_aload_n d_Mo_givesBack_116 rfl ?_
        refine ax_iload d_Mo_givesBack_117 rfl ?_
        refine ax_cV1 d_Mo_givesBack_119 v_Mo_lastAt lk_Mo_127 (by first | assumption | exact hH.g 0 rfl | exact hH.g 1 rfl | exact hH.g 2 rfl | exact hH.g 3 rfl | exact hH.g 4 rfl | exact hH.g 5 rfl | exact hH.g 6 rfl | exact hH.g 7 rfl | exact hH.g 8 rfl | exact hH.g 9 rfl | exact hH.g 10 rfl | exact hH.g 11 rfl | exact hH.g 12 rfl | exact hH.g 13 rfl | exact hH.g 14 rfl | exact hH.g 15 rfl | exact hH.g 16 rfl | exact hH.g 17 rfl | exact hH.g 18 rfl) (by decide) (Nat.le_of_ble_eq_true rfl) (cm_i (c_Mo_lastAt hH hR3 (fun j hj => h4 j (by omega)) (k := k) (by omega)) (fun z h5 hq => ?_))
        obtain ⟨rfl, rfl⟩ := hq
        refine ax_aload_n d_Mo_givesBack_122 rfl ?_
        refine ax_get d_Mo_givesBack_123 fg_Mo_28 (by first | assumption | exact hH.g 0 rfl | exact hH.g 1 rfl | exact hH.g 2 rfl | exact hH.g 3 rfl | exact hH.g 4 rfl | exact hH.g 5 rfl | exact hH.g 6 rfl | exact hH.g 7 rfl | exact hH.g 8 rfl | exact hH.g 9 rfl | exact hH.g 10 rfl | exact hH.g 11 rfl | exact hH.g 12 rfl | exact hH.g 13 rfl | exact hH.g 14 rfl | exact hH.g 15 rfl | exact hH.g 16 rfl | exact hH.g 17 rfl | exact hH.g 18 rfl) (by rfl) ?_
        refine ax_iload d_Mo_givesBack_126 rfl ?_
        refine az_iald d_Mo_givesBack_128 (by first | assumption | exact hH.g 0 rfl | exact hH.g 1 rfl | exact hH.g 2 rfl | exact hH.g 3 rfl | exact hH.g 4 rfl | exact hH.g 5 rfl | exact hH.g 6 rfl | exact hH.g 7 rfl | exact hH.g 8 rfl | exact hH.g 9 rfl | exact hH.g 10 rfl | exact hH.g 11 rfl | exact hH.g 12 rfl | exact hH.g 13 rfl | exact hH.g 14 rfl | exact hH.g 15 rfl | exact hH.g 16 rfl | exact hH.g 17 rfl | exact hH.g 18 rfl) (by omega) (by omega) (by omega) ?_
        rw [h11k]
        refine az_icmp_ne 136 d_Mo_givesBack_129 (by decide) (by omega) (by omega) (fun hne => ?_) (fun hne => ?_)
        · refine az_iconst d_Mo_givesBack_136 ?_
          exact fin false ⟨fun q => (by cases q), fun q => absurd q hne⟩
        · refine az_iconst d_Mo_givesBack_132 ?_
          refine ax_goto 137 d_Mo_givesBack_133 (by decide) ?_
          exact fin true ⟨fun _ => hne, fun _ => rfl⟩
  -- the two rows change places
  have second : ∀ (f k : Nat) (ar2 : Nat → Nat → Int) (h : ax_H), k + f = xs.length → MoH h iz ar2 → Fr MOS h0 h → KA [3, 10, 11] ar ar2 → (∀ j : Nat, j < xs.length → ar2 3 j = if j < k then gx (gbT xs o) j else gx xs j) → (∀ j : Nat, j < xs.length → ar2 11 j = if j < k then gx xs j else gx (gbT xs o) j) → ∀ (v2 : Int) (v4 : Option Value),
      ax_W m_Mo_givesBack 3 43 [some (.ref 47), some (.int (iv o)), some (.int (iv v2)), some (.int (iv k)), v4] [] h (fun r0 h1 => ∃ b : Bool, r0 = some (.int (iv (bz b))) ∧ b = rightB xs o ∧ (∃ ar1, MoH h1 iz ar1 ∧ KA [3, 4, 5, 10, 11] ar ar1 ∧ RwS iz ar1 (gbT xs o)) ∧ Fr MOS h0 h1) := by
    intro f
    induction f with
    | zero =>
      intro k ar2 h he hH hF ka h3 h11 v2 v4
      have hR2 : RwS iz ar2 (gbT xs o) := ⟨by rw [hgl]; exact e2, by omega, fun j hj => by rw [h3 j (by omega), if_pos (by omega)], hgb⟩
      refine ax_iload_n d_Mo_givesBack_43 rfl ?_
      refine ax_aload_n d_Mo_givesBack_44 rfl ?_
      refine ax_get d_Mo_givesBack_45 fg_Mo_87 (by first | assumption | exact hH.g 0 rfl | exact hH.g 1 rfl | exact hH.g 2 rfl | exact hH.g 3 rfl | exact hH.g 4 rfl | exact hH.g 5 rfl | exact hH.g 6 rfl | exact hH.g 7 rfl | exact hH.g 8 rfl | exact hH.g 9 rfl | exact hH.g 10 rfl | exact hH.g 11 rfl | exact hH.g 12 rfl | exact hH.g 13 rfl | exact hH.g 14 rfl | exact hH.g 15 rfl | exact hH.g 16 rfl | exact hH.g 17 rfl | exact hH.g 18 rfl) (by rfl) ?_
      refine az_icmp_ge 85 d_Mo_givesBack_48 (by decide) (by omega) (by omega) (fun hc => ?_) (fun hc => ?_)
      · refine ax_aload_n d_Mo_givesBack_85 rfl ?_
        refine ax_cV0 d_Mo_givesBack_86 v_Mo_putInOrder lk_Mo_104 (by first | assumption | exact hH.g 0 rfl | exact hH.g 1 rfl | exact hH.g 2 rfl | exact hH.g 3 rfl | exact hH.g 4 rfl | exact hH.g 5 rfl | exact hH.g 6 rfl | exact hH.g 7 rfl | exact hH.g 8 rfl | exact hH.g 9 rfl | exact hH.g 10 rfl | exact hH.g 11 rfl | exact hH.g 12 rfl | exact hH.g 13 rfl | exact hH.g 14 rfl | exact hH.g 15 rfl | exact hH.g 16 rfl | exact hH.g 17 rfl | exact hH.g 18 rfl) (by decide) (Nat.le_of_ble_eq_true rfl) (cm_v (c_Mo_putInOrder hH hR2) (fun h5 hq => ?_))
        obtain ⟨⟨ar3, hH3, ka3, h4⟩, hF3⟩ := hq
        have hH := hH3
        have hR3 : RwS iz ar3 (gbT xs o) := hR2.fr (KI.rf (K := [])) ka3 rfl rfl
        have h11' : ∀ j : Nat, j < xs.length → ar3 11 j = gx xs j := fun j hj => by rw [ka3 11 rfl, h11 j hj, if_pos (by omega)]
        have h4' : ∀ j : Nat, j < xs.length → ar3 4 j = ordT (gbT xs o) j := fun j hj => h4 j (by omega)
        have kaa : KA [3, 4, 5, 10, 11] ar ar3 := (ka.wide rfl).tr (ka3.wide rfl)
        have hFF := hF.tr hF3
        have hpl : plT (gbT xs o) 0 < (gbT xs o).length := plc_lt_n (ltT_ok _) (by omega)
        refine ax_aload_n d_Mo_givesBack_89 rfl ?_
        refine ax_cV0 d_Mo_givesBack_90 v_Mo_originOf lk_Mo_107 (by first | assumption | exact hH.g 0 rfl | exact hH.g 1 rfl | exact hH.g 2 rfl | exact hH.g 3 rfl | exact hH.g 4 rfl | exact hH.g 5 rfl | exact hH.g 6 rfl | exact hH.g 7 rfl | exact hH.g 8 rfl | exact hH.g 9 rfl | exact hH.g 10 rfl | exact hH.g 11 rfl | exact hH.g 12 rfl | exact hH.g 13 rfl | exact hH.g 14 rfl | exact hH.g 15 rfl | exact hH.g 16 rfl | exact hH.g 17 rfl | exact hH.g 18 rfl) (by decide) (Nat.le_of_ble_eq_true rfl) (cm_i (c_Mo_originOf hH hR3.1 (by omega) h4) (fun z h6 hq => ?_))
        obtain ⟨rfl, rfl⟩ := hq
        rw [if_neg (by omega)]
        refine ax_iload_n d_Mo_givesBack_93 rfl ?_
        refine az_icmp_ne 101 d_Mo_givesBack_94 (by decide) (by omega) (by omega) (fun hne => ?_) (fun hne => ?_)
        · refine az_iconst d_Mo_givesBack_101 ?_
          refine ax_istore_n d_Mo_givesBack_102 (by decide) rfl ?_
          refine az_iconst d_Mo_givesBack_103 ?_
          refine ax_istore d_Mo_givesBack_104 (by decide) rfl ?_
          exact third xs.length 0 false ar3 h6 (by omega) hH hFF kaa hR3 h4' h11' ⟨fun q => (by cases q), fun q => by omega⟩ _
        · refine az_iconst d_Mo_givesBack_97 ?_
          refine ax_goto 102 d_Mo_givesBack_98 (by decide) ?_
          refine ax_istore_n d_Mo_givesBack_102 (by decide) rfl ?_
          refine az_iconst d_Mo_givesBack_103 ?_
          refine ax_istore d_Mo_givesBack_104 (by decide) rfl ?_
          exact third xs.length 0 true ar3 h6 (by omega) hH hFF kaa hR3 h4' h11' ⟨fun q => ⟨by omega, fun j hj => by omega⟩, fun q => rfl⟩ _
      · exfalso
        omega
    | succ f ih =>
      intro k ar2 h he hH hF ka h3 h11 v2 v4
      refine ax_iload_n d_Mo_givesBack_43 rfl ?_
      refine ax_aload_n d_Mo_givesBack_44 rfl ?_
      refine ax_get d_Mo_givesBack_45 fg_Mo_87 (by first | assumption | exact hH.g 0 rfl | exact hH.g 1 rfl | exact hH.g 2 rfl | exact hH.g 3 rfl | exact hH.g 4 rfl | exact hH.g 5 rfl | exact hH.g 6 rfl | exact hH.g 7 rfl | exact hH.g 8 rfl | exact hH.g 9 rfl | exact hH.g 10 rfl | exact hH.g 11 rfl | exact hH.g 12 rfl | exact hH.g 13 rfl | exact hH.g 14 rfl | exact hH.g 15 rfl | exact hH.g 16 rfl | exact hH.g 17 rfl | exact hH.g 18 rfl) (by rfl) ?_
      refine az_icmp_ge 85 d_Mo_givesBack_48 (by decide) (by omega) (by omega) (fun hc => ?_) (fun hc => ?_)
      · exfalso
        omega
      · refine ax_aload_n d_Mo_givesBack_51 rfl ?_
        refine ax_get d_Mo_givesBack_52 fg_Mo_13 (by first | assumption | exact hH.g 0 rfl | exact hH.g 1 rfl | exact hH.g 2 rfl | exact hH.g 3 rfl | exact hH.g 4 rfl | exact hH.g 5 rfl | exact hH.g 6 rfl | exact hH.g 7 rfl | exact hH.g 8 rfl | exact hH.g 9 rfl | exact hH.g 10 rfl | exact hH.g 11 rfl | exact hH.g 12 rfl | exact hH.g 13 rfl | exact hH.g 14 rfl | exact hH.g 15 rfl | exact hH.g 16 rfl | exact hH.g 17 rfl | exact hH.g 18 rfl) (by rfl) ?_
        refine ax_iload_n d_Mo_givesBack_55 rfl ?_
        refine az_iald d_Mo_givesBack_56 (by first | assumption | exact hH.g 0 rfl | exact hH.g 1 rfl | exact hH.g 2 rfl | exact hH.g 3 rfl | exact hH.g 4 rfl | exact hH.g 5 rfl | exact hH.g 6 rfl | exact hH.g 7 rfl | exact hH.g 8 rfl | exact hH.g 9 rfl | exact hH.g 10 rfl | exact hH.g 11 rfl | exact hH.g 12 rfl | exact hH.g 13 rfl | exact hH.g 14 rfl | exact hH.g 15 rfl | exact hH.g 16 rfl | exact hH.g 17 rfl | exact hH.g 18 rfl) (by omega) (by omega) (by omega) ?_
        refine ax_istore d_Mo_givesBack_57 (by decide) rfl ?_
        refine ax_aload_n d_Mo_givesBack_59 rfl ?_
        refine ax_get d_Mo_givesBack_60 fg_Mo_13 (by first | assumption | exact hH.g 0 rfl | exact hH.g 1 rfl | exact hH.g 2 rfl | exact hH.g 3 rfl | exact hH.g 4 rfl | exact hH.g 5 rfl | exact hH.g 6 rfl | exact hH.g 7 rfl | exact hH.g 8 rfl | exact hH.g 9 rfl | exact hH.g 10 rfl | exact hH.g 11 rfl | exact hH.g 12 rfl | exact hH.g 13 rfl | exact hH.g 14 rfl | exact hH.g 15 rfl | exact hH.g 16 rfl | exact hH.g 17 rfl | exact hH.g 18 rfl) (by rfl) ?_
        refine ax_iload_n d_Mo_givesBack_63 rfl ?_
        refine ax_aload_n d_Mo_givesBack_64 rfl ?_
        refine ax_get d_Mo_givesBack_65 fg_Mo_28 (by first | assumption | exact hH.g 0 rfl | exact hH.g 1 rfl | exact hH.g 2 rfl | exact hH.g 3 rfl | exact hH.g 4 rfl | exact hH.g 5 rfl | exact hH.g 6 rfl | exact hH.g 7 rfl | exact hH.g 8 rfl | exact hH.g 9 rfl | exact hH.g 10 rfl | exact hH.g 11 rfl | exact hH.g 12 rfl | exact hH.g 13 rfl | exact hH.g 14 rfl | exact hH.g 15 rfl | exact hH.g 16 rfl | exact hH.g 17 rfl | exact hH.g 18 rfl) (by rfl) ?_
        refine ax_iload_n d_Mo_givesBack_68 rfl ?_
        refine az_iald d_Mo_givesBack_69 (by first | assumption | exact hH.g 0 rfl | exact hH.g 1 rfl | exact hH.g 2 rfl | exact hH.g 3 rfl | exact hH.g 4 rfl | exact hH.g 5 rfl | exact hH.g 6 rfl | exact hH.g 7 rfl | exact hH.g 8 rfl | exact hH.g 9 rfl | exact hH.g 10 rfl | exact hH.g 11 rfl | exact hH.g 12 rfl | exact hH.g 13 rfl | exact hH.g 14 rfl | exact hH.g 15 rfl | exact hH.g 16 rfl | exact hH.g 17 rfl | exact hH.g 18 rfl) (by omega) (by omega) (by omega) ?_
        first | refine ah_iast d_Mo_givesBack_70 hH hF 0 rfl rfl (by omega) (by omega) (by omega) (by omega) (fun h hH hF => ?_) | refine ah_iast d_Mo_givesBack_70 hH hF 1 rfl rfl (by omega) (by omega) (by omega) (by omega) (fun h hH hF => ?_) | refine ah_iast d_Mo_givesBack_70 hH hF 2 rfl rfl (by omega) (by omega) (by omega) (by omega) (fun h hH hF => ?_) | refine ah_iast d_Mo_givesBack_70 hH hF 3 rfl rfl (by omega) (by omega) (by omega) (by omega) (fun h hH hF => ?_) | refine ah_iast d_Mo_givesBack_70 hH hF 4 rfl rfl (by omega) (by omega) (by omega) (by omega) (fun h hH hF => ?_) | refine ah_iast d_Mo_givesBack_70 hH hF 5 rfl rfl (by omega) (by omega) (by omega) (by omega) (fun h hH hF => ?_) | refine ah_iast d_Mo_givesBack_70 hH hF 6 rfl rfl (by omega) (by omega) (by omega) (by omega) (fun h hH hF => ?_) | refine ah_iast d_Mo_givesBack_70 hH hF 7 rfl rfl (by omega) (by omega) (by omega) (by omega) (fun h hH hF => ?_) | refine ah_iast d_Mo_givesBack_70 hH hF 8 rfl rfl (by omega) (by omega) (by omega) (by omega) (fun h hH hF => ?_) | refine ah_iast d_Mo_givesBack_70 hH hF 9 rfl rfl (by omega) (by omega) (by omega) (by omega) (fun h hH hF => ?_) | refine ah_iast d_Mo_givesBack_70 hH hF 10 rfl rfl (by omega) (by omega) (by omega) (by omega) (fun h hH hF => ?_) | refine ah_iast d_Mo_givesBack_70 hH hF 11 rfl rfl (by omega) (by omega) (by omega) (by omega) (fun h hH hF => ?_) | refine ah_iast d_Mo_givesBack_70 hH hF 12 rfl rfl (by omega) (by omega) (by omega) (by omega) (fun h hH hF => ?_) | refine ah_iast d_Mo_givesBack_70 hH hF 13 rfl rfl (by omega) (by omega) (by omega) (by omega) (fun h hH hF => ?_) | refine ah_iast d_Mo_givesBack_70 hH hF 14 rfl rfl (by omega) (by omega) (by omega) (by omega) (fun h hH hF => ?_) | refine ah_iast d_Mo_givesBack_70 hH hF 15 rfl rfl (by omega) (by omega) (by omega) (by omega) (fun h hH hF => ?_) | refine ah_iast d_Mo_givesBack_70 hH hF 16 rfl rfl (by omega) (by omega) (by omega) (by omega) (fun h hH hF => ?_) | refine ah_iast d_Mo_givesBack_70 hH hF 17 rfl rfl (by omega) (by omega) (by omega) (by omega) (fun h hH hF => ?_) | refine ah_iast d_Mo_givesBack_70 hH hF 18 rfl rfl (by omega) (by omega) (by omega) (by omega) (fun h hH hF => ?_)
        refine ax_aload_n d_Mo_givesBack_71 rfl ?_
        refine ax_get d_Mo_givesBack_72 fg_Mo_28 (by first | assumption | exact hH.g 0 rfl | exact hH.g 1 rfl | exact hH.g 2 rfl | exact hH.g 3 rfl | exact hH.g 4 rfl | exact hH.g 5 rfl | exact hH.g 6 rfl | exact hH.g 7 rfl | exact hH.g 8 rfl | exact hH.g 9 rfl | exact hH.g 10 rfl | exact hH.g 11 rfl | exact hH.g 12 rfl | exact hH.g 13 rfl | exact hH.g 14 rfl | exact hH.g 15 rfl | exact hH.g 16 rfl | exact hH.g 17 rfl | exact hH.g 18 rfl) (by rfl) ?_
        refine ax_iload_n d_Mo_givesBack_75 rfl ?_
        refine ax_iload d_Mo_givesBack_76 rfl ?_
        first | refine ah_iast d_Mo_givesBack_78 hH hF 0 rfl rfl (by omega) (by omega) (by omega) (by omega) (fun h hH hF => ?_) | refine ah_iast d_Mo_givesBack_78 hH hF 1 rfl rfl (by omega) (by omega) (by omega) (by omega) (fun h hH hF => ?_) | refine ah_iast d_Mo_givesBack_78 hH hF 2 rfl rfl (by omega) (by omega) (by omega) (by omega) (fun h hH hF => ?_) | refine ah_iast d_Mo_givesBack_78 hH hF 3 rfl rfl (by omega) (by omega) (by omega) (by omega) (fun h hH hF => ?_) | refine ah_iast d_Mo_givesBack_78 hH hF 4 rfl rfl (by omega) (by omega) (by omega) (by omega) (fun h hH hF => ?_) | refine ah_iast d_Mo_givesBack_78 hH hF 5 rfl rfl (by omega) (by omega) (by omega) (by omega) (fun h hH hF => ?_) | refine ah_iast d_Mo_givesBack_78 hH hF 6 rfl rfl (by omega) (by omega) (by omega) (by omega) (fun h hH hF => ?_) | refine ah_iast d_Mo_givesBack_78 hH hF 7 rfl rfl (by omega) (by omega) (by omega) (by omega) (fun h hH hF => ?_) | refine ah_iast d_Mo_givesBack_78 hH hF 8 rfl rfl (by omega) (by omega) (by omega) (by omega) (fun h hH hF => ?_) | refine ah_iast d_Mo_givesBack_78 hH hF 9 rfl rfl (by omega) (by omega) (by omega) (by omega) (fun h hH hF => ?_) | refine ah_iast d_Mo_givesBack_78 hH hF 10 rfl rfl (by omega) (by omega) (by omega) (by omega) (fun h hH hF => ?_) | refine ah_iast d_Mo_givesBack_78 hH hF 11 rfl rfl (by omega) (by omega) (by omega) (by omega) (fun h hH hF => ?_) | refine ah_iast d_Mo_givesBack_78 hH hF 12 rfl rfl (by omega) (by omega) (by omega) (by omega) (fun h hH hF => ?_) | refine ah_iast d_Mo_givesBack_78 hH hF 13 rfl rfl (by omega) (by omega) (by omega) (by omega) (fun h hH hF => ?_) | refine ah_iast d_Mo_givesBack_78 hH hF 14 rfl rfl (by omega) (by omega) (by omega) (by omega) (fun h hH hF => ?_) | refine ah_iast d_Mo_givesBack_78 hH hF 15 rfl rfl (by omega) (by omega) (by omega) (by omega) (fun h hH hF => ?_) | refine ah_iast d_Mo_givesBack_78 hH hF 16 rfl rfl (by omega) (by omega) (by omega) (by omega) (fun h hH hF => ?_) | refine ah_iast d_Mo_givesBack_78 hH hF 17 rfl rfl (by omega) (by omega) (by omega) (by omega) (fun h hH hF => ?_) | refine ah_iast d_Mo_givesBack_78 hH hF 18 rfl rfl (by omega) (by omega) (by omega) (by omega) (fun h hH hF => ?_)
        refine az_iinc d_Mo_givesBack_79 rfl (by decide) rfl ?_
        refine ax_goto 43 d_Mo_givesBack_82 (by decide) ?_
        refine ih (k + 1) (upA (upA ar2 3 (up (ar2 3) k (ar2 11 k))) 11 (up (ar2 11) k (ar2 3 k))) h (by omega) hH hF ((ka.up 3 _ rfl).up 11 _ rfl) (fun j hj => ?_) (fun j hj => ?_) _ _
        · show up (ar2 3) k (ar2 11 k) j = _
          by_cases e : j = k
          · rw [e, up_at, h11 k (by omega), if_neg (by omega), if_pos (by omega)]
          · rw [up_ne e, h3 j hj]
            by_cases e2 : j < k
            · rw [if_pos e2, if_pos (by omega)]
            · rw [if_neg e2, if_neg (by omega)]
        · show up (ar2 11) k (ar2 3 k) j = _
          by_cases e : j = k
          · rw [e, up_at, h3 k (by omega), if_neg (by omega), if_pos (by omega)]
          · rw [up_ne e, h11 j hj]
            by_cases e2 : j < k
            · rw [if_pos e2, if_pos (by omega)]
            · rw [if_neg e2, if_neg (by omega)]
  -- the way back
  have first : ∀ (f i p : Nat) (ys : List Int) (ar2 : Nat → Nat → Int) (h : ax_H), i + f = xs.length → (p < xs.length ∨ f = 0) → ys.length = i → ys ++ goN xs (ar1 10) f p = gbT xs o → MoH h iz ar2 → Fr MOS h0 h → KA [3, 10, 11] ar ar2 → ar2 3 = ar 3 → ar2 10 = ar1 10 → la (ar2 11) ys →
      ax_W m_Mo_givesBack 3 8 [some (.ref 47), some (.int (iv o)), some (.int (iv p)), some (.int (iv i)), none] [] h (fun r0 h1 => ∃ b : Bool, r0 = some (.int (iv (bz b))) ∧ b = rightB xs o ∧ (∃ ar1, MoH h1 iz ar1 ∧ KA [3, 4, 5, 10, 11] ar ar1 ∧ RwS iz ar1 (gbT xs o)) ∧ Fr MOS h0 h1) := by
    intro f
    induction f with
    | zero =>
      intro i p ys ar2 h he hp hy hs hH hF ka h3 h10 h11
      refine ax_iload_n d_Mo_givesBack_8 rfl ?_
      refine ax_aload_n d_Mo_givesBack_9 rfl ?_
      refine ax_get d_Mo_givesBack_10 fg_Mo_87 (by first | assumption | exact hH.g 0 rfl | exact hH.g 1 rfl | exact hH.g 2 rfl | exact hH.g 3 rfl | exact hH.g 4 rfl | exact hH.g 5 rfl | exact hH.g 6 rfl | exact hH.g 7 rfl | exact hH.g 8 rfl | exact hH.g 9 rfl | exact hH.g 10 rfl | exact hH.g 11 rfl | exact hH.g 12 rfl | exact hH.g 13 rfl | exact hH.g 14 rfl | exact hH.g 15 rfl | exact hH.g 16 rfl | exact hH.g 17 rfl | exact hH.g 18 rfl) (by rfl) ?_
      refine az_icmp_ge 41 d_Mo_givesBack_13 (by decide) (by omega) (by omega) (fun hc => ?_) (fun hc => ?_)
      · refine az_iconst d_Mo_givesBack_41 ?_
        refine ax_istore_n d_Mo_givesBack_42 (by decide) rfl ?_
        rw [goN, List.append_nil] at hs
        refine second xs.length 0 ar2 h (by omega) hH hF ka (fun j hj => ?_) (fun j hj => ?_) _ _
        · rw [if_neg (by omega), h3]
          exact hl j hj
        · rw [if_neg (by omega), ← hs]
          exact h11 j (by omega)
      · exfalso
        omega
    | succ f ih =>
      intro i p ys ar2 h he hp hy hs hH hF ka h3 h10 h11
      have hp : p < xs.length := by omega
      obtain ⟨q, hq, e, -⟩ := nx_in hnx hp
      have eq10 : ar2 10 ((p : Int).toNat) = (q : Int) := by rw [h10]; exact e
      have er : ar2 3 ((q : Int).toNat) = gx xs q := by rw [h3]; exact hl q hq
      refine ax_iload_n d_Mo_givesBack_8 rfl ?_
      refine ax_aload_n d_Mo_givesBack_9 rfl ?_
      refine ax_get d_Mo_givesBack_10 fg_Mo_87 (by first | assumption | exact hH.g 0 rfl | exact hH.g 1 rfl | exact hH.g 2 rfl | exact hH.g 3 rfl | exact hH.g 4 rfl | exact hH.g 5 rfl | exact hH.g 6 rfl | exact hH.g 7 rfl | exact hH.g 8 rfl | exact hH.g 9 rfl | exact hH.g 10 rfl | exact hH.g 11 rfl | exact hH.g 12 rfl | exact hH.g 13 rfl | exact hH.g 14 rfl | exact hH.g 15 rfl | exact hH.g 16 rfl | exact hH.g 17 rfl | exact hH.g 18 rfl) (by rfl) ?_
      refine az_icmp_ge 41 d_Mo_givesBack_13 (by decide) (by omega) (by omega) (fun hc => ?_) (fun hc => ?_)
      · exfalso
        omega
      · refine ax_aload_n d_Mo_givesBack_16 rfl ?_
        refine ax_get d_Mo_givesBack_17 fg_Mo_25 (by first | assumption | exact hH.g 0 rfl | exact hH.g 1 rfl | exact hH.g 2 rfl | exact hH.g 3 rfl | exact hH.g 4 rfl | exact hH.g 5 rfl | exact hH.g 6 rfl | exact hH.g 7 rfl | exact hH.g 8 rfl | exact hH.g 9 rfl | exact hH.g 10 rfl | exact hH.g 11 rfl | exact hH.g 12 rfl | exact hH.g 13 rfl | exact hH.g 14 rfl | exact hH.g 15 rfl | exact hH.g 16 rfl | exact hH.g 17 rfl | exact hH.g 18 rfl) (by rfl) ?_
        refine ax_iload_n d_Mo_givesBack_20 rfl ?_
        refine az_iald d_Mo_givesBack_21 (by first | assumption | exact hH.g 0 rfl | exact hH.g 1 rfl | exact hH.g 2 rfl | exact hH.g 3 rfl | exact hH.g 4 rfl | exact hH.g 5 rfl | exact hH.g 6 rfl | exact hH.g 7 rfl | exact hH.g 8 rfl | exact hH.g 9 rfl | exact hH.g 10 rfl | exact hH.g 11 rfl | exact hH.g 12 rfl | exact hH.g 13 rfl | exact hH.g 14 rfl | exact hH.g 15 rfl | exact hH.g 16 rfl | exact hH.g 17 rfl | exact hH.g 18 rfl) (by omega) (by omega) (by omega) ?_
        rw [eq10]
        refine ax_istore_n d_Mo_givesBack_22 (by decide) rfl ?_
        refine ax_aload_n d_Mo_givesBack_23 rfl ?_
        refine ax_get d_Mo_givesBack_24 fg_Mo_28 (by first | assumption | exact hH.g 0 rfl | exact hH.g 1 rfl | exact hH.g 2 rfl | exact hH.g 3 rfl | exact hH.g 4 rfl | exact hH.g 5 rfl | exact hH.g 6 rfl | exact hH.g 7 rfl | exact hH.g 8 rfl | exact hH.g 9 rfl | exact hH.g 10 rfl | exact hH.g 11 rfl | exact hH.g 12 rfl | exact hH.g 13 rfl | exact hH.g 14 rfl | exact hH.g 15 rfl | exact hH.g 16 rfl | exact hH.g 17 rfl | exact hH.g 18 rfl) (by rfl) ?_
        refine ax_iload_n d_Mo_givesBack_27 rfl ?_
        refine ax_aload_n d_Mo_givesBack_28 rfl ?_
        refine ax_get d_Mo_givesBack_29 fg_Mo_13 (by first | assumption | exact hH.g 0 rfl | exact hH.g 1 rfl | exact hH.g 2 rfl | exact hH.g 3 rfl | exact hH.g 4 rfl | exact hH.g 5 rfl | exact hH.g 6 rfl | exact hH.g 7 rfl | exact hH.g 8 rfl | exact hH.g 9 rfl | exact hH.g 10 rfl | exact hH.g 11 rfl | exact hH.g 12 rfl | exact hH.g 13 rfl | exact hH.g 14 rfl | exact hH.g 15 rfl | exact hH.g 16 rfl | exact hH.g 17 rfl | exact hH.g 18 rfl) (by rfl) ?_
        refine ax_iload_n d_Mo_givesBack_32 rfl ?_
        refine az_iald d_Mo_givesBack_33 (by first | assumption | exact hH.g 0 rfl | exact hH.g 1 rfl | exact hH.g 2 rfl | exact hH.g 3 rfl | exact hH.g 4 rfl | exact hH.g 5 rfl | exact hH.g 6 rfl | exact hH.g 7 rfl | exact hH.g 8 rfl | exact hH.g 9 rfl | exact hH.g 10 rfl | exact hH.g 11 rfl | exact hH.g 12 rfl | exact hH.g 13 rfl | exact hH.g 14 rfl | exact hH.g 15 rfl | exact hH.g 16 rfl | exact hH.g 17 rfl | exact hH.g 18 rfl) (by omega) (by omega) (by omega) ?_
        rw [er]
        first | refine ah_iast d_Mo_givesBack_34 hH hF 0 rfl rfl (by omega) (by omega) (by omega) (by omega) (fun h hH hF => ?_) | refine ah_iast d_Mo_givesBack_34 hH hF 1 rfl rfl (by omega) (by omega) (by omega) (by omega) (fun h hH hF => ?_) | refine ah_iast d_Mo_givesBack_34 hH hF 2 rfl rfl (by omega) (by omega) (by omega) (by omega) (fun h hH hF => ?_) | refine ah_iast d_Mo_givesBack_34 hH hF 3 rfl rfl (by omega) (by omega) (by omega) (by omega) (fun h hH hF => ?_) | refine ah_iast d_Mo_givesBack_34 hH hF 4 rfl rfl (by omega) (by omega) (by omega) (by omega) (fun h hH hF => ?_) | refine ah_iast d_Mo_givesBack_34 hH hF 5 rfl rfl (by omega) (by omega) (by omega) (by omega) (fun h hH hF => ?_) | refine ah_iast d_Mo_givesBack_34 hH hF 6 rfl rfl (by omega) (by omega) (by omega) (by omega) (fun h hH hF => ?_) | refine ah_iast d_Mo_givesBack_34 hH hF 7 rfl rfl (by omega) (by omega) (by omega) (by omega) (fun h hH hF => ?_) | refine ah_iast d_Mo_givesBack_34 hH hF 8 rfl rfl (by omega) (by omega) (by omega) (by omega) (fun h hH hF => ?_) | refine ah_iast d_Mo_givesBack_34 hH hF 9 rfl rfl (by omega) (by omega) (by omega) (by omega) (fun h hH hF => ?_) | refine ah_iast d_Mo_givesBack_34 hH hF 10 rfl rfl (by omega) (by omega) (by omega) (by omega) (fun h hH hF => ?_) | refine ah_iast d_Mo_givesBack_34 hH hF 11 rfl rfl (by omega) (by omega) (by omega) (by omega) (fun h hH hF => ?_) | refine ah_iast d_Mo_givesBack_34 hH hF 12 rfl rfl (by omega) (by omega) (by omega) (by omega) (fun h hH hF => ?_) | refine ah_iast d_Mo_givesBack_34 hH hF 13 rfl rfl (by omega) (by omega) (by omega) (by omega) (fun h hH hF => ?_) | refine ah_iast d_Mo_givesBack_34 hH hF 14 rfl rfl (by omega) (by omega) (by omega) (by omega) (fun h hH hF => ?_) | refine ah_iast d_Mo_givesBack_34 hH hF 15 rfl rfl (by omega) (by omega) (by omega) (by omega) (fun h hH hF => ?_) | refine ah_iast d_Mo_givesBack_34 hH hF 16 rfl rfl (by omega) (by omega) (by omega) (by omega) (fun h hH hF => ?_) | refine ah_iast d_Mo_givesBack_34 hH hF 17 rfl rfl (by omega) (by omega) (by omega) (by omega) (fun h hH hF => ?_) | refine ah_iast d_Mo_givesBack_34 hH hF 18 rfl rfl (by omega) (by omega) (by omega) (by omega) (fun h hH hF => ?_)
        refine az_iinc d_Mo_givesBack_35 rfl (by decide) rfl ?_
        refine ax_goto 8 d_Mo_givesBack_38 (by decide) ?_
        refine ih (i + 1) q (ys ++ [gx xs q]) (upA ar2 11 (up (ar2 11) i (gx xs q))) h (by omega) (by omega) (by simp; omega) ?_ hH hF (ka.up 11 _ rfl) h3 h10 (la_take_succ h11 hy _)
        rw [← hs, List.append_assoc, goN, show ((p : Nat) : Int).toNat = p by omega, e]
        rfl
  exact first xs.length 0 o [] ar1 h1 (by omega) (Or.inl ho) rfl eg hH hF1 (ka1.wide rfl) (ka1 3 rfl) rfl (fun i hi => by simp at hi)
set_option maxRecDepth 100000 in
set_option maxHeartbeats 4000000 in
theorem c_Mo_back {h0 : ax_H} {xs T out : List Int} {fp : Int} (hM : MoI h0 xs T out fp) {o : Int} (ho : -2147483648 ≤ o ∧ o < 2147483648) : ax_Ci m_Mo_back 4 [.ref 47, .int (iv o)] h0 (fun z h1 => z = (aBack xs o).1 ∧ MoI h1 (aBack xs o).2 T out fp ∧ Fr MOS h0 h1) := by
  have hM0 := hM
  obtain ⟨iz, ar, hH, hQ⟩ := hM
  obtain ⟨q0, q1, q2, q3, -⟩ := id hQ
  unfold aBack
  refine ax_enter [some (.ref 47), some (.int (iv o)), none, none] rfl (Nat.le_of_ble_eq_true rfl) (by decide) ?_
  refine ax_aload_n d_Mo_back_0 rfl ?_
  refine ax_get d_Mo_back_1 fg_Mo_76 (by first | assumption | exact hH.g 0 rfl | exact hH.g 1 rfl | exact hH.g 2 rfl | exact hH.g 3 rfl | exact hH.g 4 rfl | exact hH.g 5 rfl | exact hH.g 6 rfl | exact hH.g 7 rfl | exact hH.g 8 rfl | exact hH.g 9 rfl | exact hH.g 10 rfl | exact hH.g 11 rfl | exact hH.g 12 rfl | exact hH.g 13 rfl | exact hH.g 14 rfl | exact hH.g 15 rfl | exact hH.g 16 rfl | exact hH.g 17 rfl | exact hH.g 18 rfl) (by rfl) ?_
  refine az_if_ne 10 d_Mo_back_4 (by decide) (by first | exact bz_in _ | omega) (fun hz => ?_) (fun hz => ?_)
  · rw [if_neg (by omega)]
    refine ax_iload_n d_Mo_back_10 rfl ?_
    refine aj_i2l d_Mo_back_11 (by omega) ?_
    refine aj_lconst 0 d_Mo_back_12 rfl ?_
    refine ax_aload_n d_Mo_back_13 rfl ?_
    refine ax_get d_Mo_back_14 fg_Mo_76 (by first | assumption | exact hH.g 0 rfl | exact hH.g 1 rfl | exact hH.g 2 rfl | exact hH.g 3 rfl | exact hH.g 4 rfl | exact hH.g 5 rfl | exact hH.g 6 rfl | exact hH.g 7 rfl | exact hH.g 8 rfl | exact hH.g 9 rfl | exact hH.g 10 rfl | exact hH.g 11 rfl | exact hH.g 12 rfl | exact hH.g 13 rfl | exact hH.g 14 rfl | exact hH.g 15 rfl | exact hH.g 16 rfl | exact hH.g 17 rfl | exact hH.g 18 rfl) (by rfl) ?_
    refine az_iconst d_Mo_back_17 ?_
    refine az_isub d_Mo_back_18 ?_
    refine aj_i2l d_Mo_back_19 (by omega) ?_
    refine ax_cS3 d_Mo_back_20 s_Mo_isIn lk_Mo_72 (by decide) (Nat.le_of_ble_eq_true rfl) (cm_z (c_Mo_isIn (v := o) (a := 0) (b := iz 0 - 1) (by omega) (by omega) (by omega)) (fun b h1 hq => ?_))
    obtain ⟨rfl, rfl⟩ := hq
    refine az_if_ne 28 d_Mo_back_23 (by decide) (bz_in _) (fun hcb => ?_) (fun hcb => ?_)
    · have hin := of_decide_eq_true (bz_t hcb)
      rw [if_neg (by omega)]
      obtain ⟨o0, rfl⟩ := Int.eq_ofNat_of_zero_le (show 0 ≤ o by omega)
      have eo : ((o0 : Nat) : Int).toNat = o0 := by omega
      rw [eo]
      refine ax_aload_n d_Mo_back_28 rfl ?_
      refine ax_cV0 d_Mo_back_29 v_Mo_takeBlock lk_Mo_101 (by first | assumption | exact hH.g 0 rfl | exact hH.g 1 rfl | exact hH.g 2 rfl | exact hH.g 3 rfl | exact hH.g 4 rfl | exact hH.g 5 rfl | exact hH.g 6 rfl | exact hH.g 7 rfl | exact hH.g 8 rfl | exact hH.g 9 rfl | exact hH.g 10 rfl | exact hH.g 11 rfl | exact hH.g 12 rfl | exact hH.g 13 rfl | exact hH.g 14 rfl | exact hH.g 15 rfl | exact hH.g 16 rfl | exact hH.g 17 rfl | exact hH.g 18 rfl) (by decide) (Nat.le_of_ble_eq_true rfl) (cm_v (c_Mo_takeBlock hH q0 q1 q2) (fun h2 hq => ?_))
      obtain ⟨⟨iz1, ar1, hH1, ki1, ka1, e2, hl1⟩, hF1⟩ := hq
      have hH := hH1
      have hR1 : RwS iz1 ar1 xs := ⟨e2, by omega, hl1, q3⟩
      refine ax_aload_n d_Mo_back_32 rfl ?_
      refine ax_iload_n d_Mo_back_33 rfl ?_
      refine ax_cV1 d_Mo_back_34 v_Mo_givesBack lk_Mo_131 (by first | assumption | exact hH.g 0 rfl | exact hH.g 1 rfl | exact hH.g 2 rfl | exact hH.g 3 rfl | exact hH.g 4 rfl | exact hH.g 5 rfl | exact hH.g 6 rfl | exact hH.g 7 rfl | exact hH.g 8 rfl | exact hH.g 9 rfl | exact hH.g 10 rfl | exact hH.g 11 rfl | exact hH.g 12 rfl | exact hH.g 13 rfl | exact hH.g 14 rfl | exact hH.g 15 rfl | exact hH.g 16 rfl | exact hH.g 17 rfl | exact hH.g 18 rfl) (by decide) (Nat.le_of_ble_eq_true rfl) (cm_z (c_Mo_givesBack hH hR1 (o := o0) (by omega)) (fun b h3 hq => ?_))
      obtain ⟨rfl, ⟨ar2, hH2, ka2, hR2⟩, hF2⟩ := hq
      have hgl := gbT_len xs o0
      have hF12 := hF1.tr hF2
      have hka : KA [1, 3, 4, 5, 10, 11] ar ar2 := (ka1.wide rfl).tr (ka2.wide rfl)
      refine ax_istore_n d_Mo_back_37 (by decide) rfl ?_
      refine az_iconst d_Mo_back_38 ?_
      refine ax_istore_n d_Mo_back_39 (by decide) rfl ?_
      have key : ∀ (f k : Nat) (ar3 : Nat → Nat → Int) (h : ax_H), k + f = xs.length → MoH h iz1 ar3 → Fr MOS h1 h → KA [1, 3, 4, 5, 10, 11] ar ar3 → RwS iz1 ar3 (gbT xs o0) → (∀ j : Nat, j < k → ar3 1 j = gx (gbT xs o0) j) →
          ax_W m_Mo_back 4 40 [some (.ref 47), some (.int (iv o0)), some (.int (iv (bz (rightB xs o0)))), some (.int (iv k))] [] h (fun r0 h1' => ∃ z : Int, r0 = some (.int (iv z)) ∧ z = bz (rightB xs o0) ∧ MoI h1' (gbT xs o0) T out fp ∧ Fr MOS h1 h1') := by
        intro f
        induction f with
        | zero =>
          intro k ar3 h he hH hF hka hR3 hc1
          have hQ' : ∀ (h9 : ax_H), MoH h9 (up iz1 6 0) ar3 → MoI h9 (gbT xs o0) T out fp := fun h9 hh => ⟨up iz1 6 0, ar3, hh, hQ.blk (K := [2, 6]) ((ki1.wide rfl).up 6 0 rfl) hka rfl rfl (by show iz1 0 = _; rw [ki1 0 rfl, q0, hgl]) (by omega) (fun j hj => hc1 j (by omega)) hR3.2.2.2 rfl⟩
          refine ax_iload_n d_Mo_back_40 rfl ?_
          refine ax_aload_n d_Mo_back_41 rfl ?_
          refine ax_get d_Mo_back_42 fg_Mo_87 (by first | assumption | exact hH.g 0 rfl | exact hH.g 1 rfl | exact hH.g 2 rfl | exact hH.g 3 rfl | exact hH.g 4 rfl | exact hH.g 5 rfl | exact hH.g 6 rfl | exact hH.g 7 rfl | exact hH.g 8 rfl | exact hH.g 9 rfl | exact hH.g 10 rfl | exact hH.g 11 rfl | exact hH.g 12 rfl | exact hH.g 13 rfl | exact hH.g 14 rfl | exact hH.g 15 rfl | exact hH.g 16 rfl | exact hH.g 17 rfl | exact hH.g 18 rfl) (by rfl) ?_
          refine az_icmp_ge 66 d_Mo_back_45 (by decide) (by omega) (by omega) (fun hc => ?_) (fun hc => ?_)
          · refine ax_aload_n d_Mo_back_66 rfl ?_
            refine az_iconst d_Mo_back_67 ?_
            first | refine ah_put d_Mo_back_68 fp_Mo_81 hH hF 0 rfl rfl rfl (by first | rfl | decide) (Nat.le_of_ble_eq_true rfl) (fun h hH hF => ?_) | refine ah_put d_Mo_back_68 fp_Mo_81 hH hF 1 rfl rfl rfl (by first | rfl | decide) (Nat.le_of_ble_eq_true rfl) (fun h hH hF => ?_) | refine ah_put d_Mo_back_68 fp_Mo_81 hH hF 2 rfl rfl rfl (by first | rfl | decide) (Nat.le_of_ble_eq_true rfl) (fun h hH hF => ?_) | refine ah_put d_Mo_back_68 fp_Mo_81 hH hF 3 rfl rfl rfl (by first | rfl | decide) (Nat.le_of_ble_eq_true rfl) (fun h hH hF => ?_) | refine ah_put d_Mo_back_68 fp_Mo_81 hH hF 4 rfl rfl rfl (by first | rfl | decide) (Nat.le_of_ble_eq_true rfl) (fun h hH hF => ?_) | refine ah_put d_Mo_back_68 fp_Mo_81 hH hF 5 rfl rfl rfl (by first | rfl | decide) (Nat.le_of_ble_eq_true rfl) (fun h hH hF => ?_) | refine ah_put d_Mo_back_68 fp_Mo_81 hH hF 6 rfl rfl rfl (by first | rfl | decide) (Nat.le_of_ble_eq_true rfl) (fun h hH hF => ?_) | refine ah_put d_Mo_back_68 fp_Mo_81 hH hF 7 rfl rfl rfl (by first | rfl | decide) (Nat.le_of_ble_eq_true rfl) (fun h hH hF => ?_) | refine ah_put d_Mo_back_68 fp_Mo_81 hH hF 8 rfl rfl rfl (by first | rfl | decide) (Nat.le_of_ble_eq_true rfl) (fun h hH hF => ?_) | refine ah_put d_Mo_back_68 fp_Mo_81 hH hF 9 rfl rfl rfl (by first | rfl | decide) (Nat.le_of_ble_eq_true rfl) (fun h hH hF => ?_) | refine ah_put d_Mo_back_68 fp_Mo_81 hH hF 10 rfl rfl rfl (by first | rfl | decide) (Nat.le_of_ble_eq_true rfl) (fun h hH hF => ?_) | refine ah_put d_Mo_back_68 fp_Mo_81 hH hF 11 rfl rfl rfl (by first | rfl | decide) (Nat.le_of_ble_eq_true rfl) (fun h hH hF => ?_) | refine ah_put d_Mo_back_68 fp_Mo_81 hH hF 12 rfl rfl rfl (by first | rfl | decide) (Nat.le_of_ble_eq_true rfl) (fun h hH hF => ?_) | refine ah_put d_Mo_back_68 fp_Mo_81 hH hF 13 rfl rfl rfl (by first | rfl | decide) (Nat.le_of_ble_eq_true rfl) (fun h hH hF => ?_) | refine ah_put d_Mo_back_68 fp_Mo_81 hH hF 14 rfl rfl rfl (by first | rfl | decide) (Nat.le_of_ble_eq_true rfl) (fun h hH hF => ?_) | refine ah_put d_Mo_back_68 fp_Mo_81 hH hF 15 rfl rfl rfl (by first | rfl | decide) (Nat.le_of_ble_eq_true rfl) (fun h hH hF => ?_) | refine ah_put d_Mo_back_68 fp_Mo_81 hH hF 16 rfl rfl rfl (by first | rfl | decide) (Nat.le_of_ble_eq_true rfl) (fun h hH hF => ?_) | refine ah_put d_Mo_back_68 fp_Mo_81 hH hF 17 rfl rfl rfl (by first | rfl | decide) (Nat.le_of_ble_eq_true rfl) (fun h hH hF => ?_) | refine ah_put d_Mo_back_68 fp_Mo_81 hH hF 18 rfl rfl rfl (by first | rfl | decide) (Nat.le_of_ble_eq_true rfl) (fun h hH hF => ?_)
            have hM9 := hQ' h hH
            refine ax_iload_n d_Mo_back_71 rfl ?_
            refine az_if_eq 79 d_Mo_back_72 (by decide) (by first | exact bz_in _ | omega) (fun hr => ?_) (fun hr => ?_)
            · refine az_iconst d_Mo_back_79 ?_
              refine ax_iret d_Mo_back_80 rfl ?_
              rw [bz_f hr]
              exact ⟨_, rfl, rfl, hM9, hF⟩
            · refine az_iconst d_Mo_back_75 ?_
              refine ax_goto 80 d_Mo_back_76 (by decide) ?_
              refine ax_iret d_Mo_back_80 rfl ?_
              rw [bz_t hr]
              exact ⟨_, rfl, rfl, hM9, hF⟩
          · exfalso
            omega
        | succ f ih =>
          intro k ar3 h he hH hF hka hR3 hc1
          refine ax_iload_n d_Mo_back_40 rfl ?_
          refine ax_aload_n d_Mo_back_41 rfl ?_
          refine ax_get d_Mo_back_42 fg_Mo_87 (by first | assumption | exact hH.g 0 rfl | exact hH.g 1 rfl | exact hH.g 2 rfl | exact hH.g 3 rfl | exact hH.g 4 rfl | exact hH.g 5 rfl | exact hH.g 6 rfl | exact hH.g 7 rfl | exact hH.g 8 rfl | exact hH.g 9 rfl | exact hH.g 10 rfl | exact hH.g 11 rfl | exact hH.g 12 rfl | exact hH.g 13 rfl | exact hH.g 14 rfl | exact hH.g 15 rfl | exact hH.g 16 rfl | exact hH.g 17 rfl | exact hH.g 18 rfl) (by rfl) ?_
          refine az_icmp_ge 66 d_Mo_back_45 (by decide) (by omega) (by omega) (fun hc => ?_) (fun hc => ?_)
          · exfalso
            omega
          · refine ax_aload_n d_Mo_back_48 rfl ?_
            refine ax_get d_Mo_back_49 fg_Mo_7 (by first | assumption | exact hH.g 0 rfl | exact hH.g 1 rfl | exact hH.g 2 rfl | exact hH.g 3 rfl | exact hH.g 4 rfl | exact hH.g 5 rfl | exact hH.g 6 rfl | exact hH.g 7 rfl | exact hH.g 8 rfl | exact hH.g 9 rfl | exact hH.g 10 rfl | exact hH.g 11 rfl | exact hH.g 12 rfl | exact hH.g 13 rfl | exact hH.g 14 rfl | exact hH.g 15 rfl | exact hH.g 16 rfl | exact hH.g 17 rfl | exact hH.g 18 rfl) (by rfl) ?_
            refine ax_iload_n d_Mo_back_52 rfl ?_
            refine ax_aload_n d_Mo_back_53 rfl ?_
            refine ax_get d_Mo_back_54 fg_Mo_13 (by first | assumption | exact hH.g 0 rfl | exact hH.g 1 rfl | exact hH.g 2 rfl | exact hH.g 3 rfl | exact hH.g 4 rfl | exact hH.g 5 rfl | exact hH.g 6 rfl | exact hH.g 7 rfl | exact hH.g 8 rfl | exact hH.g 9 rfl | exact hH.g 10 rfl | exact hH.g 11 rfl | exact hH.g 12 rfl | exact hH.g 13 rfl | exact hH.g 14 rfl | exact hH.g 15 rfl | exact hH.g 16 rfl | exact hH.g 17 rfl | exact hH.g 18 rfl) (by rfl) ?_
            refine ax_iload_n d_Mo_back_57 rfl ?_
            refine az_iald d_Mo_back_58 (by first | assumption | exact hH.g 0 rfl | exact hH.g 1 rfl | exact hH.g 2 rfl | exact hH.g 3 rfl | exact hH.g 4 rfl | exact hH.g 5 rfl | exact hH.g 6 rfl | exact hH.g 7 rfl | exact hH.g 8 rfl | exact hH.g 9 rfl | exact hH.g 10 rfl | exact hH.g 11 rfl | exact hH.g 12 rfl | exact hH.g 13 rfl | exact hH.g 14 rfl | exact hH.g 15 rfl | exact hH.g 16 rfl | exact hH.g 17 rfl | exact hH.g 18 rfl) (by omega) (by omega) (by omega) ?_
            first | refine ah_iast d_Mo_back_59 hH hF 0 rfl rfl (by omega) (by omega) (by omega) (by omega) (fun h hH hF => ?_) | refine ah_iast d_Mo_back_59 hH hF 1 rfl rfl (by omega) (by omega) (by omega) (by omega) (fun h hH hF => ?_) | refine ah_iast d_Mo_back_59 hH hF 2 rfl rfl (by omega) (by omega) (by omega) (by omega) (fun h hH hF => ?_) | refine ah_iast d_Mo_back_59 hH hF 3 rfl rfl (by omega) (by omega) (by omega) (by omega) (fun h hH hF => ?_) | refine ah_iast d_Mo_back_59 hH hF 4 rfl rfl (by omega) (by omega) (by omega) (by omega) (fun h hH hF => ?_) | refine ah_iast d_Mo_back_59 hH hF 5 rfl rfl (by omega) (by omega) (by omega) (by omega) (fun h hH hF => ?_) | refine ah_iast d_Mo_back_59 hH hF 6 rfl rfl (by omega) (by omega) (by omega) (by omega) (fun h hH hF => ?_) | refine ah_iast d_Mo_back_59 hH hF 7 rfl rfl (by omega) (by omega) (by omega) (by omega) (fun h hH hF => ?_) | refine ah_iast d_Mo_back_59 hH hF 8 rfl rfl (by omega) (by omega) (by omega) (by omega) (fun h hH hF => ?_) | refine ah_iast d_Mo_back_59 hH hF 9 rfl rfl (by omega) (by omega) (by omega) (by omega) (fun h hH hF => ?_) | refine ah_iast d_Mo_back_59 hH hF 10 rfl rfl (by omega) (by omega) (by omega) (by omega) (fun h hH hF => ?_) | refine ah_iast d_Mo_back_59 hH hF 11 rfl rfl (by omega) (by omega) (by omega) (by omega) (fun h hH hF => ?_) | refine ah_iast d_Mo_back_59 hH hF 12 rfl rfl (by omega) (by omega) (by omega) (by omega) (fun h hH hF => ?_) | refine ah_iast d_Mo_back_59 hH hF 13 rfl rfl (by omega) (by omega) (by omega) (by omega) (fun h hH hF => ?_) | refine ah_iast d_Mo_back_59 hH hF 14 rfl rfl (by omega) (by omega) (by omega) (by omega) (fun h hH hF => ?_) | refine ah_iast d_Mo_back_59 hH hF 15 rfl rfl (by omega) (by omega) (by omega) (by omega) (fun h hH hF => ?_) | refine ah_iast d_Mo_back_59 hH hF 16 rfl rfl (by omega) (by omega) (by omega) (by omega) (fun h hH hF => ?_) | refine ah_iast d_Mo_back_59 hH hF 17 rfl rfl (by omega) (by omega) (by omega) (by omega) (fun h hH hF => ?_) | refine ah_iast d_Mo_back_59 hH hF 18 rfl rfl (by omega) (by omega) (by omega) (by omega) (fun h hH hF => ?_)
            refine az_iinc d_Mo_back_60 rfl (by decide) rfl ?_
            refine ax_goto 40 d_Mo_back_63 (by decide) ?_
            refine ih (k + 1) (upA ar3 1 (up (ar3 1) k (ar3 3 k))) h (by omega) hH hF (hka.up 1 _ rfl) hR3 (fun j hj => ?_)
            show up (ar3 1) k (ar3 3 k) j = _
            by_cases e : j = k
            · rw [e, up_at]
              exact hR3.2.2.1 k (by omega)
            · rw [up_ne e]; exact hc1 j (by omega)
      exact key xs.length 0 ar2 h3 (by omega) hH2 hF12 hka hR2 (fun j hj => by omega)
    · have hin := of_decide_eq_false (bz_f hcb)
      rw [if_pos (by omega)]
      refine az_iconst d_Mo_back_26 ?_
      refine ax_iret d_Mo_back_27 rfl ?_
      exact ⟨_, rfl, rfl, hM0, Fr.rf⟩
  · rw [if_pos (by omega)]
    refine az_bipush _ d_Mo_back_7 (by decide) ?_
    refine ax_iret d_Mo_back_9 rfl ?_
    exact ⟨_, rfl, rfl, hM0, Fr.rf⟩
set_option maxRecDepth 100000 in
set_option maxHeartbeats 4000000 in
theorem c_Mo_ring {h0 : ax_H} {xs T out : List Int} {fp : Int} (hM : MoI h0 xs T out fp) {k : Int} (hk : -2147483648 ≤ k ∧ k < 2147483648) : ax_Ci m_Mo_ring 1 [.ref 47, .int (iv k)] h0 (fun z h1 => z = aRing xs k ∧ MoI h1 xs T out fp ∧ Fr MOS h0 h1) := by
  have hM0 := hM
  obtain ⟨iz, ar, hH, hQ⟩ := hM
  obtain ⟨q0, q1, q2, q3, -⟩ := id hQ
  unfold aRing
  refine ax_enter [some (.ref 47), some (.int (iv k)), none, none] rfl (Nat.le_of_ble_eq_true rfl) (by decide) ?_
  refine ax_iload_n d_Mo_ring_0 rfl ?_
  refine aj_i2l d_Mo_ring_1 (by omega) ?_
  refine aj_lconst 0 d_Mo_ring_2 rfl ?_
  refine ax_aload_n d_Mo_ring_3 rfl ?_
  refine ax_get d_Mo_ring_4 fg_Mo_76 (by first | assumption | exact hH.g 0 rfl | exact hH.g 1 rfl | exact hH.g 2 rfl | exact hH.g 3 rfl | exact hH.g 4 rfl | exact hH.g 5 rfl | exact hH.g 6 rfl | exact hH.g 7 rfl | exact hH.g 8 rfl | exact hH.g 9 rfl | exact hH.g 10 rfl | exact hH.g 11 rfl | exact hH.g 12 rfl | exact hH.g 13 rfl | exact hH.g 14 rfl | exact hH.g 15 rfl | exact hH.g 16 rfl | exact hH.g 17 rfl | exact hH.g 18 rfl) (by rfl) ?_
  refine az_iconst d_Mo_ring_7 ?_
  refine az_isub d_Mo_ring_8 ?_
  refine aj_i2l d_Mo_ring_9 (by omega) ?_
  refine ax_cS3 d_Mo_ring_10 s_Mo_isIn lk_Mo_72 (by decide) (Nat.le_of_ble_eq_true rfl) (cm_z (c_Mo_isIn (v := k) (a := 0) (b := iz 0 - 1) (by omega) (by omega) (by omega)) (fun b h1 hq => ?_))
  obtain ⟨rfl, rfl⟩ := hq
  refine az_if_ne 18 d_Mo_ring_13 (by decide) (bz_in _) (fun hcb => ?_) (fun hcb => ?_)
  · have hin := of_decide_eq_true (bz_t hcb)
    rw [if_pos (by omega)]
    obtain ⟨k0, rfl⟩ := Int.eq_ofNat_of_zero_le (show 0 ≤ k by omega)
    have eo : ((k0 : Nat) : Int).toNat = k0 := by omega
    rw [eo]
    refine ax_aload_n d_Mo_ring_18 rfl ?_
    refine ax_cV0 d_Mo_ring_19 v_Mo_takeBlock lk_Mo_101 (by first | assumption | exact hH.g 0 rfl | exact hH.g 1 rfl | exact hH.g 2 rfl | exact hH.g 3 rfl | exact hH.g 4 rfl | exact hH.g 5 rfl | exact hH.g 6 rfl | exact hH.g 7 rfl | exact hH.g 8 rfl | exact hH.g 9 rfl | exact hH.g 10 rfl | exact hH.g 11 rfl | exact hH.g 12 rfl | exact hH.g 13 rfl | exact hH.g 14 rfl | exact hH.g 15 rfl | exact hH.g 16 rfl | exact hH.g 17 rfl | exact hH.g 18 rfl) (by decide) (Nat.le_of_ble_eq_true rfl) (cm_v (c_Mo_takeBlock hH q0 q1 q2) (fun h2 hq => ?_))
    obtain ⟨⟨iz1, ar1, hH1, ki1, ka1, e2, hl1⟩, hF1⟩ := hq
    have hH := hH1
    have hR1 : RwS iz1 ar1 xs := ⟨e2, by omega, hl1, q3⟩
    refine ax_aload_n d_Mo_ring_22 rfl ?_
    refine ax_cV0 d_Mo_ring_23 v_Mo_nexts lk_Mo_124 (by first | assumption | exact hH.g 0 rfl | exact hH.g 1 rfl | exact hH.g 2 rfl | exact hH.g 3 rfl | exact hH.g 4 rfl | exact hH.g 5 rfl | exact hH.g 6 rfl | exact hH.g 7 rfl | exact hH.g 8 rfl | exact hH.g 9 rfl | exact hH.g 10 rfl | exact hH.g 11 rfl | exact hH.g 12 rfl | exact hH.g 13 rfl | exact hH.g 14 rfl | exact hH.g 15 rfl | exact hH.g 16 rfl | exact hH.g 17 rfl | exact hH.g 18 rfl) (by decide) (Nat.le_of_ble_eq_true rfl) (cm_v (c_Mo_nexts hH hR1) (fun h3 hq => ?_))
    obtain ⟨⟨ar2, hH2, ka2, hnx⟩, hF2⟩ := hq
    have hH := hH2
    have hM3 : MoI h3 xs T out fp := ⟨iz1, ar2, hH2, hQ.fr (K' := [3, 10]) ki1 ((ka1.wide rfl).tr (ka2.wide rfl)) rfl rfl⟩
    have hF12 := hF1.tr hF2
    have hnT : ∀ {k : Nat}, k < xs.length → ar2 10 k = nxT xs k := fun hk => isNx_eq hnx hk
    obtain ⟨p0, hp0, ep0, -⟩ := nx_in hnx (show k0 < xs.length by omega)
    have ep0' : ar2 10 ((k0 : Int).toNat) = (p0 : Int) := ep0
    have hinj : ∀ a b : Nat, a < xs.length → b < xs.length → ar2 10 a = ar2 10 b → a = b := by
      intro a b ha hb e
      obtain ⟨p, hp, e1, e2⟩ := nx_in hnx ha
      obtain ⟨p', hp', e3, e4⟩ := nx_in hnx hb
      have : p = p' := by omega
      rw [← e2, ← e4, this]
    refine az_iconst d_Mo_ring_26 ?_
    refine ax_istore_n d_Mo_ring_27 (by decide) rfl ?_
    refine ax_aload_n d_Mo_ring_28 rfl ?_
    refine ax_get d_Mo_ring_29 fg_Mo_25 (by first | assumption | exact hH.g 0 rfl | exact hH.g 1 rfl | exact hH.g 2 rfl | exact hH.g 3 rfl | exact hH.g 4 rfl | exact hH.g 5 rfl | exact hH.g 6 rfl | exact hH.g 7 rfl | exact hH.g 8 rfl | exact hH.g 9 rfl | exact hH.g 10 rfl | exact hH.g 11 rfl | exact hH.g 12 rfl | exact hH.g 13 rfl | exact hH.g 14 rfl | exact hH.g 15 rfl | exact hH.g 16 rfl | exact hH.g 17 rfl | exact hH.g 18 rfl) (by rfl) ?_
    refine ax_iload_n d_Mo_ring_32 rfl ?_
    refine az_iald d_Mo_ring_33 (by first | assumption | exact hH.g 0 rfl | exact hH.g 1 rfl | exact hH.g 2 rfl | exact hH.g 3 rfl | exact hH.g 4 rfl | exact hH.g 5 rfl | exact hH.g 6 rfl | exact hH.g 7 rfl | exact hH.g 8 rfl | exact hH.g 9 rfl | exact hH.g 10 rfl | exact hH.g 11 rfl | exact hH.g 12 rfl | exact hH.g 13 rfl | exact hH.g 14 rfl | exact hH.g 15 rfl | exact hH.g 16 rfl | exact hH.g 17 rfl | exact hH.g 18 rfl) (by omega) (by omega) (by omega) ?_
    rw [ep0']
    refine ax_istore_n d_Mo_ring_34 (by decide) rfl ?_
    have key : ∀ (f len p cur : Nat) (V : Nat → Bool), len + f = xs.length → p < xs.length → cnt V xs.length = len → V k0 = true → cur < xs.length → V cur = true → ar2 10 cur = p → (∀ i : Nat, V i = true → i ≠ k0 → ∃ j : Nat, j < xs.length ∧ V j = true ∧ j ≠ cur ∧ ar2 10 j = i) →
        ax_W m_Mo_ring 1 35 [some (.ref 47), some (.int (iv k0)), some (.int (iv len)), some (.int (iv p))] [] h3 (fun r0 h2 => ∃ z : Int, r0 = some (.int (iv z)) ∧ z = ringN (nxT xs) k0 f p len ∧ MoI h2 xs T out fp ∧ Fr MOS h1 h2) := by
      intro f
      induction f with
      | zero =>
        intro len p cur V he hp hcn hvk hcur hvc ecur hV
        have hvp : V p = true := by
          cases hv : V p with
          | true => rfl
          | false =>
            have := cnt_lt_n hp hv
            omega
        have hpk : p = k0 := by
          apply Classical.byContradiction
          intro hne
          obtain ⟨j, j1, j2, j3, j4⟩ := hV p hvp hne
          exact j3 (hinj j cur j1 hcur (by rw [j4, ecur]))
        refine ax_iload_n d_Mo_ring_35 rfl ?_
        refine ax_iload_n d_Mo_ring_36 rfl ?_
        refine az_icmp_eq 53 d_Mo_ring_37 (by decide) (by omega) (by omega) (fun hc => ?_) (fun hc => ?_)
        · refine ax_iload_n d_Mo_ring_53 rfl ?_
          refine ax_iret d_Mo_ring_54 rfl ?_
          exact ⟨_, rfl, rfl, hM3, hF12⟩
        · exfalso
          omega
      | succ f ih =>
        intro len p cur V he hp hcn hvk hcur hvc ecur hV
        refine ax_iload_n d_Mo_ring_35 rfl ?_
        refine ax_iload_n d_Mo_ring_36 rfl ?_
        refine az_icmp_eq 53 d_Mo_ring_37 (by decide) (by omega) (by omega) (fun hpk => ?_) (fun hpk => ?_)
        · refine ax_iload_n d_Mo_ring_53 rfl ?_
          refine ax_iret d_Mo_ring_54 rfl ?_
          refine ⟨_, rfl, ?_, hM3, hF12⟩
          rw [ringN, if_pos hpk]
        · have hvp : V p = false := by
            cases hv : V p with
            | false => rfl
            | true =>
              obtain ⟨j, j1, j2, j3, j4⟩ := hV p hv (by omega)
              exact absurd (hinj j cur j1 hcur (by rw [j4, ecur])) j3
          obtain ⟨q, hq, eq, -⟩ := nx_in hnx hp
          have eq' : ar2 10 ((p : Int).toNat) = (q : Int) := eq
          refine az_iinc d_Mo_ring_40 rfl (by decide) rfl ?_
          refine ax_aload_n d_Mo_ring_43 rfl ?_
          refine ax_get d_Mo_ring_44 fg_Mo_25 (by first | assumption | exact hH.g 0 rfl | exact hH.g 1 rfl | exact hH.g 2 rfl | exact hH.g 3 rfl | exact hH.g 4 rfl | exact hH.g 5 rfl | exact hH.g 6 rfl | exact hH.g 7 rfl | exact hH.g 8 rfl | exact hH.g 9 rfl | exact hH.g 10 rfl | exact hH.g 11 rfl | exact hH.g 12 rfl | exact hH.g 13 rfl | exact hH.g 14 rfl | exact hH.g 15 rfl | exact hH.g 16 rfl | exact hH.g 17 rfl | exact hH.g 18 rfl) (by rfl) ?_
          refine ax_iload_n d_Mo_ring_47 rfl ?_
          refine az_iald d_Mo_ring_48 (by first | assumption | exact hH.g 0 rfl | exact hH.g 1 rfl | exact hH.g 2 rfl | exact hH.g 3 rfl | exact hH.g 4 rfl | exact hH.g 5 rfl | exact hH.g 6 rfl | exact hH.g 7 rfl | exact hH.g 8 rfl | exact hH.g 9 rfl | exact hH.g 10 rfl | exact hH.g 11 rfl | exact hH.g 12 rfl | exact hH.g 13 rfl | exact hH.g 14 rfl | exact hH.g 15 rfl | exact hH.g 16 rfl | exact hH.g 17 rfl | exact hH.g 18 rfl) (by omega) (by omega) (by omega) ?_
          rw [eq']
          refine ax_istore_n d_Mo_ring_49 (by decide) rfl ?_
          refine ax_goto 35 d_Mo_ring_50 (by decide) ?_
          have hcp : p ≠ cur := fun w => by rw [w, hvc] at hvp; cases hvp
          have hc2 : cnt (fun i => V i || decide (i = p)) xs.length = len + 1 := by
            rw [cnt_or (fun i hi hv => by
              refine decide_eq_false (fun w => ?_)
              rw [w, hvp] at hv
              cases hv), hcn, cnt_one (a := p) (fun i hi hd => of_decide_eq_true hd), if_pos ⟨hp, decide_eq_true rfl⟩]
          have := ih (len + 1) q p (fun i => V i || decide (i = p)) (by omega) hq hc2 (by show (V k0 || _) = true; rw [hvk]; rfl) hp (by show (V p || decide (p = p)) = true; simp) eq (fun i hi hne => by
            have hi : (V i || decide (i = p)) = true := hi
            cases hv : V i with
            | true =>
              obtain ⟨j, j1, j2, j3, j4⟩ := hV i hv hne
              exact ⟨j, j1, (by show (V j || _) = true; rw [j2]; rfl), (fun w => by rw [w, hvp] at j2; cases j2), j4⟩
            | false =>
              rw [hv, Bool.false_or] at hi
              have hip := of_decide_eq_true hi
              exact ⟨cur, hcur, (by show (V cur || _) = true; rw [hvc]; rfl), (fun w => hcp w.symm), (by rw [ecur, hip])⟩)
          rw [ringN, if_neg hpk, show ((p : Nat) : Int).toNat = p by omega, ← hnT hp, eq]
          exact this
    rw [← hnT (show k0 < xs.length by omega), ep0]
    refine key (xs.length - 1) 1 p0 k0 (fun i => decide (i = k0)) (by omega) hp0 ?_ (decide_eq_true rfl) (by omega) (decide_eq_true rfl) ep0 (fun i hi hne => absurd (of_decide_eq_true hi) hne)
    rw [cnt_one (a := k0) (fun i hi hd => of_decide_eq_true hd), if_pos ⟨by omega, decide_eq_true rfl⟩]
  · have hin := of_decide_eq_false (bz_f hcb)
    rw [if_neg (by omega)]
    refine az_iconst d_Mo_ring_16 ?_
    refine ax_iret d_Mo_ring_17 rfl ?_
    exact ⟨_, rfl, rfl, hM0, Fr.rf⟩
