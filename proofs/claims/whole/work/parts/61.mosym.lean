/-! the reference: rowHas, putNoughts, toFront, makeSymbols -/
theorem cont_at {xs : List Int} {b : Int} {i : Nat} (hi : i < xs.length) (h : gx xs i = b) : xs.contains b = true := by
  rw [← h]
  exact List.contains_iff_mem.mpr (inL_mem ⟨i, hi, rfl⟩)
theorem cont_not {xs : List Int} {b : Int} (h : ∀ i : Nat, i < xs.length → gx xs i ≠ b) : xs.contains b = false := by
  cases hc : xs.contains b with
  | false => rfl
  | true =>
    obtain ⟨j, hj, e⟩ := mem_inL (List.contains_iff_mem.mp hc)
    exact absurd e (h j hj)
set_option maxRecDepth 100000 in
set_option maxHeartbeats 4000000 in
theorem c_Mo_rowHas {h0 : ax_H} {iz : Nat → Int} {ar : Nat → Nat → Int} {xs : List Int} (hH : MoH h0 iz ar) (hR : RwS iz ar xs) {b : Int} (hb : -2147483648 ≤ b ∧ b < 2147483648) : ax_Cz m_Mo_rowHas 0 [.ref 47, .int (iv b)] h0 (fun z h1 => h1 = h0 ∧ z = xs.contains b) := by
  obtain ⟨e2, hn, hl, hbs⟩ := id hR
  refine ax_enter [some (.ref 47), some (.int (iv b)), none] rfl (Nat.le_of_ble_eq_true rfl) (by decide) ?_
  refine az_iconst d_Mo_rowHas_0 ?_
  refine ax_istore_n d_Mo_rowHas_1 (by decide) rfl ?_
  have key : ∀ (f k : Nat), k + f = xs.length → (∀ j : Nat, j < k → gx xs j ≠ b) →
      ax_W m_Mo_rowHas 0 2 [some (.ref 47), some (.int (iv b)), some (.int (iv k))] [] h0 (fun r0 h1 => ∃ z : Bool, r0 = some (.int (iv (bz z))) ∧ h1 = h0 ∧ z = xs.contains b) := by
    intro f
    induction f with
    | zero =>
      intro k he hj
      refine ax_iload_n d_Mo_rowHas_2 rfl ?_
      refine ax_aload_n d_Mo_rowHas_3 rfl ?_
      refine ax_get d_Mo_rowHas_4 fg_Mo_87 (by first | assumption | exact hH.g 0 rfl | exact hH.g 1 rfl | exact hH.g 2 rfl | exact hH.g 3 rfl | exact hH.g 4 rfl | exact hH.g 5 rfl | exact hH.g 6 rfl | exact hH.g 7 rfl | exact hH.g 8 rfl | exact hH.g 9 rfl | exact hH.g 10 rfl | exact hH.g 11 rfl | exact hH.g 12 rfl | exact hH.g 13 rfl | exact hH.g 14 rfl | exact hH.g 15 rfl | exact hH.g 16 rfl | exact hH.g 17 rfl | exact hH.g 18 rfl) (by rfl) ?_
      refine az_icmp_ge 28 d_Mo_rowHas_7 (by decide) (by omega) (by omega) (fun hc => ?_) (fun hc => ?_)
      · refine az_iconst d_Mo_rowHas_28 ?_
        refine ax_zret d_Mo_rowHas_29 rfl (by decide) ?_
        exact ⟨false, rfl, rfl, (cont_not (fun i hi => hj i (by omega))).symm⟩
      · exfalso
        omega
    | succ f ih =>
      intro k he hj
      have er : ar 3 ((k : Int).toNat) = gx xs k := hl k (by omega)
      have hg := gx_Bs hbs k
      refine ax_iload_n d_Mo_rowHas_2 rfl ?_
      refine ax_aload_n d_Mo_rowHas_3 rfl ?_
      refine ax_get d_Mo_rowHas_4 fg_Mo_87 (by first | assumption | exact hH.g 0 rfl | exact hH.g 1 rfl | exact hH.g 2 rfl | exact hH.g 3 rfl | exact hH.g 4 rfl | exact hH.g 5 rfl | exact hH.g 6 rfl | exact hH.g 7 rfl | exact hH.g 8 rfl | exact hH.g 9 rfl | exact hH.g 10 rfl | exact hH.g 11 rfl | exact hH.g 12 rfl | exact hH.g 13 rfl | exact hH.g 14 rfl | exact hH.g 15 rfl | exact hH.g 16 rfl | exact hH.g 17 rfl | exact hH.g 18 rfl) (by rfl) ?_
      refine az_icmp_ge 28 d_Mo_rowHas_7 (by decide) (by omega) (by omega) (fun hc => ?_) (fun hc => ?_)
      · exfalso
        omega
      · refine ax_aload_n d_Mo_rowHas_10 rfl ?_
        refine ax_get d_Mo_rowHas_11 fg_Mo_13 (by first | assumption | exact hH.g 0 rfl | exact hH.g 1 rfl | exact hH.g 2 rfl | exact hH.g 3 rfl | exact hH.g 4 rfl | exact hH.g 5 rfl | exact hH.g 6 rfl | exact hH.g 7 rfl | exact hH.g 8 rfl | exact hH.g 9 rfl | exact hH.g 10 rfl | exact hH.g 11 rfl | exact hH.g 12 rfl | exact hH.g 13 rfl | exact hH.g 14 rfl | exact hH.g 15 rfl | exact hH.g 16 rfl | exact hH.g 17 rfl | exact hH.g 18 rfl) (by rfl) ?_
        refine ax_iload_n d_Mo_rowHas_14 rfl ?_
        refine az_iald d_Mo_rowHas_15 (by first | assumption | exact hH.g 0 rfl | exact hH.g 1 rfl | exact hH.g 2 rfl | exact hH.g 3 rfl | exact hH.g 4 rfl | exact hH.g 5 rfl | exact hH.g 6 rfl | exact hH.g 7 rfl | exact hH.g 8 rfl | exact hH.g 9 rfl | exact hH.g 10 rfl | exact hH.g 11 rfl | exact hH.g 12 rfl | exact hH.g 13 rfl | exact hH.g 14 rfl | exact hH.g 15 rfl | exact hH.g 16 rfl | exact hH.g 17 rfl | exact hH.g 18 rfl) (by omega) (by omega) (by omega) ?_
        rw [er]
        refine ax_iload_n d_Mo_rowHas_16 rfl ?_
        refine az_icmp_ne 22 d_Mo_rowHas_17 (by decide) (by omega) (by omega) (fun hne => ?_) (fun hne => ?_)
        · refine az_iinc d_Mo_rowHas_22 rfl (by decide) rfl ?_
          refine ax_goto 2 d_Mo_rowHas_25 (by decide) ?_
          refine ih (k + 1) (by omega) (fun j hj2 => ?_)
          by_cases e : j = k
          · rw [e]; exact hne
          · exact hj j (by omega)
        · refine az_iconst d_Mo_rowHas_20 ?_
          refine ax_zret d_Mo_rowHas_21 rfl (by decide) ?_
          exact ⟨true, rfl, rfl, (cont_at (show k < xs.length by omega) hne).symm⟩
  exact key xs.length 0 (by omega) (fun j hj => by omega)
set_option maxRecDepth 100000 in
set_option maxHeartbeats 4000000 in
theorem c_Mo_putNoughts {h0 : ax_H} {iz : Nat → Int} {ar : Nat → Nat → Int} {ss : List Int} (hH : MoH h0 iz ar) (es : iz 14 = ss.length) (hs : la (ar 15) ss) {z : Nat} (hz : ss.length + z ≤ 901) : ax_Cv m_Mo_putNoughts 0 [.ref 47, .int (iv z)] h0 (fun h1 => (∃ iz1 ar1, MoH h1 iz1 ar1 ∧ KI [14] iz iz1 ∧ KA [15] ar ar1 ∧ iz1 14 = (ss ++ dg z).length ∧ la (ar1 15) (ss ++ dg z)) ∧ Fr MOS h0 h1) := by
  have hF : Fr MOS h0 h0 := Fr.rf
  refine ax_enter [some (.ref 47), some (.int (iv z)), none, none] rfl (Nat.le_of_ble_eq_true rfl) (by decide) ?_
  refine ax_iload_n d_Mo_putNoughts_0 rfl ?_
  refine ax_istore_n d_Mo_putNoughts_1 (by decide) rfl ?_
  have key : ∀ (f q : Nat) (ts : List Int) (iz1 : Nat → Int) (ar1 : Nat → Nat → Int) (h : ax_H), q ≤ f → ts.length + q ≤ 901 → ts ++ dgF f q = ss ++ dg z → MoH h iz1 ar1 → Fr MOS h0 h → KI [14] iz iz1 → KA [15] ar ar1 → iz1 14 = ts.length → la (ar1 15) ts → ∀ v3 : Option Value,
      ax_W m_Mo_putNoughts 0 2 [some (.ref 47), some (.int (iv z)), some (.int (iv q)), v3] [] h (fun r0 h1 => r0 = none ∧ (∃ iz1 ar1, MoH h1 iz1 ar1 ∧ KI [14] iz iz1 ∧ KA [15] ar ar1 ∧ iz1 14 = (ss ++ dg z).length ∧ la (ar1 15) (ss ++ dg z)) ∧ Fr MOS h0 h1) := by
    intro f
    induction f with
    | zero =>
      intro q ts iz1 ar1 h hq hl he hH hF ki ka e14 hla v3
      refine ax_iload_n d_Mo_putNoughts_2 rfl ?_
      refine az_if_le 47 d_Mo_putNoughts_3 (by decide) (by first | exact bz_in _ | omega) (fun hc => ?_) (fun hc => ?_)
      · refine ax_vret d_Mo_putNoughts_47 rfl ?_
        rw [dgF, List.append_nil] at he
        rw [he] at e14 hla
        exact ⟨rfl, ⟨iz1, ar1, hH, ki, ka, e14, hla⟩, hF⟩
      · exfalso
        omega
    | succ f ih =>
      intro q ts iz1 ar1 h hq hl he hH hF ki ka e14 hla v3
      rw [dgF] at he
      refine ax_iload_n d_Mo_putNoughts_2 rfl ?_
      refine az_if_le 47 d_Mo_putNoughts_3 (by decide) (by first | exact bz_in _ | omega) (fun h0q => ?_) (fun h0q => ?_)
      · rw [if_pos (by omega), List.append_nil] at he
        refine ax_vret d_Mo_putNoughts_47 rfl ?_
        rw [he] at e14 hla
        exact ⟨rfl, ⟨iz1, ar1, hH, ki, ka, e14, hla⟩, hF⟩
      · rw [if_neg (by omega)] at he
        have rest : ∀ d : Nat, (d = 1 ∨ d = 2) → (q - 1) % 2 = d - 1 → d ≤ q → ax_W m_Mo_putNoughts 0 18 [some (.ref 47), some (.int (iv z)), some (.int (iv q)), v3] [.int (iv d)] h (fun r0 h1 => r0 = none ∧ (∃ iz1 ar1, MoH h1 iz1 ar1 ∧ KI [14] iz iz1 ∧ KA [15] ar ar1 ∧ iz1 14 = (ss ++ dg z).length ∧ la (ar1 15) (ss ++ dg z)) ∧ Fr MOS h0 h1) := by
          intro d hd hdm hdq
          have eq2 : ((q : Int) - (d : Int)) / 2 = (((q - 1) / 2 : Nat) : Int) := by omega
          refine ax_istore_n d_Mo_putNoughts_18 (by decide) rfl ?_
          refine ax_aload_n d_Mo_putNoughts_19 rfl ?_
          refine ax_get d_Mo_putNoughts_20 fg_Mo_34 (by first | assumption | exact hH.g 0 rfl | exact hH.g 1 rfl | exact hH.g 2 rfl | exact hH.g 3 rfl | exact hH.g 4 rfl | exact hH.g 5 rfl | exact hH.g 6 rfl | exact hH.g 7 rfl | exact hH.g 8 rfl | exact hH.g 9 rfl | exact hH.g 10 rfl | exact hH.g 11 rfl | exact hH.g 12 rfl | exact hH.g 13 rfl | exact hH.g 14 rfl | exact hH.g 15 rfl | exact hH.g 16 rfl | exact hH.g 17 rfl | exact hH.g 18 rfl) (by rfl) ?_
          refine ax_aload_n d_Mo_putNoughts_23 rfl ?_
          refine ax_dup d_Mo_putNoughts_24 rfl ?_
          refine ax_get d_Mo_putNoughts_25 fg_Mo_135 (by first | assumption | exact hH.g 0 rfl | exact hH.g 1 rfl | exact hH.g 2 rfl | exact hH.g 3 rfl | exact hH.g 4 rfl | exact hH.g 5 rfl | exact hH.g 6 rfl | exact hH.g 7 rfl | exact hH.g 8 rfl | exact hH.g 9 rfl | exact hH.g 10 rfl | exact hH.g 11 rfl | exact hH.g 12 rfl | exact hH.g 13 rfl | exact hH.g 14 rfl | exact hH.g 15 rfl | exact hH.g 16 rfl | exact hH.g 17 rfl | exact hH.g 18 rfl) (by rfl) ?_
          refine ax_dup_x1 d_Mo_putNoughts_28 rfl rfl ?_
          refine az_iconst d_Mo_putNoughts_29 ?_
          refine az_iadd d_Mo_putNoughts_30 ?_
          first | refine ah_put d_Mo_putNoughts_31 fp_Mo_135 hH hF 0 rfl rfl rfl (by first | rfl | decide) (Nat.le_of_ble_eq_true rfl) (fun h hH hF => ?_) | refine ah_put d_Mo_putNoughts_31 fp_Mo_135 hH hF 1 rfl rfl rfl (by first | rfl | decide) (Nat.le_of_ble_eq_true rfl) (fun h hH hF => ?_) | refine ah_put d_Mo_putNoughts_31 fp_Mo_135 hH hF 2 rfl rfl rfl (by first | rfl | decide) (Nat.le_of_ble_eq_true rfl) (fun h hH hF => ?_) | refine ah_put d_Mo_putNoughts_31 fp_Mo_135 hH hF 3 rfl rfl rfl (by first | rfl | decide) (Nat.le_of_ble_eq_true rfl) (fun h hH hF => ?_) | refine ah_put d_Mo_putNoughts_31 fp_Mo_135 hH hF 4 rfl rfl rfl (by first | rfl | decide) (Nat.le_of_ble_eq_true rfl) (fun h hH hF => ?_) | refine ah_put d_Mo_putNoughts_31 fp_Mo_135 hH hF 5 rfl rfl rfl (by first | rfl | decide) (Nat.le_of_ble_eq_true rfl) (fun h hH hF => ?_) | refine ah_put d_Mo_putNoughts_31 fp_Mo_135 hH hF 6 rfl rfl rfl (by first | rfl | decide) (Nat.le_of_ble_eq_true rfl) (fun h hH hF => ?_) | refine ah_put d_Mo_putNoughts_31 fp_Mo_135 hH hF 7 rfl rfl rfl (by first | rfl | decide) (Nat.le_of_ble_eq_true rfl) (fun h hH hF => ?_) | refine ah_put d_Mo_putNoughts_31 fp_Mo_135 hH hF 8 rfl rfl rfl (by first | rfl | decide) (Nat.le_of_ble_eq_true rfl) (fun h hH hF => ?_) | refine ah_put d_Mo_putNoughts_31 fp_Mo_135 hH hF 9 rfl rfl rfl (by first | rfl | decide) (Nat.le_of_ble_eq_true rfl) (fun h hH hF => ?_) | refine ah_put d_Mo_putNoughts_31 fp_Mo_135 hH hF 10 rfl rfl rfl (by first | rfl | decide) (Nat.le_of_ble_eq_true rfl) (fun h hH hF => ?_) | refine ah_put d_Mo_putNoughts_31 fp_Mo_135 hH hF 11 rfl rfl rfl (by first | rfl | decide) (Nat.le_of_ble_eq_true rfl) (fun h hH hF => ?_) | refine ah_put d_Mo_putNoughts_31 fp_Mo_135 hH hF 12 rfl rfl rfl (by first | rfl | decide) (Nat.le_of_ble_eq_true rfl) (fun h hH hF => ?_) | refine ah_put d_Mo_putNoughts_31 fp_Mo_135 hH hF 13 rfl rfl rfl (by first | rfl | decide) (Nat.le_of_ble_eq_true rfl) (fun h hH hF => ?_) | refine ah_put d_Mo_putNoughts_31 fp_Mo_135 hH hF 14 rfl rfl rfl (by first | rfl | decide) (Nat.le_of_ble_eq_true rfl) (fun h hH hF => ?_) | refine ah_put d_Mo_putNoughts_31 fp_Mo_135 hH hF 15 rfl rfl rfl (by first | rfl | decide) (Nat.le_of_ble_eq_true rfl) (fun h hH hF => ?_) | refine ah_put d_Mo_putNoughts_31 fp_Mo_135 hH hF 16 rfl rfl rfl (by first | rfl | decide) (Nat.le_of_ble_eq_true rfl) (fun h hH hF => ?_) | refine ah_put d_Mo_putNoughts_31 fp_Mo_135 hH hF 17 rfl rfl rfl (by first | rfl | decide) (Nat.le_of_ble_eq_true rfl) (fun h hH hF => ?_) | refine ah_put d_Mo_putNoughts_31 fp_Mo_135 hH hF 18 rfl rfl rfl (by first | rfl | decide) (Nat.le_of_ble_eq_true rfl) (fun h hH hF => ?_)
          refine ax_iload_n d_Mo_putNoughts_34 rfl ?_
          refine az_iconst d_Mo_putNoughts_35 ?_
          refine az_isub d_Mo_putNoughts_36 ?_
          first | refine ah_iast d_Mo_putNoughts_37 hH hF 0 rfl rfl (by omega) (by omega) (by omega) (by omega) (fun h hH hF => ?_) | refine ah_iast d_Mo_putNoughts_37 hH hF 1 rfl rfl (by omega) (by omega) (by omega) (by omega) (fun h hH hF => ?_) | refine ah_iast d_Mo_putNoughts_37 hH hF 2 rfl rfl (by omega) (by omega) (by omega) (by omega) (fun h hH hF => ?_) | refine ah_iast d_Mo_putNoughts_37 hH hF 3 rfl rfl (by omega) (by omega) (by omega) (by omega) (fun h hH hF => ?_) | refine ah_iast d_Mo_putNoughts_37 hH hF 4 rfl rfl (by omega) (by omega) (by omega) (by omega) (fun h hH hF => ?_) | refine ah_iast d_Mo_putNoughts_37 hH hF 5 rfl rfl (by omega) (by omega) (by omega) (by omega) (fun h hH hF => ?_) | refine ah_iast d_Mo_putNoughts_37 hH hF 6 rfl rfl (by omega) (by omega) (by omega) (by omega) (fun h hH hF => ?_) | refine ah_iast d_Mo_putNoughts_37 hH hF 7 rfl rfl (by omega) (by omega) (by omega) (by omega) (fun h hH hF => ?_) | refine ah_iast d_Mo_putNoughts_37 hH hF 8 rfl rfl (by omega) (by omega) (by omega) (by omega) (fun h hH hF => ?_) | refine ah_iast d_Mo_putNoughts_37 hH hF 9 rfl rfl (by omega) (by omega) (by omega) (by omega) (fun h hH hF => ?_) | refine ah_iast d_Mo_putNoughts_37 hH hF 10 rfl rfl (by omega) (by omega) (by omega) (by omega) (fun h hH hF => ?_) | refine ah_iast d_Mo_putNoughts_37 hH hF 11 rfl rfl (by omega) (by omega) (by omega) (by omega) (fun h hH hF => ?_) | refine ah_iast d_Mo_putNoughts_37 hH hF 12 rfl rfl (by omega) (by omega) (by omega) (by omega) (fun h hH hF => ?_) | refine ah_iast d_Mo_putNoughts_37 hH hF 13 rfl rfl (by omega) (by omega) (by omega) (by omega) (fun h hH hF => ?_) | refine ah_iast d_Mo_putNoughts_37 hH hF 14 rfl rfl (by omega) (by omega) (by omega) (by omega) (fun h hH hF => ?_) | refine ah_iast d_Mo_putNoughts_37 hH hF 15 rfl rfl (by omega) (by omega) (by omega) (by omega) (fun h hH hF => ?_) | refine ah_iast d_Mo_putNoughts_37 hH hF 16 rfl rfl (by omega) (by omega) (by omega) (by omega) (fun h hH hF => ?_) | refine ah_iast d_Mo_putNoughts_37 hH hF 17 rfl rfl (by omega) (by omega) (by omega) (by omega) (fun h hH hF => ?_) | refine ah_iast d_Mo_putNoughts_37 hH hF 18 rfl rfl (by omega) (by omega) (by omega) (by omega) (fun h hH hF => ?_)
          refine ax_iload_n d_Mo_putNoughts_38 rfl ?_
          refine ax_iload_n d_Mo_putNoughts_39 rfl ?_
          refine az_isub d_Mo_putNoughts_40 ?_
          refine az_iconst d_Mo_putNoughts_41 ?_
          refine az_idiv d_Mo_putNoughts_42 (by omega) (by omega) ?_
          rw [eq2]
          refine ax_istore_n d_Mo_putNoughts_43 (by decide) rfl ?_
          refine ax_goto 2 d_Mo_putNoughts_44 (by decide) ?_
          refine ih ((q - 1) / 2) (ts ++ [((d - 1 : Nat) : Int)]) (up iz1 14 (iz1 14 + 1)) (upA ar1 15 _) h (by omega) (by simp; omega) ?_ hH hF (ki.up 14 _ rfl) (ka.up 15 _ rfl) ?_ ?_ _
          · rw [List.append_assoc, ← he, hdm]
            rfl
          · show iz1 14 + 1 = _
            rw [List.length_append]
            simp
            omega
          · have e1 : (d : Int) - 1 = ((d - 1 : Nat) : Int) := by omega
            show la (up (ar1 15) (iz1 14).toNat ((d : Int) - 1)) _
            rw [e1]
            exact la_take_succ hla (by omega) _
        have em : (q : Int) % 2 = ((q % 2 : Nat) : Int) := by omega
        refine ax_iload_n d_Mo_putNoughts_6 rfl ?_
        refine az_iconst d_Mo_putNoughts_7 ?_
        refine az_irem d_Mo_putNoughts_8 (by omega) (by omega) ?_
        rw [em]
        refine az_iconst d_Mo_putNoughts_9 ?_
        refine az_icmp_ne 17 d_Mo_putNoughts_10 (by decide) (by omega) (by omega) (fun hodd => ?_) (fun hodd => ?_)
        · refine az_iconst d_Mo_putNoughts_17 ?_
          exact rest 2 (Or.inr rfl) (by omega) (by omega)
        · refine az_iconst d_Mo_putNoughts_13 ?_
          refine ax_goto 18 d_Mo_putNoughts_14 (by decide) ?_
          exact rest 1 (Or.inl rfl) (by omega) (by omega)
  exact key z z ss iz ar h0 (Nat.le_refl _) hz rfl hH hF KI.rf KA.rf es hs none
theorem mtf_front {l : List Int} (h : 0 < l.length) : mtf l 0 = l := by
  refine gx_ext (mtf_len l 0) (fun i hi => ?_)
  rw [mtf_len] at hi
  show (mtf l 0).getD i 0 = l.getD i 0
  rw [mtf, mk_at hi]
  by_cases e : i = 0
  · rw [if_pos e, e]
  · rw [if_neg e, if_neg (by omega)]
theorem fidx_bef : ∀ (l : List Int) (b : Int) (j : Nat), j < fidx l b → l.getD j 0 ≠ b
  | [], _, _, h => by simp [fidx] at h
  | x :: t, b, j, h => by
    rw [fidx] at h
    split at h
    · omega
    · rename_i hx
      cases j with
      | zero => simpa using hx
      | succ j => simpa using fidx_bef t b j (by omega)
set_option maxRecDepth 100000 in
set_option maxHeartbeats 4000000 in
theorem c_Mo_toFront {h0 : ax_H} {iz : Nat → Int} {ar : Nat → Nat → Int} {l : List Int} (hH : MoH h0 iz ar) (hl : la (ar 13) l) (hn : l.length ≤ 256) (hbs : Bs l) {b : Int} (hb : inL l b) : ax_Ci m_Mo_toFront 0 [.ref 47, .int (iv b)] h0 (fun z h1 => z = fidx l b ∧ (∃ ar1, MoH h1 iz ar1 ∧ KA [13] ar ar1 ∧ la (ar1 13) (mtf l (fidx l b))) ∧ Fr MOS h0 h1) := by
  have hF : Fr MOS h0 h0 := Fr.rf
  obtain ⟨hfl, hfv⟩ := fidx_lt l b hb
  have hfb := fidx_bef l b
  have hbr : 0 ≤ b ∧ b < 256 := by rw [← hfv]; exact hbs _ hfl
  refine ax_enter [some (.ref 47), some (.int (iv b)), none, none] rfl (Nat.le_of_ble_eq_true rfl) (by decide) ?_
  refine az_iconst d_Mo_toFront_0 ?_
  refine ax_istore_n d_Mo_toFront_1 (by decide) rfl ?_
  -- the ones ahead move on
  have move : ∀ (k : Nat) (ar1 : Nat → Nat → Int) (h : ax_H), k ≤ fidx l b → MoH h iz ar1 → Fr MOS h0 h → KA [13] ar ar1 → (∀ j : Nat, j < l.length → ar1 13 j = if k < j ∧ j ≤ fidx l b then l.getD (j - 1) 0 else l.getD j 0) →
      ax_W m_Mo_toFront 0 20 [some (.ref 47), some (.int (iv b)), some (.int (iv ((fidx l b : Nat) : Int))), some (.int (iv k))] [] h (fun r0 h1 => ∃ z : Int, r0 = some (.int (iv z)) ∧ z = fidx l b ∧ (∃ ar1, MoH h1 iz ar1 ∧ KA [13] ar ar1 ∧ la (ar1 13) (mtf l (fidx l b))) ∧ Fr MOS h0 h1) := by
    intro k
    induction k with
    | zero =>
      intro ar1 h hk hH hF ka hg
      refine ax_iload_n d_Mo_toFront_20 rfl ?_
      refine az_if_le 44 d_Mo_toFront_21 (by decide) (by first | exact bz_in _ | omega) (fun hc => ?_) (fun hc => ?_)
      · refine ax_aload_n d_Mo_toFront_44 rfl ?_
        refine ax_get d_Mo_toFront_45 fg_Mo_31 (by first | assumption | exact hH.g 0 rfl | exact hH.g 1 rfl | exact hH.g 2 rfl | exact hH.g 3 rfl | exact hH.g 4 rfl | exact hH.g 5 rfl | exact hH.g 6 rfl | exact hH.g 7 rfl | exact hH.g 8 rfl | exact hH.g 9 rfl | exact hH.g 10 rfl | exact hH.g 11 rfl | exact hH.g 12 rfl | exact hH.g 13 rfl | exact hH.g 14 rfl | exact hH.g 15 rfl | exact hH.g 16 rfl | exact hH.g 17 rfl | exact hH.g 18 rfl) (by rfl) ?_
        refine az_iconst d_Mo_toFront_48 ?_
        refine ax_iload_n d_Mo_toFront_49 rfl ?_
        first | refine ah_iast d_Mo_toFront_50 hH hF 0 rfl rfl (by omega) (by omega) (by omega) (by omega) (fun h hH hF => ?_) | refine ah_iast d_Mo_toFront_50 hH hF 1 rfl rfl (by omega) (by omega) (by omega) (by omega) (fun h hH hF => ?_) | refine ah_iast d_Mo_toFront_50 hH hF 2 rfl rfl (by omega) (by omega) (by omega) (by omega) (fun h hH hF => ?_) | refine ah_iast d_Mo_toFront_50 hH hF 3 rfl rfl (by omega) (by omega) (by omega) (by omega) (fun h hH hF => ?_) | refine ah_iast d_Mo_toFront_50 hH hF 4 rfl rfl (by omega) (by omega) (by omega) (by omega) (fun h hH hF => ?_) | refine ah_iast d_Mo_toFront_50 hH hF 5 rfl rfl (by omega) (by omega) (by omega) (by omega) (fun h hH hF => ?_) | refine ah_iast d_Mo_toFront_50 hH hF 6 rfl rfl (by omega) (by omega) (by omega) (by omega) (fun h hH hF => ?_) | refine ah_iast d_Mo_toFront_50 hH hF 7 rfl rfl (by omega) (by omega) (by omega) (by omega) (fun h hH hF => ?_) | refine ah_iast d_Mo_toFront_50 hH hF 8 rfl rfl (by omega) (by omega) (by omega) (by omega) (fun h hH hF => ?_) | refine ah_iast d_Mo_toFront_50 hH hF 9 rfl rfl (by omega) (by omega) (by omega) (by omega) (fun h hH hF => ?_) | refine ah_iast d_Mo_toFront_50 hH hF 10 rfl rfl (by omega) (by omega) (by omega) (by omega) (fun h hH hF => ?_) | refine ah_iast d_Mo_toFront_50 hH hF 11 rfl rfl (by omega) (by omega) (by omega) (by omega) (fun h hH hF => ?_) | refine ah_iast d_Mo_toFront_50 hH hF 12 rfl rfl (by omega) (by omega) (by omega) (by omega) (fun h hH hF => ?_) | refine ah_iast d_Mo_toFront_50 hH hF 13 rfl rfl (by omega) (by omega) (by omega) (by omega) (fun h hH hF => ?_) | refine ah_iast d_Mo_toFront_50 hH hF 14 rfl rfl (by omega) (by omega) (by omega) (by omega) (fun h hH hF => ?_) | refine ah_iast d_Mo_toFront_50 hH hF 15 rfl rfl (by omega) (by omega) (by omega) (by omega) (fun h hH hF => ?_) | refine ah_iast d_Mo_toFront_50 hH hF 16 rfl rfl (by omega) (by omega) (by omega) (by omega) (fun h hH hF => ?_) | refine ah_iast d_Mo_toFront_50 hH hF 17 rfl rfl (by omega) (by omega) (by omega) (by omega) (fun h hH hF => ?_) | refine ah_iast d_Mo_toFront_50 hH hF 18 rfl rfl (by omega) (by omega) (by omega) (by omega) (fun h hH hF => ?_)
        refine ax_iload_n d_Mo_toFront_51 rfl ?_
        refine ax_iret d_Mo_toFront_52 rfl ?_
        refine ⟨_, rfl, rfl, ⟨upA ar1 13 (up (ar1 13) 0 b), hH, ka.up 13 _ rfl, fun i hi => ?_⟩, hF⟩
        rw [mtf_len] at hi
        show up (ar1 13) 0 b i = _
        rw [mtf, mk_at hi]
        by_cases e : i = 0
        · rw [e, up_at, if_pos rfl, hfv]
        · rw [up_ne e, if_neg e, hg i hi]
          by_cases e2 : i ≤ fidx l b
          · rw [if_pos ⟨by omega, e2⟩, if_pos e2]
          · rw [if_neg (by omega), if_neg e2]
      · exfalso
        omega
    | succ k ih =>
      intro ar1 h hk hH hF ka hg
      have ek : ((k + 1 : Nat) : Int) - 1 = (k : Int) := by omega
      have ek2 : ((k + 1 : Nat) : Int) + -1 = (k : Int) := by omega
      have hgk : ar1 13 ((k : Int).toNat) = l.getD k 0 := by
        rw [show ((k : Nat) : Int).toNat = k by omega, hg k (by omega), if_neg (by omega)]
      refine ax_iload_n d_Mo_toFront_20 rfl ?_
      refine az_if_le 44 d_Mo_toFront_21 (by decide) (by first | exact bz_in _ | omega) (fun hc => ?_) (fun hc => ?_)
      · exfalso
        omega
      · refine ax_aload_n d_Mo_toFront_24 rfl ?_
        refine ax_get d_Mo_toFront_25 fg_Mo_31 (by first | assumption | exact hH.g 0 rfl | exact hH.g 1 rfl | exact hH.g 2 rfl | exact hH.g 3 rfl | exact hH.g 4 rfl | exact hH.g 5 rfl | exact hH.g 6 rfl | exact hH.g 7 rfl | exact hH.g 8 rfl | exact hH.g 9 rfl | exact hH.g 10 rfl | exact hH.g 11 rfl | exact hH.g 12 rfl | exact hH.g 13 rfl | exact hH.g 14 rfl | exact hH.g 15 rfl | exact hH.g 16 rfl | exact hH.g 17 rfl | exact hH.g 18 rfl) (by rfl) ?_
        refine ax_iload_n d_Mo_toFront_28 rfl ?_
        refine ax_aload_n d_Mo_toFront_29 rfl ?_
        refine ax_get d_Mo_toFront_30 fg_Mo_31 (by first | assumption | exact hH.g 0 rfl | exact hH.g 1 rfl | exact hH.g 2 rfl | exact hH.g 3 rfl | exact hH.g 4 rfl | exact hH.g 5 rfl | exact hH.g 6 rfl | exact hH.g 7 rfl | exact hH.g 8 rfl | exact hH.g 9 rfl | exact hH.g 10 rfl | exact hH.g 11 rfl | exact hH.g 12 rfl | exact hH.g 13 rfl | exact hH.g 14 rfl | exact hH.g 15 rfl | exact hH.g 16 rfl | exact hH.g 17 rfl | exact hH.g 18 rfl) (by rfl) ?_
        refine ax_iload_n d_Mo_toFront_33 rfl ?_
        refine az_iconst d_Mo_toFront_34 ?_
        refine az_isub d_Mo_toFront_35 ?_
        rw [ek]
        refine az_iald d_Mo_toFront_36 (by first | assumption | exact hH.g 0 rfl | exact hH.g 1 rfl | exact hH.g 2 rfl | exact hH.g 3 rfl | exact hH.g 4 rfl | exact hH.g 5 rfl | exact hH.g 6 rfl | exact hH.g 7 rfl | exact hH.g 8 rfl | exact hH.g 9 rfl | exact hH.g 10 rfl | exact hH.g 11 rfl | exact hH.g 12 rfl | exact hH.g 13 rfl | exact hH.g 14 rfl | exact hH.g 15 rfl | exact hH.g 16 rfl | exact hH.g 17 rfl | exact hH.g 18 rfl) (by omega) (by omega) (by omega) ?_
        rw [hgk]
        first | refine ah_iast d_Mo_toFront_37 hH hF 0 rfl rfl (by omega) (by omega) (by omega) (by omega) (fun h hH hF => ?_) | refine ah_iast d_Mo_toFront_37 hH hF 1 rfl rfl (by omega) (by omega) (by omega) (by omega) (fun h hH hF => ?_) | refine ah_iast d_Mo_toFront_37 hH hF 2 rfl rfl (by omega) (by omega) (by omega) (by omega) (fun h hH hF => ?_) | refine ah_iast d_Mo_toFront_37 hH hF 3 rfl rfl (by omega) (by omega) (by omega) (by omega) (fun h hH hF => ?_) | refine ah_iast d_Mo_toFront_37 hH hF 4 rfl rfl (by omega) (by omega) (by omega) (by omega) (fun h hH hF => ?_) | refine ah_iast d_Mo_toFront_37 hH hF 5 rfl rfl (by omega) (by omega) (by omega) (by omega) (fun h hH hF => ?_) | refine ah_iast d_Mo_toFront_37 hH hF 6 rfl rfl (by omega) (by omega) (by omega) (by omega) (fun h hH hF => ?_) | refine ah_iast d_Mo_toFront_37 hH hF 7 rfl rfl (by omega) (by omega) (by omega) (by omega) (fun h hH hF => ?_) | refine ah_iast d_Mo_toFront_37 hH hF 8 rfl rfl (by omega) (by omega) (by omega) (by omega) (fun h hH hF => ?_) | refine ah_iast d_Mo_toFront_37 hH hF 9 rfl rfl (by omega) (by omega) (by omega) (by omega) (fun h hH hF => ?_) | refine ah_iast d_Mo_toFront_37 hH hF 10 rfl rfl (by omega) (by omega) (by omega) (by omega) (fun h hH hF => ?_) | refine ah_iast d_Mo_toFront_37 hH hF 11 rfl rfl (by omega) (by omega) (by omega) (by omega) (fun h hH hF => ?_) | refine ah_iast d_Mo_toFront_37 hH hF 12 rfl rfl (by omega) (by omega) (by omega) (by omega) (fun h hH hF => ?_) | refine ah_iast d_Mo_toFront_37 hH hF 13 rfl rfl (by omega) (by omega) (by omega) (by omega) (fun h hH hF => ?_) | refine ah_iast d_Mo_toFront_37 hH hF 14 rfl rfl (by omega) (by omega) (by omega) (by omega) (fun h hH hF => ?_) | refine ah_iast d_Mo_toFront_37 hH hF 15 rfl rfl (by omega) (by omega) (by omega) (by omega) (fun h hH hF => ?_) | refine ah_iast d_Mo_toFront_37 hH hF 16 rfl rfl (by omega) (by omega) (by omega) (by omega) (fun h hH hF => ?_) | refine ah_iast d_Mo_toFront_37 hH hF 17 rfl rfl (by omega) (by omega) (by omega) (by omega) (fun h hH hF => ?_) | refine ah_iast d_Mo_toFront_37 hH hF 18 rfl rfl (by omega) (by omega) (by omega) (by omega) (fun h hH hF => ?_)
        refine az_iinc d_Mo_toFront_38 rfl (by decide) rfl ?_
        rw [ek2]
        refine ax_goto 20 d_Mo_toFront_41 (by decide) ?_
        refine ih (upA ar1 13 (up (ar1 13) (k + 1) (l.getD k 0))) h (by omega) hH hF (ka.up 13 _ rfl) (fun j hj => ?_)
        show up (ar1 13) (k + 1) (l.getD k 0) j = _
        by_cases e : j = k + 1
        · rw [e, up_at, if_pos (by omega), Nat.add_sub_cancel]
        · rw [up_ne e, hg j hj]
          by_cases e2 : k + 1 < j ∧ j ≤ fidx l b
          · rw [if_pos e2, if_pos (by omega)]
          · rw [if_neg e2, if_neg (by omega)]
  have key : ∀ (f v : Nat), v + f = fidx l b →
      ax_W m_Mo_toFront 0 2 [some (.ref 47), some (.int (iv b)), some (.int (iv v)), none] [] h0 (fun r0 h1 => ∃ z : Int, r0 = some (.int (iv z)) ∧ z = fidx l b ∧ (∃ ar1, MoH h1 iz ar1 ∧ KA [13] ar ar1 ∧ la (ar1 13) (mtf l (fidx l b))) ∧ Fr MOS h0 h1) := by
    intro f
    induction f with
    | zero =>
      intro v hv
      have ev : v = fidx l b := by omega
      subst ev
      have er : ar 13 (((fidx l b : Nat) : Int).toNat) = b := by rw [show ((fidx l b : Nat) : Int).toNat = fidx l b by omega, hl _ hfl, hfv]
      refine ax_aload_n d_Mo_toFront_2 rfl ?_
      refine ax_get d_Mo_toFront_3 fg_Mo_31 (by first | assumption | exact hH.g 0 rfl | exact hH.g 1 rfl | exact hH.g 2 rfl | exact hH.g 3 rfl | exact hH.g 4 rfl | exact hH.g 5 rfl | exact hH.g 6 rfl | exact hH.g 7 rfl | exact hH.g 8 rfl | exact hH.g 9 rfl | exact hH.g 10 rfl | exact hH.g 11 rfl | exact hH.g 12 rfl | exact hH.g 13 rfl | exact hH.g 14 rfl | exact hH.g 15 rfl | exact hH.g 16 rfl | exact hH.g 17 rfl | exact hH.g 18 rfl) (by rfl) ?_
      refine ax_iload_n d_Mo_toFront_6 rfl ?_
      refine az_iald d_Mo_toFront_7 (by first | assumption | exact hH.g 0 rfl | exact hH.g 1 rfl | exact hH.g 2 rfl | exact hH.g 3 rfl | exact hH.g 4 rfl | exact hH.g 5 rfl | exact hH.g 6 rfl | exact hH.g 7 rfl | exact hH.g 8 rfl | exact hH.g 9 rfl | exact hH.g 10 rfl | exact hH.g 11 rfl | exact hH.g 12 rfl | exact hH.g 13 rfl | exact hH.g 14 rfl | exact hH.g 15 rfl | exact hH.g 16 rfl | exact hH.g 17 rfl | exact hH.g 18 rfl) (by omega) (by omega) (by omega) ?_
      rw [er]
      refine ax_iload_n d_Mo_toFront_8 rfl ?_
      refine az_icmp_eq 18 d_Mo_toFront_9 (by decide) (by omega) (by omega) (fun hc => ?_) (fun hc => ?_)
      · refine ax_iload_n d_Mo_toFront_18 rfl ?_
        refine ax_istore_n d_Mo_toFront_19 (by decide) rfl ?_
        exact move (fidx l b) ar h0 (Nat.le_refl _) hH hF KA.rf (fun j hj => by rw [if_neg (by omega)]; exact hl j hj)
      · exfalso
        omega
    | succ f ih =>
      intro v hv
      have er : ar 13 ((v : Int).toNat) = l.getD v 0 := hl v (by omega)
      have hne := hfb v (by omega)
      have hg := hbs v (by omega)
      refine ax_aload_n d_Mo_toFront_2 rfl ?_
      refine ax_get d_Mo_toFront_3 fg_Mo_31 (by first | assumption | exact hH.g 0 rfl | exact hH.g 1 rfl | exact hH.g 2 rfl | exact hH.g 3 rfl | exact hH.g 4 rfl | exact hH.g 5 rfl | exact hH.g 6 rfl | exact hH.g 7 rfl | exact hH.g 8 rfl | exact hH.g 9 rfl | exact hH.g 10 rfl | exact hH.g 11 rfl | exact hH.g 12 rfl | exact hH.g 13 rfl | exact hH.g 14 rfl | exact hH.g 15 rfl | exact hH.g 16 rfl | exact hH.g 17 rfl | exact hH.g 18 rfl) (by rfl) ?_
      refine ax_iload_n d_Mo_toFront_6 rfl ?_
      refine az_iald d_Mo_toFront_7 (by first | assumption | exact hH.g 0 rfl | exact hH.g 1 rfl | exact hH.g 2 rfl | exact hH.g 3 rfl | exact hH.g 4 rfl | exact hH.g 5 rfl | exact hH.g 6 rfl | exact hH.g 7 rfl | exact hH.g 8 rfl | exact hH.g 9 rfl | exact hH.g 10 rfl | exact hH.g 11 rfl | exact hH.g 12 rfl | exact hH.g 13 rfl | exact hH.g 14 rfl | exact hH.g 15 rfl | exact hH.g 16 rfl | exact hH.g 17 rfl | exact hH.g 18 rfl) (by omega) (by omega) (by omega) ?_
      rw [er]
      refine ax_iload_n d_Mo_toFront_8 rfl ?_
      refine az_icmp_eq 18 d_Mo_toFront_9 (by decide) (by omega) (by omega) (fun heq => ?_) (fun heq => ?_)
      · exact absurd heq hne
      · refine az_iinc d_Mo_toFront_12 rfl (by decide) rfl ?_
        refine ax_goto 2 d_Mo_toFront_15 (by decide) ?_
        exact ih (v + 1) (by omega)
  exact key (fidx l b) 0 (by omega)
set_option maxRecDepth 100000 in
set_option maxHeartbeats 8000000 in
theorem c_Mo_makeSymbols {h0 : ax_H} {iz : Nat → Int} {ar : Nat → Nat → Int} {xs : List Int} (hH : MoH h0 iz ar) (hR : RwS iz ar xs) : ax_Cv m_Mo_makeSymbols 1 [.ref 47] h0 (fun h1 => (∃ iz1 ar1, MoH h1 iz1 ar1 ∧ KI [12, 14] iz iz1 ∧ KA [13, 15] ar ar1 ∧ iz1 12 = (lst xs).length ∧ iz1 14 = (sy xs).length ∧ la (ar1 15) (sy xs)) ∧ Fr MOS h0 h1) := by
  obtain ⟨e2, hn, hl, hbs⟩ := id hR
  have hF : Fr MOS h0 h0 := Fr.rf
  have hll := lst_len xs
  refine ax_enter [some (.ref 47), none, none, none] rfl (Nat.le_of_ble_eq_true rfl) (by decide) ?_
  refine ax_aload_n d_Mo_makeSymbols_0 rfl ?_
  refine az_iconst d_Mo_makeSymbols_1 ?_
  first | refine ah_put d_Mo_makeSymbols_2 fp_Mo_138 hH hF 0 rfl rfl rfl (by first | rfl | decide) (Nat.le_of_ble_eq_true rfl) (fun h hH hF => ?_) | refine ah_put d_Mo_makeSymbols_2 fp_Mo_138 hH hF 1 rfl rfl rfl (by first | rfl | decide) (Nat.le_of_ble_eq_true rfl) (fun h hH hF => ?_) | refine ah_put d_Mo_makeSymbols_2 fp_Mo_138 hH hF 2 rfl rfl rfl (by first | rfl | decide) (Nat.le_of_ble_eq_true rfl) (fun h hH hF => ?_) | refine ah_put d_Mo_makeSymbols_2 fp_Mo_138 hH hF 3 rfl rfl rfl (by first | rfl | decide) (Nat.le_of_ble_eq_true rfl) (fun h hH hF => ?_) | refine ah_put d_Mo_makeSymbols_2 fp_Mo_138 hH hF 4 rfl rfl rfl (by first | rfl | decide) (Nat.le_of_ble_eq_true rfl) (fun h hH hF => ?_) | refine ah_put d_Mo_makeSymbols_2 fp_Mo_138 hH hF 5 rfl rfl rfl (by first | rfl | decide) (Nat.le_of_ble_eq_true rfl) (fun h hH hF => ?_) | refine ah_put d_Mo_makeSymbols_2 fp_Mo_138 hH hF 6 rfl rfl rfl (by first | rfl | decide) (Nat.le_of_ble_eq_true rfl) (fun h hH hF => ?_) | refine ah_put d_Mo_makeSymbols_2 fp_Mo_138 hH hF 7 rfl rfl rfl (by first | rfl | decide) (Nat.le_of_ble_eq_true rfl) (fun h hH hF => ?_) | refine ah_put d_Mo_makeSymbols_2 fp_Mo_138 hH hF 8 rfl rfl rfl (by first | rfl | decide) (Nat.le_of_ble_eq_true rfl) (fun h hH hF => ?_) | refine ah_put d_Mo_makeSymbols_2 fp_Mo_138 hH hF 9 rfl rfl rfl (by first | rfl | decide) (Nat.le_of_ble_eq_true rfl) (fun h hH hF => ?_) | refine ah_put d_Mo_makeSymbols_2 fp_Mo_138 hH hF 10 rfl rfl rfl (by first | rfl | decide) (Nat.le_of_ble_eq_true rfl) (fun h hH hF => ?_) | refine ah_put d_Mo_makeSymbols_2 fp_Mo_138 hH hF 11 rfl rfl rfl (by first | rfl | decide) (Nat.le_of_ble_eq_true rfl) (fun h hH hF => ?_) | refine ah_put d_Mo_makeSymbols_2 fp_Mo_138 hH hF 12 rfl rfl rfl (by first | rfl | decide) (Nat.le_of_ble_eq_true rfl) (fun h hH hF => ?_) | refine ah_put d_Mo_makeSymbols_2 fp_Mo_138 hH hF 13 rfl rfl rfl (by first | rfl | decide) (Nat.le_of_ble_eq_true rfl) (fun h hH hF => ?_) | refine ah_put d_Mo_makeSymbols_2 fp_Mo_138 hH hF 14 rfl rfl rfl (by first | rfl | decide) (Nat.le_of_ble_eq_true rfl) (fun h hH hF => ?_) | refine ah_put d_Mo_makeSymbols_2 fp_Mo_138 hH hF 15 rfl rfl rfl (by first | rfl | decide) (Nat.le_of_ble_eq_true rfl) (fun h hH hF => ?_) | refine ah_put d_Mo_makeSymbols_2 fp_Mo_138 hH hF 16 rfl rfl rfl (by first | rfl | decide) (Nat.le_of_ble_eq_true rfl) (fun h hH hF => ?_) | refine ah_put d_Mo_makeSymbols_2 fp_Mo_138 hH hF 17 rfl rfl rfl (by first | rfl | decide) (Nat.le_of_ble_eq_true rfl) (fun h hH hF => ?_) | refine ah_put d_Mo_makeSymbols_2 fp_Mo_138 hH hF 18 rfl rfl rfl (by first | rfl | decide) (Nat.le_of_ble_eq_true rfl) (fun h hH hF => ?_)
  refine az_iconst d_Mo_makeSymbols_5 ?_
  refine ax_istore_n d_Mo_makeSymbols_6 (by decide) rfl ?_
  have syms : ∀ (f k z : Nat) (ss l : List Int) (iz1 : Nat → Int) (ar1 : Nat → Nat → Int) (h : ax_H), k + f = xs.length → ss.length + z ≤ k → ss ++ syR (xs.drop k) l z ((lst xs).length + 1) = sy xs → l.length = (lst xs).length → Bs l → (∀ b : Int, inL (lst xs) b → inL l b) → MoH h iz1 ar1 → Fr MOS h0 h → KI [12, 14] iz iz1 → KA [13, 15] ar ar1 → iz1 12 = (lst xs).length → iz1 14 = ss.length → la (ar1 15) ss → la (ar1 13) l → ∀ v3 : Option Value,
      ax_W m_Mo_makeSymbols 1 54 [some (.ref 47), some (.int (iv z)), some (.int (iv k)), v3] [] h (fun r0 h1 => r0 = none ∧ (∃ iz1 ar1, MoH h1 iz1 ar1 ∧ KI [12, 14] iz iz1 ∧ KA [13, 15] ar ar1 ∧ iz1 12 = (lst xs).length ∧ iz1 14 = (sy xs).length ∧ la (ar1 15) (sy xs)) ∧ Fr MOS h0 h1) := by
    intro f
    induction f with
    | zero =>
      intro k z ss l iz1 ar1 h he hsl hs hlen hbl hin hH hF ki ka e12 e14 hss hla v3
      have ez := ki 2 rfl
      have hdr : xs.drop k = [] := List.drop_eq_nil_of_le (by omega)
      rw [hdr, syR, ← List.append_assoc] at hs
      refine ax_iload_n d_Mo_makeSymbols_54 rfl ?_
      refine ax_aload_n d_Mo_makeSymbols_55 rfl ?_
      refine ax_get d_Mo_makeSymbols_56 fg_Mo_87 (by first | assumption | exact hH.g 0 rfl | exact hH.g 1 rfl | exact hH.g 2 rfl | exact hH.g 3 rfl | exact hH.g 4 rfl | exact hH.g 5 rfl | exact hH.g 6 rfl | exact hH.g 7 rfl | exact hH.g 8 rfl | exact hH.g 9 rfl | exact hH.g 10 rfl | exact hH.g 11 rfl | exact hH.g 12 rfl | exact hH.g 13 rfl | exact hH.g 14 rfl | exact hH.g 15 rfl | exact hH.g 16 rfl | exact hH.g 17 rfl | exact hH.g 18 rfl) (by rfl) ?_
      refine az_icmp_ge 115 d_Mo_makeSymbols_59 (by decide) (by omega) (by omega) (fun hc => ?_) (fun hc => ?_)
      · refine ax_aload_n d_Mo_makeSymbols_115 rfl ?_
        refine ax_iload_n d_Mo_makeSymbols_116 rfl ?_
        refine ax_cV1 d_Mo_makeSymbols_117 v_Mo_putNoughts lk_Mo_147 (by first | assumption | exact hH.g 0 rfl | exact hH.g 1 rfl | exact hH.g 2 rfl | exact hH.g 3 rfl | exact hH.g 4 rfl | exact hH.g 5 rfl | exact hH.g 6 rfl | exact hH.g 7 rfl | exact hH.g 8 rfl | exact hH.g 9 rfl | exact hH.g 10 rfl | exact hH.g 11 rfl | exact hH.g 12 rfl | exact hH.g 13 rfl | exact hH.g 14 rfl | exact hH.g 15 rfl | exact hH.g 16 rfl | exact hH.g 17 rfl | exact hH.g 18 rfl) (by decide) (Nat.le_of_ble_eq_true rfl) (cm_v (c_Mo_putNoughts hH e14 hss (z := z) (by omega)) (fun h1 hq => ?_))
        obtain ⟨⟨iz2, ar2, hH2, ki2, ka2, f14, f15⟩, hF2⟩ := hq
        have hH := hH2
        have hF := hF.tr hF2
        have f12 := ki2 12 rfl
        have hdl : (dg z).length ≤ z := dgF_len z z
        have hal : (ss ++ dg z).length ≤ 901 := by rw [List.length_append]; omega
        refine ax_aload_n d_Mo_makeSymbols_120 rfl ?_
        refine ax_get d_Mo_makeSymbols_121 fg_Mo_34 (by first | assumption | exact hH.g 0 rfl | exact hH.g 1 rfl | exact hH.g 2 rfl | exact hH.g 3 rfl | exact hH.g 4 rfl | exact hH.g 5 rfl | exact hH.g 6 rfl | exact hH.g 7 rfl | exact hH.g 8 rfl | exact hH.g 9 rfl | exact hH.g 10 rfl | exact hH.g 11 rfl | exact hH.g 12 rfl | exact hH.g 13 rfl | exact hH.g 14 rfl | exact hH.g 15 rfl | exact hH.g 16 rfl | exact hH.g 17 rfl | exact hH.g 18 rfl) (by rfl) ?_
        refine ax_aload_n d_Mo_makeSymbols_124 rfl ?_
        refine ax_dup d_Mo_makeSymbols_125 rfl ?_
        refine ax_get d_Mo_makeSymbols_126 fg_Mo_135 (by first | assumption | exact hH.g 0 rfl | exact hH.g 1 rfl | exact hH.g 2 rfl | exact hH.g 3 rfl | exact hH.g 4 rfl | exact hH.g 5 rfl | exact hH.g 6 rfl | exact hH.g 7 rfl | exact hH.g 8 rfl | exact hH.g 9 rfl | exact hH.g 10 rfl | exact hH.g 11 rfl | exact hH.g 12 rfl | exact hH.g 13 rfl | exact hH.g 14 rfl | exact hH.g 15 rfl | exact hH.g 16 rfl | exact hH.g 17 rfl | exact hH.g 18 rfl) (by rfl) ?_
        refine ax_dup_x1 d_Mo_makeSymbols_129 rfl rfl ?_
        refine az_iconst d_Mo_makeSymbols_130 ?_
        refine az_iadd d_Mo_makeSymbols_131 ?_
        first | refine ah_put d_Mo_makeSymbols_132 fp_Mo_135 hH hF 0 rfl rfl rfl (by first | rfl | decide) (Nat.le_of_ble_eq_true rfl) (fun h hH hF => ?_) | refine ah_put d_Mo_makeSymbols_132 fp_Mo_135 hH hF 1 rfl rfl rfl (by first | rfl | decide) (Nat.le_of_ble_eq_true rfl) (fun h hH hF => ?_) | refine ah_put d_Mo_makeSymbols_132 fp_Mo_135 hH hF 2 rfl rfl rfl (by first | rfl | decide) (Nat.le_of_ble_eq_true rfl) (fun h hH hF => ?_) | refine ah_put d_Mo_makeSymbols_132 fp_Mo_135 hH hF 3 rfl rfl rfl (by first | rfl | decide) (Nat.le_of_ble_eq_true rfl) (fun h hH hF => ?_) | refine ah_put d_Mo_makeSymbols_132 fp_Mo_135 hH hF 4 rfl rfl rfl (by first | rfl | decide) (Nat.le_of_ble_eq_true rfl) (fun h hH hF => ?_) | refine ah_put d_Mo_makeSymbols_132 fp_Mo_135 hH hF 5 rfl rfl rfl (by first | rfl | decide) (Nat.le_of_ble_eq_true rfl) (fun h hH hF => ?_) | refine ah_put d_Mo_makeSymbols_132 fp_Mo_135 hH hF 6 rfl rfl rfl (by first | rfl | decide) (Nat.le_of_ble_eq_true rfl) (fun h hH hF => ?_) | refine ah_put d_Mo_makeSymbols_132 fp_Mo_135 hH hF 7 rfl rfl rfl (by first | rfl | decide) (Nat.le_of_ble_eq_true rfl) (fun h hH hF => ?_) | refine ah_put d_Mo_makeSymbols_132 fp_Mo_135 hH hF 8 rfl rfl rfl (by first | rfl | decide) (Nat.le_of_ble_eq_true rfl) (fun h hH hF => ?_) | refine ah_put d_Mo_makeSymbols_132 fp_Mo_135 hH hF 9 rfl rfl rfl (by first | rfl | decide) (Nat.le_of_ble_eq_true rfl) (fun h hH hF => ?_) | refine ah_put d_Mo_makeSymbols_132 fp_Mo_135 hH hF 10 rfl rfl rfl (by first | rfl | decide) (Nat.le_of_ble_eq_true rfl) (fun h hH hF => ?_) | refine ah_put d_Mo_makeSymbols_132 fp_Mo_135 hH hF 11 rfl rfl rfl (by first | rfl | decide) (Nat.le_of_ble_eq_true rfl) (fun h hH hF => ?_) | refine ah_put d_Mo_makeSymbols_132 fp_Mo_135 hH hF 12 rfl rfl rfl (by first | rfl | decide) (Nat.le_of_ble_eq_true rfl) (fun h hH hF => ?_) | refine ah_put d_Mo_makeSymbols_132 fp_Mo_135 hH hF 13 rfl rfl rfl (by first | rfl | decide) (Nat.le_of_ble_eq_true rfl) (fun h hH hF => ?_) | refine ah_put d_Mo_makeSymbols_132 fp_Mo_135 hH hF 14 rfl rfl rfl (by first | rfl | decide) (Nat.le_of_ble_eq_true rfl) (fun h hH hF => ?_) | refine ah_put d_Mo_makeSymbols_132 fp_Mo_135 hH hF 15 rfl rfl rfl (by first | rfl | decide) (Nat.le_of_ble_eq_true rfl) (fun h hH hF => ?_) | refine ah_put d_Mo_makeSymbols_132 fp_Mo_135 hH hF 16 rfl rfl rfl (by first | rfl | decide) (Nat.le_of_ble_eq_true rfl) (fun h hH hF => ?_) | refine ah_put d_Mo_makeSymbols_132 fp_Mo_135 hH hF 17 rfl rfl rfl (by first | rfl | decide) (Nat.le_of_ble_eq_true rfl) (fun h hH hF => ?_) | refine ah_put d_Mo_makeSymbols_132 fp_Mo_135 hH hF 18 rfl rfl rfl (by first | rfl | decide) (Nat.le_of_ble_eq_true rfl) (fun h hH hF => ?_)
        refine ax_aload_n d_Mo_makeSymbols_135 rfl ?_
        refine ax_get d_Mo_makeSymbols_136 fg_Mo_138 (by first | assumption | exact hH.g 0 rfl | exact hH.g 1 rfl | exact hH.g 2 rfl | exact hH.g 3 rfl | exact hH.g 4 rfl | exact hH.g 5 rfl | exact hH.g 6 rfl | exact hH.g 7 rfl | exact hH.g 8 rfl | exact hH.g 9 rfl | exact hH.g 10 rfl | exact hH.g 11 rfl | exact hH.g 12 rfl | exact hH.g 13 rfl | exact hH.g 14 rfl | exact hH.g 15 rfl | exact hH.g 16 rfl | exact hH.g 17 rfl | exact hH.g 18 rfl) (by rfl) ?_
        refine az_iconst d_Mo_makeSymbols_139 ?_
        refine az_iadd d_Mo_makeSymbols_140 ?_
        first | refine ah_iast d_Mo_makeSymbols_141 hH hF 0 rfl rfl (by omega) (by omega) (by omega) (by omega) (fun h hH hF => ?_) | refine ah_iast d_Mo_makeSymbols_141 hH hF 1 rfl rfl (by omega) (by omega) (by omega) (by omega) (fun h hH hF => ?_) | refine ah_iast d_Mo_makeSymbols_141 hH hF 2 rfl rfl (by omega) (by omega) (by omega) (by omega) (fun h hH hF => ?_) | refine ah_iast d_Mo_makeSymbols_141 hH hF 3 rfl rfl (by omega) (by omega) (by omega) (by omega) (fun h hH hF => ?_) | refine ah_iast d_Mo_makeSymbols_141 hH hF 4 rfl rfl (by omega) (by omega) (by omega) (by omega) (fun h hH hF => ?_) | refine ah_iast d_Mo_makeSymbols_141 hH hF 5 rfl rfl (by omega) (by omega) (by omega) (by omega) (fun h hH hF => ?_) | refine ah_iast d_Mo_makeSymbols_141 hH hF 6 rfl rfl (by omega) (by omega) (by omega) (by omega) (fun h hH hF => ?_) | refine ah_iast d_Mo_makeSymbols_141 hH hF 7 rfl rfl (by omega) (by omega) (by omega) (by omega) (fun h hH hF => ?_) | refine ah_iast d_Mo_makeSymbols_141 hH hF 8 rfl rfl (by omega) (by omega) (by omega) (by omega) (fun h hH hF => ?_) | refine ah_iast d_Mo_makeSymbols_141 hH hF 9 rfl rfl (by omega) (by omega) (by omega) (by omega) (fun h hH hF => ?_) | refine ah_iast d_Mo_makeSymbols_141 hH hF 10 rfl rfl (by omega) (by omega) (by omega) (by omega) (fun h hH hF => ?_) | refine ah_iast d_Mo_makeSymbols_141 hH hF 11 rfl rfl (by omega) (by omega) (by omega) (by omega) (fun h hH hF => ?_) | refine ah_iast d_Mo_makeSymbols_141 hH hF 12 rfl rfl (by omega) (by omega) (by omega) (by omega) (fun h hH hF => ?_) | refine ah_iast d_Mo_makeSymbols_141 hH hF 13 rfl rfl (by omega) (by omega) (by omega) (by omega) (fun h hH hF => ?_) | refine ah_iast d_Mo_makeSymbols_141 hH hF 14 rfl rfl (by omega) (by omega) (by omega) (by omega) (fun h hH hF => ?_) | refine ah_iast d_Mo_makeSymbols_141 hH hF 15 rfl rfl (by omega) (by omega) (by omega) (by omega) (fun h hH hF => ?_) | refine ah_iast d_Mo_makeSymbols_141 hH hF 16 rfl rfl (by omega) (by omega) (by omega) (by omega) (fun h hH hF => ?_) | refine ah_iast d_Mo_makeSymbols_141 hH hF 17 rfl rfl (by omega) (by omega) (by omega) (by omega) (fun h hH hF => ?_) | refine ah_iast d_Mo_makeSymbols_141 hH hF 18 rfl rfl (by omega) (by omega) (by omega) (by omega) (fun h hH hF => ?_)
        refine ax_vret d_Mo_makeSymbols_142 rfl ?_
        refine ⟨rfl, ⟨up iz2 14 (iz2 14 + 1), upA ar2 15 (up (ar2 15) (iz2 14).toNat (iz2 12 + 1)), hH, (ki.tr (ki2.wide rfl)).up 14 _ rfl, (ka.tr (ka2.wide rfl)).up 15 _ rfl, f12.trans e12, ?_, ?_⟩, hF⟩
        · show iz2 14 + 1 = _
          rw [← hs, List.length_append, f14]
          simp
        · show la (up (ar2 15) (iz2 14).toNat (iz2 12 + 1)) _
          rw [← hs, f12, e12]
          exact la_take_succ f15 (by omega) _
      · exfalso
        omega
    | succ f ih =>
      intro k z ss l iz1 ar1 h he hsl hs hlen hbl hin hH hF ki ka e12 e14 hss hla v3
      have ez := ki 2 rfl
      have a3 := ka 3 rfl
      have er : ar1 3 ((k : Int).toNat) = gx xs k := by rw [a3]; exact hl k (by omega)
      have hb := hin _ (inL_lst hbs (show k < xs.length by omega))
      have hfx := fidx_lt l _ hb
      have hdr := drop_gx (show k < xs.length by omega)
      rw [hdr, syR] at hs
      refine ax_iload_n d_Mo_makeSymbols_54 rfl ?_
      refine ax_aload_n d_Mo_makeSymbols_55 rfl ?_
      refine ax_get d_Mo_makeSymbols_56 fg_Mo_87 (by first | assumption | exact hH.g 0 rfl | exact hH.g 1 rfl | exact hH.g 2 rfl | exact hH.g 3 rfl | exact hH.g 4 rfl | exact hH.g 5 rfl | exact hH.g 6 rfl | exact hH.g 7 rfl | exact hH.g 8 rfl | exact hH.g 9 rfl | exact hH.g 10 rfl | exact hH.g 11 rfl | exact hH.g 12 rfl | exact hH.g 13 rfl | exact hH.g 14 rfl | exact hH.g 15 rfl | exact hH.g 16 rfl | exact hH.g 17 rfl | exact hH.g 18 rfl) (by rfl) ?_
      refine az_icmp_ge 115 d_Mo_makeSymbols_59 (by decide) (by omega) (by omega) (fun hc => ?_) (fun hc => ?_)
      · exfalso
        omega
      · refine ax_aload_n d_Mo_makeSymbols_62 rfl ?_
        refine ax_aload_n d_Mo_makeSymbols_63 rfl ?_
        refine ax_get d_Mo_makeSymbols_64 fg_Mo_13 (by first | assumption | exact hH.g 0 rfl | exact hH.g 1 rfl | exact hH.g 2 rfl | exact hH.g 3 rfl | exact hH.g 4 rfl | exact hH.g 5 rfl | exact hH.g 6 rfl | exact hH.g 7 rfl | exact hH.g 8 rfl | exact hH.g 9 rfl | exact hH.g 10 rfl | exact hH.g 11 rfl | exact hH.g 12 rfl | exact hH.g 13 rfl | exact hH.g 14 rfl | exact hH.g 15 rfl | exact hH.g 16 rfl | exact hH.g 17 rfl | exact hH.g 18 rfl) (by rfl) ?_
        refine ax_iload_n d_Mo_makeSymbols_67 rfl ?_
        refine az_iald d_Mo_makeSymbols_68 (by first | assumption | exact hH.g 0 rfl | exact hH.g 1 rfl | exact hH.g 2 rfl | exact hH.g 3 rfl | exact hH.g 4 rfl | exact hH.g 5 rfl | exact hH.g 6 rfl | exact hH.g 7 rfl | exact hH.g 8 rfl | exact hH.g 9 rfl | exact hH.g 10 rfl | exact hH.g 11 rfl | exact hH.g 12 rfl | exact hH.g 13 rfl | exact hH.g 14 rfl | exact hH.g 15 rfl | exact hH.g 16 rfl | exact hH.g 17 rfl | exact hH.g 18 rfl) (by omega) (by omega) (by omega) ?_
        rw [er]
        refine ax_cV1 d_Mo_makeSymbols_69 v_Mo_toFront lk_Mo_144 (by first | assumption | exact hH.g 0 rfl | exact hH.g 1 rfl | exact hH.g 2 rfl | exact hH.g 3 rfl | exact hH.g 4 rfl | exact hH.g 5 rfl | exact hH.g 6 rfl | exact hH.g 7 rfl | exact hH.g 8 rfl | exact hH.g 9 rfl | exact hH.g 10 rfl | exact hH.g 11 rfl | exact hH.g 12 rfl | exact hH.g 13 rfl | exact hH.g 14 rfl | exact hH.g 15 rfl | exact hH.g 16 rfl | exact hH.g 17 rfl | exact hH.g 18 rfl) (by decide) (Nat.le_of_ble_eq_true rfl) (cm_i (c_Mo_toFront hH hla (by omega) hbl hb) (fun zz h1 hq => ?_))
        obtain ⟨rfl, ⟨ar2, hH2, ka2, hla2⟩, hF2⟩ := hq
        have hH := hH2
        have hF := hF.tr hF2
        have hss2 : la (ar2 15) ss := by rw [ka2 15 rfl]; exact hss
        have ka12 := ka.tr (ka2.wide (K' := [13, 15]) rfl)
        refine ax_istore_n d_Mo_makeSymbols_72 (by decide) rfl ?_
        refine ax_iload_n d_Mo_makeSymbols_73 rfl ?_
        refine az_if_ne 83 d_Mo_makeSymbols_74 (by decide) (by first | exact bz_in _ | omega) (fun hz => ?_) (fun hz => ?_)
        · rw [if_neg (by omega)] at hs
          refine ax_aload_n d_Mo_makeSymbols_83 rfl ?_
          refine ax_iload_n d_Mo_makeSymbols_84 rfl ?_
          refine ax_cV1 d_Mo_makeSymbols_85 v_Mo_putNoughts lk_Mo_147 (by first | assumption | exact hH.g 0 rfl | exact hH.g 1 rfl | exact hH.g 2 rfl | exact hH.g 3 rfl | exact hH.g 4 rfl | exact hH.g 5 rfl | exact hH.g 6 rfl | exact hH.g 7 rfl | exact hH.g 8 rfl | exact hH.g 9 rfl | exact hH.g 10 rfl | exact hH.g 11 rfl | exact hH.g 12 rfl | exact hH.g 13 rfl | exact hH.g 14 rfl | exact hH.g 15 rfl | exact hH.g 16 rfl | exact hH.g 17 rfl | exact hH.g 18 rfl) (by decide) (Nat.le_of_ble_eq_true rfl) (cm_v (c_Mo_putNoughts hH e14 hss2 (z := z) (by omega)) (fun h5 hq => ?_))
          obtain ⟨⟨iz2, ar3, hH3, ki3, ka3, f14, f15⟩, hF3⟩ := hq
          have hH := hH3
          have hF := hF.tr hF3
          have f12 := ki3 12 rfl
          have hdl : (dg z).length ≤ z := dgF_len z z
          have hal : (ss ++ dg z).length ≤ ss.length + z := by rw [List.length_append]; omega
          refine az_iconst d_Mo_makeSymbols_88 ?_
          refine ax_istore_n d_Mo_makeSymbols_89 (by decide) rfl ?_
          refine ax_aload_n d_Mo_makeSymbols_90 rfl ?_
          refine ax_get d_Mo_makeSymbols_91 fg_Mo_34 (by first | assumption | exact hH.g 0 rfl | exact hH.g 1 rfl | exact hH.g 2 rfl | exact hH.g 3 rfl | exact hH.g 4 rfl | exact hH.g 5 rfl | exact hH.g 6 rfl | exact hH.g 7 rfl | exact hH.g 8 rfl | exact hH.g 9 rfl | exact hH.g 10 rfl | exact hH.g 11 rfl | exact hH.g 12 rfl | exact hH.g 13 rfl | exact hH.g 14 rfl | exact hH.g 15 rfl | exact hH.g 16 rfl | exact hH.g 17 rfl | exact hH.g 18 rfl) (by rfl) ?_
          refine ax_aload_n d_Mo_makeSymbols_94 rfl ?_
          refine ax_dup d_Mo_makeSymbols_95 rfl ?_
          refine ax_get d_Mo_makeSymbols_96 fg_Mo_135 (by first | assumption | exact hH.g 0 rfl | exact hH.g 1 rfl | exact hH.g 2 rfl | exact hH.g 3 rfl | exact hH.g 4 rfl | exact hH.g 5 rfl | exact hH.g 6 rfl | exact hH.g 7 rfl | exact hH.g 8 rfl | exact hH.g 9 rfl | exact hH.g 10 rfl | exact hH.g 11 rfl | exact hH.g 12 rfl | exact hH.g 13 rfl | exact hH.g 14 rfl | exact hH.g 15 rfl | exact hH.g 16 rfl | exact hH.g 17 rfl | exact hH.g 18 rfl) (by rfl) ?_
          refine ax_dup_x1 d_Mo_makeSymbols_99 rfl rfl ?_
          refine az_iconst d_Mo_makeSymbols_100 ?_
          refine az_iadd d_Mo_makeSymbols_101 ?_
          first | refine ah_put d_Mo_makeSymbols_102 fp_Mo_135 hH hF 0 rfl rfl rfl (by first | rfl | decide) (Nat.le_of_ble_eq_true rfl) (fun h hH hF => ?_) | refine ah_put d_Mo_makeSymbols_102 fp_Mo_135 hH hF 1 rfl rfl rfl (by first | rfl | decide) (Nat.le_of_ble_eq_true rfl) (fun h hH hF => ?_) | refine ah_put d_Mo_makeSymbols_102 fp_Mo_135 hH hF 2 rfl rfl rfl (by first | rfl | decide) (Nat.le_of_ble_eq_true rfl) (fun h hH hF => ?_) | refine ah_put d_Mo_makeSymbols_102 fp_Mo_135 hH hF 3 rfl rfl rfl (by first | rfl | decide) (Nat.le_of_ble_eq_true rfl) (fun h hH hF => ?_) | refine ah_put d_Mo_makeSymbols_102 fp_Mo_135 hH hF 4 rfl rfl rfl (by first | rfl | decide) (Nat.le_of_ble_eq_true rfl) (fun h hH hF => ?_) | refine ah_put d_Mo_makeSymbols_102 fp_Mo_135 hH hF 5 rfl rfl rfl (by first | rfl | decide) (Nat.le_of_ble_eq_true rfl) (fun h hH hF => ?_) | refine ah_put d_Mo_makeSymbols_102 fp_Mo_135 hH hF 6 rfl rfl rfl (by first | rfl | decide) (Nat.le_of_ble_eq_true rfl) (fun h hH hF => ?_) | refine ah_put d_Mo_makeSymbols_102 fp_Mo_135 hH hF 7 rfl rfl rfl (by first | rfl | decide) (Nat.le_of_ble_eq_true rfl) (fun h hH hF => ?_) | refine ah_put d_Mo_makeSymbols_102 fp_Mo_135 hH hF 8 rfl rfl rfl (by first | rfl | decide) (Nat.le_of_ble_eq_true rfl) (fun h hH hF => ?_) | refine ah_put d_Mo_makeSymbols_102 fp_Mo_135 hH hF 9 rfl rfl rfl (by first | rfl | decide) (Nat.le_of_ble_eq_true rfl) (fun h hH hF => ?_) | refine ah_put d_Mo_makeSymbols_102 fp_Mo_135 hH hF 10 rfl rfl rfl (by first | rfl | decide) (Nat.le_of_ble_eq_true rfl) (fun h hH hF => ?_) | refine ah_put d_Mo_makeSymbols_102 fp_Mo_135 hH hF 11 rfl rfl rfl (by first | rfl | decide) (Nat.le_of_ble_eq_true rfl) (fun h hH hF => ?_) | refine ah_put d_Mo_makeSymbols_102 fp_Mo_135 hH hF 12 rfl rfl rfl (by first | rfl | decide) (Nat.le_of_ble_eq_true rfl) (fun h hH hF => ?_) | refine ah_put d_Mo_makeSymbols_102 fp_Mo_135 hH hF 13 rfl rfl rfl (by first | rfl | decide) (Nat.le_of_ble_eq_true rfl) (fun h hH hF => ?_) | refine ah_put d_Mo_makeSymbols_102 fp_Mo_135 hH hF 14 rfl rfl rfl (by first | rfl | decide) (Nat.le_of_ble_eq_true rfl) (fun h hH hF => ?_) | refine ah_put d_Mo_makeSymbols_102 fp_Mo_135 hH hF 15 rfl rfl rfl (by first | rfl | decide) (Nat.le_of_ble_eq_true rfl) (fun h hH hF => ?_) | refine ah_put d_Mo_makeSymbols_102 fp_Mo_135 hH hF 16 rfl rfl rfl (by first | rfl | decide) (Nat.le_of_ble_eq_true rfl) (fun h hH hF => ?_) | refine ah_put d_Mo_makeSymbols_102 fp_Mo_135 hH hF 17 rfl rfl rfl (by first | rfl | decide) (Nat.le_of_ble_eq_true rfl) (fun h hH hF => ?_) | refine ah_put d_Mo_makeSymbols_102 fp_Mo_135 hH hF 18 rfl rfl rfl (by first | rfl | decide) (Nat.le_of_ble_eq_true rfl) (fun h hH hF => ?_)
          refine ax_iload_n d_Mo_makeSymbols_105 rfl ?_
          refine az_iconst d_Mo_makeSymbols_106 ?_
          refine az_iadd d_Mo_makeSymbols_107 ?_
          first | refine ah_iast d_Mo_makeSymbols_108 hH hF 0 rfl rfl (by omega) (by omega) (by omega) (by omega) (fun h hH hF => ?_) | refine ah_iast d_Mo_makeSymbols_108 hH hF 1 rfl rfl (by omega) (by omega) (by omega) (by omega) (fun h hH hF => ?_) | refine ah_iast d_Mo_makeSymbols_108 hH hF 2 rfl rfl (by omega) (by omega) (by omega) (by omega) (fun h hH hF => ?_) | refine ah_iast d_Mo_makeSymbols_108 hH hF 3 rfl rfl (by omega) (by omega) (by omega) (by omega) (fun h hH hF => ?_) | refine ah_iast d_Mo_makeSymbols_108 hH hF 4 rfl rfl (by omega) (by omega) (by omega) (by omega) (fun h hH hF => ?_) | refine ah_iast d_Mo_makeSymbols_108 hH hF 5 rfl rfl (by omega) (by omega) (by omega) (by omega) (fun h hH hF => ?_) | refine ah_iast d_Mo_makeSymbols_108 hH hF 6 rfl rfl (by omega) (by omega) (by omega) (by omega) (fun h hH hF => ?_) | refine ah_iast d_Mo_makeSymbols_108 hH hF 7 rfl rfl (by omega) (by omega) (by omega) (by omega) (fun h hH hF => ?_) | refine ah_iast d_Mo_makeSymbols_108 hH hF 8 rfl rfl (by omega) (by omega) (by omega) (by omega) (fun h hH hF => ?_) | refine ah_iast d_Mo_makeSymbols_108 hH hF 9 rfl rfl (by omega) (by omega) (by omega) (by omega) (fun h hH hF => ?_) | refine ah_iast d_Mo_makeSymbols_108 hH hF 10 rfl rfl (by omega) (by omega) (by omega) (by omega) (fun h hH hF => ?_) | refine ah_iast d_Mo_makeSymbols_108 hH hF 11 rfl rfl (by omega) (by omega) (by omega) (by omega) (fun h hH hF => ?_) | refine ah_iast d_Mo_makeSymbols_108 hH hF 12 rfl rfl (by omega) (by omega) (by omega) (by omega) (fun h hH hF => ?_) | refine ah_iast d_Mo_makeSymbols_108 hH hF 13 rfl rfl (by omega) (by omega) (by omega) (by omega) (fun h hH hF => ?_) | refine ah_iast d_Mo_makeSymbols_108 hH hF 14 rfl rfl (by omega) (by omega) (by omega) (by omega) (fun h hH hF => ?_) | refine ah_iast d_Mo_makeSymbols_108 hH hF 15 rfl rfl (by omega) (by omega) (by omega) (by omega) (fun h hH hF => ?_) | refine ah_iast d_Mo_makeSymbols_108 hH hF 16 rfl rfl (by omega) (by omega) (by omega) (by omega) (fun h hH hF => ?_) | refine ah_iast d_Mo_makeSymbols_108 hH hF 17 rfl rfl (by omega) (by omega) (by omega) (by omega) (fun h hH hF => ?_) | refine ah_iast d_Mo_makeSymbols_108 hH hF 18 rfl rfl (by omega) (by omega) (by omega) (by omega) (fun h hH hF => ?_)
          refine az_iinc d_Mo_makeSymbols_109 rfl (by decide) rfl ?_
          refine ax_goto 54 d_Mo_makeSymbols_112 (by decide) ?_
          refine ih (k + 1) 0 (ss ++ dg z ++ [((fidx l (gx xs k) : Nat) : Int) + 1]) (mtf l (fidx l (gx xs k))) (up iz2 14 (iz2 14 + 1)) (upA ar3 15 (up (ar3 15) (iz2 14).toNat (((fidx l (gx xs k) : Nat) : Int) + 1))) h (by omega) (by rw [List.length_append]; simp only [List.length_singleton]; omega) ?_ (by rw [mtf_len]; exact hlen) (Bs_mtf hfx.1 hbl) (fun b hb => inL_mtf hfx.1 (hin b hb)) hH hF ((ki.tr (ki3.wide rfl)).up 14 _ rfl) ((ka12.tr (ka3.wide rfl)).up 15 _ rfl) (f12.trans e12) ?_ (la_take_succ f15 (by omega) _) ?_ _
          · rw [← hs]
            simp
          · show iz2 14 + 1 = _
            rw [f14, List.length_append (bs := [_])]
            simp
          · show la (ar3 13) _
            rw [ka3 13 rfl]
            exact hla2
        · have hz0 : fidx l (gx xs k) = 0 := by omega
          rw [if_pos hz0] at hs
          rw [hz0, mtf_front (by omega)] at hla2
          refine az_iinc d_Mo_makeSymbols_77 rfl (by decide) rfl ?_
          refine ax_goto 109 d_Mo_makeSymbols_80 (by decide) ?_
          refine az_iinc d_Mo_makeSymbols_109 rfl (by decide) rfl ?_
          refine ax_goto 54 d_Mo_makeSymbols_112 (by decide) ?_
          have e9 : (z : Int) + 1 = ((z + 1 : Nat) : Int) := by omega
          rw [e9]
          exact ih (k + 1) (z + 1) ss l iz1 ar2 h1 (by omega) (by omega) hs hlen hbl hin hH hF ki ka12 e12 e14 hss2 hla2 _
  have lists : ∀ (f b : Nat) (iz1 : Nat → Int) (ar1 : Nat → Nat → Int) (h : ax_H), b + f = 256 → MoH h iz1 ar1 → Fr MOS h0 h → KI [12, 14] iz iz1 → KA [13, 15] ar ar1 → iz1 12 = (lsb xs b).length → la (ar1 13) (lsb xs b) →
      ax_W m_Mo_makeSymbols 1 7 [some (.ref 47), some (.int (iv b)), none, none] [] h (fun r0 h1 => r0 = none ∧ (∃ iz1 ar1, MoH h1 iz1 ar1 ∧ KI [12, 14] iz iz1 ∧ KA [13, 15] ar ar1 ∧ iz1 12 = (lst xs).length ∧ iz1 14 = (sy xs).length ∧ la (ar1 15) (sy xs)) ∧ Fr MOS h0 h1) := by
    intro f
    induction f with
    | zero =>
      intro b iz1 ar1 h he hH hF ki ka e12 hla
      have hb : b = 256 := by omega
      subst hb
      refine ax_iload_n d_Mo_makeSymbols_7 rfl ?_
      refine az_sipush _ d_Mo_makeSymbols_8 (by decide) ?_
      refine az_icmp_ge 45 d_Mo_makeSymbols_11 (by decide) (by omega) (by omega) (fun hc => ?_) (fun hc => ?_)
      · refine ax_aload_n d_Mo_makeSymbols_45 rfl ?_
        refine az_iconst d_Mo_makeSymbols_46 ?_
        first | refine ah_put d_Mo_makeSymbols_47 fp_Mo_135 hH hF 0 rfl rfl rfl (by first | rfl | decide) (Nat.le_of_ble_eq_true rfl) (fun h hH hF => ?_) | refine ah_put d_Mo_makeSymbols_47 fp_Mo_135 hH hF 1 rfl rfl rfl (by first | rfl | decide) (Nat.le_of_ble_eq_true rfl) (fun h hH hF => ?_) | refine ah_put d_Mo_makeSymbols_47 fp_Mo_135 hH hF 2 rfl rfl rfl (by first | rfl | decide) (Nat.le_of_ble_eq_true rfl) (fun h hH hF => ?_) | refine ah_put d_Mo_makeSymbols_47 fp_Mo_135 hH hF 3 rfl rfl rfl (by first | rfl | decide) (Nat.le_of_ble_eq_true rfl) (fun h hH hF => ?_) | refine ah_put d_Mo_makeSymbols_47 fp_Mo_135 hH hF 4 rfl rfl rfl (by first | rfl | decide) (Nat.le_of_ble_eq_true rfl) (fun h hH hF => ?_) | refine ah_put d_Mo_makeSymbols_47 fp_Mo_135 hH hF 5 rfl rfl rfl (by first | rfl | decide) (Nat.le_of_ble_eq_true rfl) (fun h hH hF => ?_) | refine ah_put d_Mo_makeSymbols_47 fp_Mo_135 hH hF 6 rfl rfl rfl (by first | rfl | decide) (Nat.le_of_ble_eq_true rfl) (fun h hH hF => ?_) | refine ah_put d_Mo_makeSymbols_47 fp_Mo_135 hH hF 7 rfl rfl rfl (by first | rfl | decide) (Nat.le_of_ble_eq_true rfl) (fun h hH hF => ?_) | refine ah_put d_Mo_makeSymbols_47 fp_Mo_135 hH hF 8 rfl rfl rfl (by first | rfl | decide) (Nat.le_of_ble_eq_true rfl) (fun h hH hF => ?_) | refine ah_put d_Mo_makeSymbols_47 fp_Mo_135 hH hF 9 rfl rfl rfl (by first | rfl | decide) (Nat.le_of_ble_eq_true rfl) (fun h hH hF => ?_) | refine ah_put d_Mo_makeSymbols_47 fp_Mo_135 hH hF 10 rfl rfl rfl (by first | rfl | decide) (Nat.le_of_ble_eq_true rfl) (fun h hH hF => ?_) | refine ah_put d_Mo_makeSymbols_47 fp_Mo_135 hH hF 11 rfl rfl rfl (by first | rfl | decide) (Nat.le_of_ble_eq_true rfl) (fun h hH hF => ?_) | refine ah_put d_Mo_makeSymbols_47 fp_Mo_135 hH hF 12 rfl rfl rfl (by first | rfl | decide) (Nat.le_of_ble_eq_true rfl) (fun h hH hF => ?_) | refine ah_put d_Mo_makeSymbols_47 fp_Mo_135 hH hF 13 rfl rfl rfl (by first | rfl | decide) (Nat.le_of_ble_eq_true rfl) (fun h hH hF => ?_) | refine ah_put d_Mo_makeSymbols_47 fp_Mo_135 hH hF 14 rfl rfl rfl (by first | rfl | decide) (Nat.le_of_ble_eq_true rfl) (fun h hH hF => ?_) | refine ah_put d_Mo_makeSymbols_47 fp_Mo_135 hH hF 15 rfl rfl rfl (by first | rfl | decide) (Nat.le_of_ble_eq_true rfl) (fun h hH hF => ?_) | refine ah_put d_Mo_makeSymbols_47 fp_Mo_135 hH hF 16 rfl rfl rfl (by first | rfl | decide) (Nat.le_of_ble_eq_true rfl) (fun h hH hF => ?_) | refine ah_put d_Mo_makeSymbols_47 fp_Mo_135 hH hF 17 rfl rfl rfl (by first | rfl | decide) (Nat.le_of_ble_eq_true rfl) (fun h hH hF => ?_) | refine ah_put d_Mo_makeSymbols_47 fp_Mo_135 hH hF 18 rfl rfl rfl (by first | rfl | decide) (Nat.le_of_ble_eq_true rfl) (fun h hH hF => ?_)
        refine az_iconst d_Mo_makeSymbols_50 ?_
        refine ax_istore_n d_Mo_makeSymbols_51 (by decide) rfl ?_
        refine az_iconst d_Mo_makeSymbols_52 ?_
        refine ax_istore_n d_Mo_makeSymbols_53 (by decide) rfl ?_
        exact syms xs.length 0 0 [] (lst xs) (up iz1 14 0) ar1 h (by omega) (by simp) rfl rfl (Bs_lst xs) (fun b hb => hb) hH hF (ki.up 14 _ rfl) ka e12 rfl (fun i hi => by simp at hi) hla _
      · exfalso
        omega
    | succ f ih =>
      intro b iz1 ar1 h he hH hF ki ka e12 hla
      have hR1 : RwS iz1 ar1 xs := hR.fr ki ka rfl rfl
      have hsu := lsb_succ xs b
      have hlb := lsb_len xs b
      refine ax_iload_n d_Mo_makeSymbols_7 rfl ?_
      refine az_sipush _ d_Mo_makeSymbols_8 (by decide) ?_
      refine az_icmp_ge 45 d_Mo_makeSymbols_11 (by decide) (by omega) (by omega) (fun hc => ?_) (fun hc => ?_)
      · exfalso
        omega
      · refine ax_aload_n d_Mo_makeSymbols_14 rfl ?_
        refine ax_iload_n d_Mo_makeSymbols_15 rfl ?_
        refine ax_cV1 d_Mo_makeSymbols_16 v_Mo_rowHas lk_Mo_141 (by first | assumption | exact hH.g 0 rfl | exact hH.g 1 rfl | exact hH.g 2 rfl | exact hH.g 3 rfl | exact hH.g 4 rfl | exact hH.g 5 rfl | exact hH.g 6 rfl | exact hH.g 7 rfl | exact hH.g 8 rfl | exact hH.g 9 rfl | exact hH.g 10 rfl | exact hH.g 11 rfl | exact hH.g 12 rfl | exact hH.g 13 rfl | exact hH.g 14 rfl | exact hH.g 15 rfl | exact hH.g 16 rfl | exact hH.g 17 rfl | exact hH.g 18 rfl) (by decide) (Nat.le_of_ble_eq_true rfl) (cm_z (c_Mo_rowHas hH hR1 (b := (b : Int)) (by omega)) (fun z h1 hq => ?_))
        obtain ⟨rfl, rfl⟩ := hq
        refine az_if_eq 39 d_Mo_makeSymbols_19 (by decide) (bz_in _) (fun hcb => ?_) (fun hcb => ?_)
        · have hn := bz_f hcb
          rw [hn, if_neg (by decide), List.append_nil] at hsu
          refine az_iinc d_Mo_makeSymbols_39 rfl (by decide) rfl ?_
          refine ax_goto 7 d_Mo_makeSymbols_42 (by decide) ?_
          exact ih (b + 1) iz1 ar1 h1 (by omega) hH hF ki ka (by rw [hsu]; exact e12) (by rw [hsu]; exact hla)
        · have hn := bz_t hcb
          rw [hn, if_pos rfl] at hsu
          refine ax_aload_n d_Mo_makeSymbols_22 rfl ?_
          refine ax_get d_Mo_makeSymbols_23 fg_Mo_31 (by first | assumption | exact hH.g 0 rfl | exact hH.g 1 rfl | exact hH.g 2 rfl | exact hH.g 3 rfl | exact hH.g 4 rfl | exact hH.g 5 rfl | exact hH.g 6 rfl | exact hH.g 7 rfl | exact hH.g 8 rfl | exact hH.g 9 rfl | exact hH.g 10 rfl | exact hH.g 11 rfl | exact hH.g 12 rfl | exact hH.g 13 rfl | exact hH.g 14 rfl | exact hH.g 15 rfl | exact hH.g 16 rfl | exact hH.g 17 rfl | exact hH.g 18 rfl) (by rfl) ?_
          refine ax_aload_n d_Mo_makeSymbols_26 rfl ?_
          refine ax_dup d_Mo_makeSymbols_27 rfl ?_
          refine ax_get d_Mo_makeSymbols_28 fg_Mo_138 (by first | assumption | exact hH.g 0 rfl | exact hH.g 1 rfl | exact hH.g 2 rfl | exact hH.g 3 rfl | exact hH.g 4 rfl | exact hH.g 5 rfl | exact hH.g 6 rfl | exact hH.g 7 rfl | exact hH.g 8 rfl | exact hH.g 9 rfl | exact hH.g 10 rfl | exact hH.g 11 rfl | exact hH.g 12 rfl | exact hH.g 13 rfl | exact hH.g 14 rfl | exact hH.g 15 rfl | exact hH.g 16 rfl | exact hH.g 17 rfl | exact hH.g 18 rfl) (by rfl) ?_
          refine ax_dup_x1 d_Mo_makeSymbols_31 rfl rfl ?_
          refine az_iconst d_Mo_makeSymbols_32 ?_
          refine az_iadd d_Mo_makeSymbols_33 ?_
          first | refine ah_put d_Mo_makeSymbols_34 fp_Mo_138 hH hF 0 rfl rfl rfl (by first | rfl | decide) (Nat.le_of_ble_eq_true rfl) (fun h hH hF => ?_) | refine ah_put d_Mo_makeSymbols_34 fp_Mo_138 hH hF 1 rfl rfl rfl (by first | rfl | decide) (Nat.le_of_ble_eq_true rfl) (fun h hH hF => ?_) | refine ah_put d_Mo_makeSymbols_34 fp_Mo_138 hH hF 2 rfl rfl rfl (by first | rfl | decide) (Nat.le_of_ble_eq_true rfl) (fun h hH hF => ?_) | refine ah_put d_Mo_makeSymbols_34 fp_Mo_138 hH hF 3 rfl rfl rfl (by first | rfl | decide) (Nat.le_of_ble_eq_true rfl) (fun h hH hF => ?_) | refine ah_put d_Mo_makeSymbols_34 fp_Mo_138 hH hF 4 rfl rfl rfl (by first | rfl | decide) (Nat.le_of_ble_eq_true rfl) (fun h hH hF => ?_) | refine ah_put d_Mo_makeSymbols_34 fp_Mo_138 hH hF 5 rfl rfl rfl (by first | rfl | decide) (Nat.le_of_ble_eq_true rfl) (fun h hH hF => ?_) | refine ah_put d_Mo_makeSymbols_34 fp_Mo_138 hH hF 6 rfl rfl rfl (by first | rfl | decide) (Nat.le_of_ble_eq_true rfl) (fun h hH hF => ?_) | refine ah_put d_Mo_makeSymbols_34 fp_Mo_138 hH hF 7 rfl rfl rfl (by first | rfl | decide) (Nat.le_of_ble_eq_true rfl) (fun h hH hF => ?_) | refine ah_put d_Mo_makeSymbols_34 fp_Mo_138 hH hF 8 rfl rfl rfl (by first | rfl | decide) (Nat.le_of_ble_eq_true rfl) (fun h hH hF => ?_) | refine ah_put d_Mo_makeSymbols_34 fp_Mo_138 hH hF 9 rfl rfl rfl (by first | rfl | decide) (Nat.le_of_ble_eq_true rfl) (fun h hH hF => ?_) | refine ah_put d_Mo_makeSymbols_34 fp_Mo_138 hH hF 10 rfl rfl rfl (by first | rfl | decide) (Nat.le_of_ble_eq_true rfl) (fun h hH hF => ?_) | refine ah_put d_Mo_makeSymbols_34 fp_Mo_138 hH hF 11 rfl rfl rfl (by first | rfl | decide) (Nat.le_of_ble_eq_true rfl) (fun h hH hF => ?_) | refine ah_put d_Mo_makeSymbols_34 fp_Mo_138 hH hF 12 rfl rfl rfl (by first | rfl | decide) (Nat.le_of_ble_eq_true rfl) (fun h hH hF => ?_) | refine ah_put d_Mo_makeSymbols_34 fp_Mo_138 hH hF 13 rfl rfl rfl (by first | rfl | decide) (Nat.le_of_ble_eq_true rfl) (fun h hH hF => ?_) | refine ah_put d_Mo_makeSymbols_34 fp_Mo_138 hH hF 14 rfl rfl rfl (by first | rfl | decide) (Nat.le_of_ble_eq_true rfl) (fun h hH hF => ?_) | refine ah_put d_Mo_makeSymbols_34 fp_Mo_138 hH hF 15 rfl rfl rfl (by first | rfl | decide) (Nat.le_of_ble_eq_true rfl) (fun h hH hF => ?_) | refine ah_put d_Mo_makeSymbols_34 fp_Mo_138 hH hF 16 rfl rfl rfl (by first | rfl | decide) (Nat.le_of_ble_eq_true rfl) (fun h hH hF => ?_) | refine ah_put d_Mo_makeSymbols_34 fp_Mo_138 hH hF 17 rfl rfl rfl (by first | rfl | decide) (Nat.le_of_ble_eq_true rfl) (fun h hH hF => ?_) | refine ah_put d_Mo_makeSymbols_34 fp_Mo_138 hH hF 18 rfl rfl rfl (by first | rfl | decide) (Nat.le_of_ble_eq_true rfl) (fun h hH hF => ?_)
          refine ax_iload_n d_Mo_makeSymbols_37 rfl ?_
          first | refine ah_iast d_Mo_makeSymbols_38 hH hF 0 rfl rfl (by omega) (by omega) (by omega) (by omega) (fun h hH hF => ?_) | refine ah_iast d_Mo_makeSymbols_38 hH hF 1 rfl rfl (by omega) (by omega) (by omega) (by omega) (fun h hH hF => ?_) | refine ah_iast d_Mo_makeSymbols_38 hH hF 2 rfl rfl (by omega) (by omega) (by omega) (by omega) (fun h hH hF => ?_) | refine ah_iast d_Mo_makeSymbols_38 hH hF 3 rfl rfl (by omega) (by omega) (by omega) (by omega) (fun h hH hF => ?_) | refine ah_iast d_Mo_makeSymbols_38 hH hF 4 rfl rfl (by omega) (by omega) (by omega) (by omega) (fun h hH hF => ?_) | refine ah_iast d_Mo_makeSymbols_38 hH hF 5 rfl rfl (by omega) (by omega) (by omega) (by omega) (fun h hH hF => ?_) | refine ah_iast d_Mo_makeSymbols_38 hH hF 6 rfl rfl (by omega) (by omega) (by omega) (by omega) (fun h hH hF => ?_) | refine ah_iast d_Mo_makeSymbols_38 hH hF 7 rfl rfl (by omega) (by omega) (by omega) (by omega) (fun h hH hF => ?_) | refine ah_iast d_Mo_makeSymbols_38 hH hF 8 rfl rfl (by omega) (by omega) (by omega) (by omega) (fun h hH hF => ?_) | refine ah_iast d_Mo_makeSymbols_38 hH hF 9 rfl rfl (by omega) (by omega) (by omega) (by omega) (fun h hH hF => ?_) | refine ah_iast d_Mo_makeSymbols_38 hH hF 10 rfl rfl (by omega) (by omega) (by omega) (by omega) (fun h hH hF => ?_) | refine ah_iast d_Mo_makeSymbols_38 hH hF 11 rfl rfl (by omega) (by omega) (by omega) (by omega) (fun h hH hF => ?_) | refine ah_iast d_Mo_makeSymbols_38 hH hF 12 rfl rfl (by omega) (by omega) (by omega) (by omega) (fun h hH hF => ?_) | refine ah_iast d_Mo_makeSymbols_38 hH hF 13 rfl rfl (by omega) (by omega) (by omega) (by omega) (fun h hH hF => ?_) | refine ah_iast d_Mo_makeSymbols_38 hH hF 14 rfl rfl (by omega) (by omega) (by omega) (by omega) (fun h hH hF => ?_) | refine ah_iast d_Mo_makeSymbols_38 hH hF 15 rfl rfl (by omega) (by omega) (by omega) (by omega) (fun h hH hF => ?_) | refine ah_iast d_Mo_makeSymbols_38 hH hF 16 rfl rfl (by omega) (by omega) (by omega) (by omega) (fun h hH hF => ?_) | refine ah_iast d_Mo_makeSymbols_38 hH hF 17 rfl rfl (by omega) (by omega) (by omega) (by omega) (fun h hH hF => ?_) | refine ah_iast d_Mo_makeSymbols_38 hH hF 18 rfl rfl (by omega) (by omega) (by omega) (by omega) (fun h hH hF => ?_)
          refine az_iinc d_Mo_makeSymbols_39 rfl (by decide) rfl ?_
          refine ax_goto 7 d_Mo_makeSymbols_42 (by decide) ?_
          refine ih (b + 1) (up iz1 12 (iz1 12 + 1)) (upA ar1 13 (up (ar1 13) (iz1 12).toNat (b : Int))) h (by omega) hH hF (ki.up 12 _ rfl) (ka.up 13 _ rfl) ?_ ?_
          · show iz1 12 + 1 = _
            rw [hsu, List.length_append, e12]
            simp
          · rw [hsu]
            exact la_take_succ hla (by omega) _
  exact lists 256 0 (up iz 12 0) ar h (by omega) hH hF (KI.rf.up 12 _ rfl) KA.rf rfl (fun i hi => by simp [lsb] at hi)
