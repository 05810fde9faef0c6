/-! the reference: readsSymbol, readsRow -/
theorem vb_kraft {lg : Nat → Int} {n : Nat} (hok : okLg lg n) : ∀ L : Nat, L ≤ 12 → (((vb lg n L + nlc lg n L) * 2 ^ (12 - L) : Nat) : Int) = fsum (fun s => if 1 ≤ lg s ∧ lg s ≤ (L : Int) then ((2 ^ (12 - (lg s).toNat) : Nat) : Int) else 0) n
  | 0, _ => by
    have h0 := nlc0 hok
    have : fsum (fun s => if 1 ≤ lg s ∧ lg s ≤ ((0 : Nat) : Int) then ((2 ^ (12 - (lg s).toNat) : Nat) : Int) else 0) n = fsum (fun _ => (0 : Int)) n := fsum_cg (fun s _ => by rw [if_neg (by omega)])
    rw [this, h0]
    have z : ∀ m : Nat, fsum (fun _ => (0 : Int)) m = 0 := by
      intro m
      induction m with
      | zero => rfl
      | succ m ih => rw [fsum, ih]; rfl
    rw [z]
    show (((0 + 0) * 2 ^ 12 : Nat) : Int) = 0
    rw [Nat.add_zero, Nat.zero_mul]
    rfl
  | L + 1, hL => by
    have ih := vb_kraft hok L (by omega)
    rw [kraft_le, ← ih, vb]
    have e : (2 * (vb lg n L + nlc lg n L) + nlc lg n ((L + 1 : Nat) : Int)) * 2 ^ (12 - (L + 1)) = (vb lg n L + nlc lg n L) * 2 ^ (12 - L) + nlc lg n ((L + 1 : Nat) : Int) * 2 ^ (12 - (L + 1)) := by
      rw [Nat.add_mul, show 12 - L = 12 - (L + 1) + 1 by omega, Nat.pow_succ, Nat.mul_comm 2, Nat.mul_assoc, Nat.mul_comm 2 (2 ^ _)]
    rw [e, Int.natCast_add, Int.natCast_mul (nlc lg n _)]
theorem vb_12 {lg : Nat → Int} {n : Nat} (hok : okLg lg n) (hk : kraft lg n = 4096) : vb lg n 12 + nlc lg n ((12 : Nat) : Int) = 4096 := by
  have h1 := vb_kraft hok 12 (by omega)
  have h2 : kraft lg n = fsum (fun s => if 1 ≤ lg s ∧ lg s ≤ ((12 : Nat) : Int) then ((2 ^ (12 - (lg s).toNat) : Nat) : Int) else 0) n := by
    apply fsum_cg
    intro s hs
    have := hok s hs
    rw [if_pos (by omega)]
  rw [← h2, hk, Nat.sub_self, Nat.pow_zero, Nat.mul_one] at h1
  omega
/-- codes at hand for reading -/
def CodR (iz : Nat → Int) (ar : Nat → Nat → Int) (lg : Nat → Int) (n : Nat) : Prop := iz 12 + 2 = n ∧ n ≤ 258 ∧ (∀ k : Nat, k < n → ar 16 k = lg k) ∧ (∀ k : Nat, k < n → ar 17 k = codeV lg n k) ∧ okLg lg n ∧ kraft lg n = 4096
theorem CodR.fr {iz iz1 : Nat → Int} {ar ar1 : Nat → Nat → Int} {lg : Nat → Int} {n : Nat} {K K' : List Nat} (k : CodR iz ar lg n) (hi : KI K iz iz1) (ha : KA K' ar ar1) (h1 : K.contains 12 = false) (h2 : K'.contains 16 = false) (h3 : K'.contains 17 = false) : CodR iz1 ar1 lg n := by
  unfold CodR at k ⊢
  rw [hi 12 h1, ha 16 h2, ha 17 h3]
  exact k
def SyQ (h0 : ax_H) (iz : Nat → Int) (ar : Nat → Nat → Int) (T : List Int) (lg : Nat → Int) (n p : Nat) (r0 : Option Value) (h1 : ax_H) : Prop := ∃ z : Int, r0 = some (.int (iv z)) ∧ (match rdY T lg n 12 1 p 0 with
    | none => z = -1 ∧ RdE h1 iz ar (1, T.length)
    | some q => z = q.1 ∧ ∃ iz1, MoH h1 iz1 ar ∧ KI [27] iz iz1 ∧ MoR iz1 ar T q.2) ∧ Fr MOS h0 h1
set_option maxRecDepth 100000 in
set_option maxHeartbeats 8000000 in
theorem c_Mo_readsSymbol {h0 : ax_H} {iz : Nat → Int} {ar : Nat → Nat → Int} {T : List Int} {lg : Nat → Int} {n p : Nat} (hH : MoH h0 iz ar) (hR : MoR iz ar T p) (hC : CodR iz ar lg n) : ax_Ci m_Mo_readsSymbol 2 [.ref 47] h0 (fun z h1 => (match rdY T lg n 12 1 p 0 with
    | none => z = -1 ∧ RdE h1 iz ar (1, T.length)
    | some q => z = q.1 ∧ ∃ iz1, MoH h1 iz1 ar ∧ KI [27] iz iz1 ∧ MoR iz1 ar T q.2) ∧ Fr MOS h0 h1) := by
  obtain ⟨c1, c2, c3, c4, hok, hkr⟩ := hC
  have h12 := vb_12 hok hkr
  refine ax_enter [some (.ref 47), none, none, none] rfl (Nat.le_of_ble_eq_true rfl) (by decide) ?_
  show ax_W _ _ _ _ _ _ (SyQ h0 iz ar T lg n p)
  refine az_iconst d_Mo_readsSymbol_0 ?_
  refine ax_istore_n d_Mo_readsSymbol_1 (by decide) rfl ?_
  refine az_iconst d_Mo_readsSymbol_2 ?_
  refine ax_istore_n d_Mo_readsSymbol_3 (by decide) rfl ?_
  have outer : ∀ (r l p1 v : Nat) (iz1 : Nat → Int) (h : ax_H), l + r = 13 → 1 ≤ l → v < 2 ^ (l - 1) → vb lg n (l - 1) + nlc lg n ((l - 1 : Nat) : Int) ≤ v → MoH h iz1 ar → Fr MOS h0 h → KI [27] iz iz1 → MoR iz1 ar T p1 → rdY T lg n r l p1 v = rdY T lg n 12 1 p 0 → ∀ v3 : Option Value,
      ax_W m_Mo_readsSymbol 2 4 [some (.ref 47), some (.int (iv v)), some (.int (iv l)), v3] [] h (SyQ h0 iz ar T lg n p) := by
    intro r
    induction r with
    | zero =>
      intro l p1 v iz1 h he hl hv hge hH hF ki hR hr v3
      exfalso
      have hl13 : l = 13 := by omega
      subst hl13
      have e12 : 2 ^ (13 - 1) = 4096 := by decide
      have hge : vb lg n 12 + nlc lg n ((12 : Nat) : Int) ≤ v := hge
      omega
    | succ r ih =>
      intro l p1 v iz1 h he hl hv hge hH hF ki hR hr v3
      have hp11 : 2 ^ (l - 1) ≤ 2 ^ 11 := Nat.pow_le_pow_right (by decide) (by omega)
      have hp : (2 : Nat) ^ 11 = 2048 := by decide
      have htb := tb_lt T p1
      rw [rdY] at hr
      refine ax_iload_n d_Mo_readsSymbol_4 rfl ?_
      refine az_bipush _ d_Mo_readsSymbol_5 (by decide) ?_
      refine az_icmp_gt 76 d_Mo_readsSymbol_7 (by decide) (by omega) (by omega) (fun hc => ?_) (fun hc => ?_)
      · exfalso
        omega
      · refine ax_iload_n d_Mo_readsSymbol_10 rfl ?_
        refine az_iconst d_Mo_readsSymbol_11 ?_
        refine az_ishl d_Mo_readsSymbol_12 ?_
        refine ax_aload_n d_Mo_readsSymbol_13 rfl ?_
        refine az_iconst d_Mo_readsSymbol_14 ?_
        refine ax_cV1 d_Mo_readsSymbol_15 v_Mo_get lk_Mo_203 (by first | assumption | exact hH.g 0 rfl | exact hH.g 1 rfl | exact hH.g 2 rfl | exact hH.g 3 rfl | exact hH.g 4 rfl | exact hH.g 5 rfl | exact hH.g 6 rfl | exact hH.g 7 rfl | exact hH.g 8 rfl | exact hH.g 9 rfl | exact hH.g 10 rfl | exact hH.g 11 rfl | exact hH.g 12 rfl | exact hH.g 13 rfl | exact hH.g 14 rfl | exact hH.g 15 rfl | exact hH.g 16 rfl | exact hH.g 17 rfl | exact hH.g 18 rfl) (by decide) (Nat.le_of_ble_eq_true rfl) (cm_j (c_Mo_get hH hR (n := 1) (by omega)) (fun z h1 hq => ?_))
        obtain ⟨hq, hF1⟩ := hq
        by_cases hlk : 8 * T.length < p1 + 1
        · rw [if_pos hlk] at hq hr
          obtain ⟨rfl, hE⟩ := hq
          have hE0 := hE.tr ki (KA.rf (K := [])) rfl rfl
          obtain ⟨iz3, ar3, hH, -, -, e28, -, b1, b2⟩ := hE
          refine aj_l2i d_Mo_readsSymbol_18 ?_
          refine az_ior d_Mo_readsSymbol_19 ?_
          refine ax_istore_n d_Mo_readsSymbol_20 (by decide) rfl ?_
          refine ax_aload_n d_Mo_readsSymbol_21 rfl ?_
          refine ax_get d_Mo_readsSymbol_22 fg_Mo_194 (by first | assumption | exact hH.g 0 rfl | exact hH.g 1 rfl | exact hH.g 2 rfl | exact hH.g 3 rfl | exact hH.g 4 rfl | exact hH.g 5 rfl | exact hH.g 6 rfl | exact hH.g 7 rfl | exact hH.g 8 rfl | exact hH.g 9 rfl | exact hH.g 10 rfl | exact hH.g 11 rfl | exact hH.g 12 rfl | exact hH.g 13 rfl | exact hH.g 14 rfl | exact hH.g 15 rfl | exact hH.g 16 rfl | exact hH.g 17 rfl | exact hH.g 18 rfl) (by rfl) ?_
          refine az_if_eq 30 d_Mo_readsSymbol_25 (by decide) (by first | exact bz_in _ | omega) (fun hc => ?_) (fun hc => ?_)
          · exfalso
            omega
          · refine az_iconst d_Mo_readsSymbol_28 ?_
            refine ax_iret d_Mo_readsSymbol_29 rfl ?_
            unfold SyQ
            rw [← hr]
            exact ⟨_, rfl, ⟨rfl, hE0⟩, hF.tr hF1⟩
        · rw [if_neg hlk] at hq hr
          obtain ⟨rfl, iz3, hH3, ki3, hR3⟩ := hq
          have hH := hH3
          have e28 := hR3.2.2.2.2.2.2
          have e12 : iz3 12 + 2 = (n : Int) := by rw [ki3 12 rfl, ki 12 rfl]; exact c1
          have hF := hF.tr hF1
          have eps : zor (zshl (v : Int) 1) ((tv T 1 p1 : Nat) : Int) = ((2 * v + tb T p1 : Nat) : Int) := by
            rw [tv1, z_pushS (by omega) htb]
            omega
          obtain ⟨w, hw⟩ : ∃ w, w = 2 * v + tb T p1 := ⟨_, rfl⟩
          rw [← hw] at eps hr
          refine aj_l2i d_Mo_readsSymbol_18 ?_
          refine az_ior d_Mo_readsSymbol_19 ?_
          rw [eps]
          refine ax_istore_n d_Mo_readsSymbol_20 (by decide) rfl ?_
          refine ax_aload_n d_Mo_readsSymbol_21 rfl ?_
          refine ax_get d_Mo_readsSymbol_22 fg_Mo_194 (by first | assumption | exact hH.g 0 rfl | exact hH.g 1 rfl | exact hH.g 2 rfl | exact hH.g 3 rfl | exact hH.g 4 rfl | exact hH.g 5 rfl | exact hH.g 6 rfl | exact hH.g 7 rfl | exact hH.g 8 rfl | exact hH.g 9 rfl | exact hH.g 10 rfl | exact hH.g 11 rfl | exact hH.g 12 rfl | exact hH.g 13 rfl | exact hH.g 14 rfl | exact hH.g 15 rfl | exact hH.g 16 rfl | exact hH.g 17 rfl | exact hH.g 18 rfl) (by rfl) ?_
          refine az_if_eq 30 d_Mo_readsSymbol_25 (by decide) (by first | exact bz_in _ | omega) (fun hc => ?_) (fun hc => ?_)
          · refine az_iconst d_Mo_readsSymbol_30 ?_
            refine ax_istore_n d_Mo_readsSymbol_31 (by decide) rfl ?_
            have inner : ∀ (f s : Nat), s + f = n → (∀ j : Nat, j < s → ¬ (lg j = (l : Int) ∧ codeV lg n j = w)) →
                ax_W m_Mo_readsSymbol 2 32 [some (.ref 47), some (.int (iv w)), some (.int (iv l)), some (.int (iv s))] [] h1 (SyQ h0 iz ar T lg n p) := by
              intro f
              induction f with
              | zero =>
                intro s hs hno
                have hnone : symT lg n l w = none := by
                  unfold symT
                  rw [List.find?_eq_none]
                  intro j hj q
                  exact hno j (by have := List.mem_range.mp hj; omega) (of_decide_eq_true q)
                rw [hnone] at hr
                have hr : rdY T lg n r (l + 1) (p1 + 1) w = rdY T lg n 12 1 p 0 := hr
                refine ax_iload_n d_Mo_readsSymbol_32 rfl ?_
                refine ax_aload_n d_Mo_readsSymbol_33 rfl ?_
                refine ax_get d_Mo_readsSymbol_34 fg_Mo_138 (by first | assumption | exact hH.g 0 rfl | exact hH.g 1 rfl | exact hH.g 2 rfl | exact hH.g 3 rfl | exact hH.g 4 rfl | exact hH.g 5 rfl | exact hH.g 6 rfl | exact hH.g 7 rfl | exact hH.g 8 rfl | exact hH.g 9 rfl | exact hH.g 10 rfl | exact hH.g 11 rfl | exact hH.g 12 rfl | exact hH.g 13 rfl | exact hH.g 14 rfl | exact hH.g 15 rfl | exact hH.g 16 rfl | exact hH.g 17 rfl | exact hH.g 18 rfl) (by rfl) ?_
                refine az_iconst d_Mo_readsSymbol_37 ?_
                refine az_iadd d_Mo_readsSymbol_38 ?_
                rw [e12]
                refine az_icmp_ge 70 d_Mo_readsSymbol_39 (by decide) (by omega) (by omega) (fun hc => ?_) (fun hc => ?_)
                · refine az_iinc d_Mo_readsSymbol_70 rfl (by decide) rfl ?_
                  refine ax_goto 4 d_Mo_readsSymbol_73 (by decide) ?_
                  refine ih (l + 1) (p1 + 1) w iz3 h1 (by omega) (by omega) ?_ ?_ hH hF (ki.tr ki3) hR3 hr _
                  · rw [Nat.add_sub_cancel]
                    have : 2 ^ l = 2 ^ (l - 1) * 2 := by rw [← Nat.pow_succ]; congr 1; omega
                    omega
                  · rw [Nat.add_sub_cancel]
                    have evb : vb lg n l = 2 * (vb lg n (l - 1) + nlc lg n ((l - 1 : Nat) : Int)) := by
                      obtain ⟨x, rfl⟩ : ∃ x, l = x + 1 := ⟨l - 1, by omega⟩
                      rfl
                    apply Classical.byContradiction
                    intro hlt
                    obtain ⟨s0, -, hs0, -⟩ := symT_some (lg := lg) (n := n) (l := l) (v := w) (by omega) (by omega)
                    rw [hnone] at hs0
                    cases hs0
                · exfalso
                  omega
              | succ f ih2 =>
                intro s hs hno
                have k1 : ar 16 ((s : Int).toNat) = lg s := c3 s (by omega)
                have k2 : ar 17 ((s : Int).toNat) = ((codeV lg n s : Nat) : Int) := c4 s (by omega)
                have hl1 := hok s (by omega)
                have hcv := codeV_le c2 hok (show s < n by omega)
                have next : ¬ (lg s = (l : Int) ∧ codeV lg n s = w) → ax_W m_Mo_readsSymbol 2 64 [some (.ref 47), some (.int (iv w)), some (.int (iv l)), some (.int (iv s))] [] h1 (SyQ h0 iz ar T lg n p) := by
                  intro hq
                  refine az_iinc d_Mo_readsSymbol_64 rfl (by decide) rfl ?_
                  refine ax_goto 32 d_Mo_readsSymbol_67 (by decide) ?_
                  refine ih2 (s + 1) (by omega) (fun j hj => ?_)
                  by_cases e : j = s
                  · rw [e]; exact hq
                  · exact hno j (by omega)
                refine ax_iload_n d_Mo_readsSymbol_32 rfl ?_
                refine ax_aload_n d_Mo_readsSymbol_33 rfl ?_
                refine ax_get d_Mo_readsSymbol_34 fg_Mo_138 (by first | assumption | exact hH.g 0 rfl | exact hH.g 1 rfl | exact hH.g 2 rfl | exact hH.g 3 rfl | exact hH.g 4 rfl | exact hH.g 5 rfl | exact hH.g 6 rfl | exact hH.g 7 rfl | exact hH.g 8 rfl | exact hH.g 9 rfl | exact hH.g 10 rfl | exact hH.g 11 rfl | exact hH.g 12 rfl | exact hH.g 13 rfl | exact hH.g 14 rfl | exact hH.g 15 rfl | exact hH.g 16 rfl | exact hH.g 17 rfl | exact hH.g 18 rfl) (by rfl) ?_
                refine az_iconst d_Mo_readsSymbol_37 ?_
                refine az_iadd d_Mo_readsSymbol_38 ?_
                rw [e12]
                refine az_icmp_ge 70 d_Mo_readsSymbol_39 (by decide) (by omega) (by omega) (fun hc => ?_) (fun hc => ?_)
                · exfalso
                  omega
                · refine ax_aload_n d_Mo_readsSymbol_42 rfl ?_
                  refine ax_get d_Mo_readsSymbol_43 fg_Mo_37 (by first | assumption | exact hH.g 0 rfl | exact hH.g 1 rfl | exact hH.g 2 rfl | exact hH.g 3 rfl | exact hH.g 4 rfl | exact hH.g 5 rfl | exact hH.g 6 rfl | exact hH.g 7 rfl | exact hH.g 8 rfl | exact hH.g 9 rfl | exact hH.g 10 rfl | exact hH.g 11 rfl | exact hH.g 12 rfl | exact hH.g 13 rfl | exact hH.g 14 rfl | exact hH.g 15 rfl | exact hH.g 16 rfl | exact hH.g 17 rfl | exact hH.g 18 rfl) (by rfl) ?_
                  refine ax_iload_n d_Mo_readsSymbol_46 rfl ?_
                  refine az_iald d_Mo_readsSymbol_47 (by first | assumption | exact hH.g 0 rfl | exact hH.g 1 rfl | exact hH.g 2 rfl | exact hH.g 3 rfl | exact hH.g 4 rfl | exact hH.g 5 rfl | exact hH.g 6 rfl | exact hH.g 7 rfl | exact hH.g 8 rfl | exact hH.g 9 rfl | exact hH.g 10 rfl | exact hH.g 11 rfl | exact hH.g 12 rfl | exact hH.g 13 rfl | exact hH.g 14 rfl | exact hH.g 15 rfl | exact hH.g 16 rfl | exact hH.g 17 rfl | exact hH.g 18 rfl) (by omega) (by omega) (by omega) ?_
                  rw [k1]
                  refine ax_iload_n d_Mo_readsSymbol_48 rfl ?_
                  refine az_icmp_ne 64 d_Mo_readsSymbol_49 (by decide) (by omega) (by omega) (fun hne1 => ?_) (fun hne1 => ?_)
                  · exact next (fun q => hne1 q.1)
                  · refine ax_aload_n d_Mo_readsSymbol_52 rfl ?_
                    refine ax_get d_Mo_readsSymbol_53 fg_Mo_40 (by first | assumption | exact hH.g 0 rfl | exact hH.g 1 rfl | exact hH.g 2 rfl | exact hH.g 3 rfl | exact hH.g 4 rfl | exact hH.g 5 rfl | exact hH.g 6 rfl | exact hH.g 7 rfl | exact hH.g 8 rfl | exact hH.g 9 rfl | exact hH.g 10 rfl | exact hH.g 11 rfl | exact hH.g 12 rfl | exact hH.g 13 rfl | exact hH.g 14 rfl | exact hH.g 15 rfl | exact hH.g 16 rfl | exact hH.g 17 rfl | exact hH.g 18 rfl) (by rfl) ?_
                    refine ax_iload_n d_Mo_readsSymbol_56 rfl ?_
                    refine az_iald d_Mo_readsSymbol_57 (by first | assumption | exact hH.g 0 rfl | exact hH.g 1 rfl | exact hH.g 2 rfl | exact hH.g 3 rfl | exact hH.g 4 rfl | exact hH.g 5 rfl | exact hH.g 6 rfl | exact hH.g 7 rfl | exact hH.g 8 rfl | exact hH.g 9 rfl | exact hH.g 10 rfl | exact hH.g 11 rfl | exact hH.g 12 rfl | exact hH.g 13 rfl | exact hH.g 14 rfl | exact hH.g 15 rfl | exact hH.g 16 rfl | exact hH.g 17 rfl | exact hH.g 18 rfl) (by omega) (by omega) (by omega) ?_
                    rw [k2]
                    refine ax_iload_n d_Mo_readsSymbol_58 rfl ?_
                    refine az_icmp_ne 64 d_Mo_readsSymbol_59 (by decide) (by omega) (by omega) (fun hne2 => ?_) (fun hne2 => ?_)
                    · exact next (fun q => hne2 (by rw [q.2]))
                    · have hsome : symT lg n l w = some s := by
                        unfold symT
                        rw [List.find?_range_eq_some]
                        refine ⟨decide_eq_true ⟨hne1, by omega⟩, List.mem_range.mpr (by omega), fun j hj => ?_⟩
                        have := hno j hj
                        rw [decide_eq_false this]
                        rfl
                      rw [hsome] at hr
                      refine ax_iload_n d_Mo_readsSymbol_62 rfl ?_
                      refine ax_iret d_Mo_readsSymbol_63 rfl ?_
                      unfold SyQ
                      rw [← hr]
                      exact ⟨_, rfl, ⟨rfl, iz3, hH, ki.tr ki3, hR3⟩, hF⟩
            exact inner n 0 (by omega) (fun j hj => by omega)
          · exfalso
            omega
  exact outer 12 1 p 0 iz h0 (by omega) (by omega) (by decide) (by
    show vb lg n 0 + nlc lg n ((0 : Nat) : Int) ≤ 0
    rw [nlc0 hok]
    exact Nat.le_refl _) hH Fr.rf KI.rf hR rfl none
/-- no two alike -/
def ndp (l : List Int) : Prop := ∀ i j : Nat, i < l.length → j < l.length → gx l i = gx l j → i = j
theorem ndp_of {l : List Int} (h : l.Nodup) : ndp l := fun i j hi hj e => (List.getD_inj hi hj h).mp e
theorem ndp_mtf {l : List Int} {p : Nat} (hp : p < l.length) (h : ndp l) : ndp (mtf l p) := by
  have e : ∀ i : Nat, i < l.length → gx (mtf l p) i = gx l (if i = 0 then p else if i ≤ p then i - 1 else i) := by
    intro i hi
    show (mtf l p).getD i 0 = _
    rw [mtf, mk_at hi]
    by_cases e1 : i = 0
    · rw [if_pos e1, if_pos e1]
    · rw [if_neg e1, if_neg e1]
      by_cases e2 : i ≤ p
      · rw [if_pos e2, if_pos e2]
      · rw [if_neg e2, if_neg e2]
  intro i j hi hj he
  rw [mtf_len] at hi hj
  rw [e i hi, e j hj] at he
  have hb : ∀ i : Nat, i < l.length → (if i = 0 then p else if i ≤ p then i - 1 else i) < l.length := by
    intro i hi
    split
    · exact hp
    · split
      · omega
      · exact hi
  have := h _ _ (hb i hi) (hb j hj) he
  by_cases a1 : i = 0
  · rw [if_pos a1] at this
    by_cases b1 : j = 0
    · omega
    · rw [if_neg b1] at this
      by_cases b2 : j ≤ p
      · rw [if_pos b2] at this; omega
      · rw [if_neg b2] at this; omega
  · rw [if_neg a1] at this
    by_cases a2 : i ≤ p
    · rw [if_pos a2] at this
      by_cases b1 : j = 0
      · rw [if_pos b1] at this; omega
      · rw [if_neg b1] at this
        by_cases b2 : j ≤ p
        · rw [if_pos b2] at this; omega
        · rw [if_neg b2] at this; omega
    · rw [if_neg a2] at this
      by_cases b1 : j = 0
      · rw [if_pos b1] at this; omega
      · rw [if_neg b1] at this
        by_cases b2 : j ≤ p
        · rw [if_pos b2] at this; omega
        · rw [if_neg b2] at this; omega
theorem fidx_nd {l : List Int} (h : ndp l) {p : Nat} (hp : p < l.length) : fidx l (gx l p) = p := fidx_eq l _ p (fun j hj e => by
  have := h j p (by omega) hp e
  omega) (Or.inr ⟨hp, rfl⟩)
theorem manyS_c {s w : Nat} (h : s < 2) : ((s : Int) + 1) * (w : Int) = ((manyS s w : Nat) : Int) := by
  unfold manyS
  rw [if_pos h, Int.natCast_mul]
  rfl
def RowQ (h0 : ax_H) (iz : Nat → Int) (ar : Nat → Nat → Int) (T : List Int) (lg : Nat → Int) (c p : Nat) (l0 : List Int) (r0 : Option Value) (h1 : ax_H) : Prop := ∃ b : Bool, r0 = some (.int (iv (bz b))) ∧ (match rdR T lg c (c + 1) p l0 1 [] with
    | .inl e => b = false ∧ RdE h1 iz ar e
    | .inr q => b = true ∧ ∃ iz1 ar1, MoH h1 iz1 ar1 ∧ KI [2, 27] iz iz1 ∧ KA [3, 13] ar ar1 ∧ MoR iz1 ar1 T q.2 ∧ iz1 2 = q.1.length ∧ la (ar1 3) q.1) ∧ Fr MOS h0 h1
theorem RowQ_e {h0 h1 : ax_H} {iz : Nat → Int} {ar : Nat → Nat → Int} {T : List Int} {lg : Nat → Int} {c p : Nat} {l0 : List Int} {e : RF} (he : (.inl e : Sum RF (List Int × Nat)) = rdR T lg c (c + 1) p l0 1 []) (hE : RdE h1 iz ar e) (hF : Fr MOS h0 h1) : RowQ h0 iz ar T lg c p l0 (some (.int (iv (bz false)))) h1 := by
  unfold RowQ
  rw [← he]
  exact ⟨false, rfl, ⟨rfl, hE⟩, hF⟩
section RROW
variable {h0 : ax_H} {iz : Nat → Int} {ar : Nat → Nat → Int} {T : List Int} {lg : Nat → Int} {c p : Nat} {l0 : List Int}
set_option maxRecDepth 100000 in
set_option maxHeartbeats 16000000 in
theorem w_Mo_rrow (hc9 : c ≤ 900) : ∀ (f p1 w : Nat) (l acc : List Int) (iz1 : Nat → Int) (ar1 : Nat → Nat → Int) (h : ax_H), c + 1 ≤ acc.length + f → acc.length ≤ c → 1 ≤ w → w ≤ 1800 → 1 ≤ l.length → l.length ≤ 256 → Bs l → ndp l → MoH h iz1 ar1 → Fr MOS h0 h → KI [2, 27] iz iz1 → KA [3, 13] ar ar1 → MoR iz1 ar1 T p1 → CodR iz1 ar1 lg (l.length + 2) → la (ar1 13) l → iz1 2 = acc.length → la (ar1 3) acc → rdR T lg c f p1 l w acc = rdR T lg c (c + 1) p l0 1 [] → ∀ v3 v4 v5 v6 v7 : Option Value,
    ax_W m_Mo_readsRow 3 7 [some (.ref 47), some (.int (iv c)), some (.int (iv w)), v3, v4, v5, v6, v7] [] h (RowQ h0 iz ar T lg c p l0) := by
  intro f
  induction f with
  | zero =>
    intro p1 w l acc iz1 ar1 h hf hac
    exfalso
    omega
  | succ f ih =>
    intro p1 w l acc iz1 ar1 h hf hac hw1 hw2 hl1 hl2 hbl hnd hH hF ki ka hR hC h13 e2 h3 hs v3 v4 v5 v6 v7
    obtain ⟨s1, s2, s3, s4, s5, s6, s7⟩ := id hR
    have ep : iz1 27 / 8 = ((p1 / 8 : Nat) : Int) := by omega
    rw [rdR] at hs
    refine ax_aload_n d_Mo_readsRow_7 rfl ?_
    refine ax_get d_Mo_readsRow_8 fg_Mo_197 (by first | assumption | exact hH.g 0 rfl | exact hH.g 1 rfl | exact hH.g 2 rfl | exact hH.g 3 rfl | exact hH.g 4 rfl | exact hH.g 5 rfl | exact hH.g 6 rfl | exact hH.g 7 rfl | exact hH.g 8 rfl | exact hH.g 9 rfl | exact hH.g 10 rfl | exact hH.g 11 rfl | exact hH.g 12 rfl | exact hH.g 13 rfl | exact hH.g 14 rfl | exact hH.g 15 rfl | exact hH.g 16 rfl | exact hH.g 17 rfl | exact hH.g 18 rfl) (by rfl) ?_
    refine az_bipush _ d_Mo_readsRow_11 (by decide) ?_
    refine az_idiv d_Mo_readsRow_13 (by omega) (by omega) ?_
    rw [ep]
    refine ax_istore_n d_Mo_readsRow_14 (by decide) rfl ?_
    refine ax_aload_n d_Mo_readsRow_15 rfl ?_
    refine ax_cV0 d_Mo_readsRow_16 v_Mo_readsSymbol lk_Mo_211 (by first | assumption | exact hH.g 0 rfl | exact hH.g 1 rfl | exact hH.g 2 rfl | exact hH.g 3 rfl | exact hH.g 4 rfl | exact hH.g 5 rfl | exact hH.g 6 rfl | exact hH.g 7 rfl | exact hH.g 8 rfl | exact hH.g 9 rfl | exact hH.g 10 rfl | exact hH.g 11 rfl | exact hH.g 12 rfl | exact hH.g 13 rfl | exact hH.g 14 rfl | exact hH.g 15 rfl | exact hH.g 16 rfl | exact hH.g 17 rfl | exact hH.g 18 rfl) (by decide) (Nat.le_of_ble_eq_true rfl) (cm_i (c_Mo_readsSymbol hH hR hC) (fun z h1 hq => ?_))
    obtain ⟨hq, hF1⟩ := hq
    cases hY : rdY T lg (l.length + 2) 12 1 p1 0 with
    | none =>
      rw [hY] at hq hs
      obtain ⟨rfl, hE⟩ := hq
      have hs : (.inl (1, (T.length : Int)) : Sum RF (List Int × Nat)) = rdR T lg c (c + 1) p l0 1 [] := hs
      have hE0 := hE.tr ki ka rfl rfl
      obtain ⟨iz3, ar3, hH, -, -, e28, -, b1, b2⟩ := hE
      refine ax_istore d_Mo_readsRow_19 (by decide) rfl ?_
      refine ax_aload_n d_Mo_readsRow_21 rfl ?_
      refine ax_get d_Mo_readsRow_22 fg_Mo_194 (by first | assumption | exact hH.g 0 rfl | exact hH.g 1 rfl | exact hH.g 2 rfl | exact hH.g 3 rfl | exact hH.g 4 rfl | exact hH.g 5 rfl | exact hH.g 6 rfl | exact hH.g 7 rfl | exact hH.g 8 rfl | exact hH.g 9 rfl | exact hH.g 10 rfl | exact hH.g 11 rfl | exact hH.g 12 rfl | exact hH.g 13 rfl | exact hH.g 14 rfl | exact hH.g 15 rfl | exact hH.g 16 rfl | exact hH.g 17 rfl | exact hH.g 18 rfl) (by rfl) ?_
      refine az_if_eq 30 d_Mo_readsRow_25 (by decide) (by first | exact bz_in _ | omega) (fun hc => ?_) (fun hc => ?_)
      · exfalso
        omega
      · refine az_iconst d_Mo_readsRow_28 ?_
        refine ax_zret d_Mo_readsRow_29 rfl (by decide) ?_
        exact RowQ_e hs hE0 (hF.tr hF1)
    | some q =>
      rw [hY] at hq hs
      obtain ⟨rfl, iz3, hH3, ki3, hR3⟩ := hq
      have hyk := rdY_ok _ _ _ _ _ hY
      obtain ⟨s, p2⟩ := q
      have hs : (if s = l.length + 1 then (if acc.length = c then .inr (acc, p2) else .inl (8, ((p1 / 8 : Nat) : Int))) else if c < acc.length + manyS s w then .inl (8, ((p1 / 8 : Nat) : Int)) else rdR T lg c f p2 (if s < 2 then l else mtf l (s - 1)) (if s < 2 then 2 * w else 1) (acc ++ List.replicate (manyS s w) (gx l (if s < 2 then 0 else s - 1)))) = rdR T lg c (c + 1) p l0 1 [] := hs
      have hsn : s < l.length + 2 := hyk.1
      have hR3 : MoR iz3 ar1 T p2 := hR3
      have hH := hH3
      have e28 := hR3.2.2.2.2.2.2
      have f2 : iz3 2 = (acc.length : Int) := (ki3 2 rfl).trans e2
      have hC3 := hC.fr ki3 (KA.rf (K := [])) rfl rfl rfl
      have f12 := hC3.1
      have ki13 := ki.tr (ki3.wide (K' := [2, 27]) rfl)
      have hF := hF.tr hF1
      show ax_W m_Mo_readsRow 3 19 _ (.int (iv (s : Int)) :: _) _ _
      refine ax_istore d_Mo_readsRow_19 (by decide) rfl ?_
      refine ax_aload_n d_Mo_readsRow_21 rfl ?_
      refine ax_get d_Mo_readsRow_22 fg_Mo_194 (by first | assumption | exact hH.g 0 rfl | exact hH.g 1 rfl | exact hH.g 2 rfl | exact hH.g 3 rfl | exact hH.g 4 rfl | exact hH.g 5 rfl | exact hH.g 6 rfl | exact hH.g 7 rfl | exact hH.g 8 rfl | exact hH.g 9 rfl | exact hH.g 10 rfl | exact hH.g 11 rfl | exact hH.g 12 rfl | exact hH.g 13 rfl | exact hH.g 14 rfl | exact hH.g 15 rfl | exact hH.g 16 rfl | exact hH.g 17 rfl | exact hH.g 18 rfl) (by rfl) ?_
      refine az_if_eq 30 d_Mo_readsRow_25 (by decide) (by first | exact bz_in _ | omega) (fun hc => ?_) (fun hc => ?_)
      · refine ax_iload d_Mo_readsRow_30 rfl ?_
        refine ax_aload_n d_Mo_readsRow_32 rfl ?_
        refine ax_get d_Mo_readsRow_33 fg_Mo_138 (by first | assumption | exact hH.g 0 rfl | exact hH.g 1 rfl | exact hH.g 2 rfl | exact hH.g 3 rfl | exact hH.g 4 rfl | exact hH.g 5 rfl | exact hH.g 6 rfl | exact hH.g 7 rfl | exact hH.g 8 rfl | exact hH.g 9 rfl | exact hH.g 10 rfl | exact hH.g 11 rfl | exact hH.g 12 rfl | exact hH.g 13 rfl | exact hH.g 14 rfl | exact hH.g 15 rfl | exact hH.g 16 rfl | exact hH.g 17 rfl | exact hH.g 18 rfl) (by rfl) ?_
        refine az_iconst d_Mo_readsRow_36 ?_
        refine az_iadd d_Mo_readsRow_37 ?_
        refine az_icmp_ne 65 d_Mo_readsRow_38 (by decide) (by omega) (by omega) (fun hend => ?_) (fun hend => ?_)
        · rw [if_neg (show ¬ s = l.length + 1 by omega)] at hs
          have hmb := manyS_b s w hw1
          -- how many, of what
          have rest : ax_W m_Mo_readsRow 3 81 [some (.ref 47), some (.int (iv c)), some (.int (iv w)), some (.int (iv ((p1 / 8 : Nat) : Int))), some (.int (iv (s : Int))), v5, v6, v7] [.int (iv ((manyS s w : Nat) : Int))] h1 (RowQ h0 iz ar T lg c p l0) := by
            refine ax_istore d_Mo_readsRow_81 (by decide) rfl ?_
            refine ax_aload_n d_Mo_readsRow_83 rfl ?_
            refine ax_get d_Mo_readsRow_84 fg_Mo_87 (by first | assumption | exact hH.g 0 rfl | exact hH.g 1 rfl | exact hH.g 2 rfl | exact hH.g 3 rfl | exact hH.g 4 rfl | exact hH.g 5 rfl | exact hH.g 6 rfl | exact hH.g 7 rfl | exact hH.g 8 rfl | exact hH.g 9 rfl | exact hH.g 10 rfl | exact hH.g 11 rfl | exact hH.g 12 rfl | exact hH.g 13 rfl | exact hH.g 14 rfl | exact hH.g 15 rfl | exact hH.g 16 rfl | exact hH.g 17 rfl | exact hH.g 18 rfl) (by rfl) ?_
            refine ax_iload d_Mo_readsRow_87 rfl ?_
            refine az_iadd d_Mo_readsRow_89 ?_
            refine ax_iload_n d_Mo_readsRow_90 rfl ?_
            refine az_icmp_le 102 d_Mo_readsRow_91 (by decide) (by omega) (by omega) (fun hle => ?_) (fun hle => ?_)
            · rw [if_neg (show ¬ c < acc.length + manyS s w by omega)] at hs
              -- the bytes go into the row
              have bytes : ∀ (w2 : Nat) (l2 : List Int) (b : Int) (iz4 : Nat → Int) (ar4 : Nat → Nat → Int) (h : ax_H), 1 ≤ w2 → w2 ≤ 1800 → l2.length = l.length → Bs l2 → ndp l2 → MoH h iz4 ar4 → Fr MOS h0 h → KI [2, 27] iz iz4 → KA [3, 13] ar ar4 → MoR iz4 ar4 T p2 → CodR iz4 ar4 lg (l2.length + 2) → la (ar4 13) l2 → iz4 2 = acc.length → la (ar4 3) acc → rdR T lg c f p2 l2 w2 (acc ++ List.replicate (manyS s w) b) = rdR T lg c (c + 1) p l0 1 [] →
                  ax_W m_Mo_readsRow 3 155 [some (.ref 47), some (.int (iv c)), some (.int (iv w2)), some (.int (iv ((p1 / 8 : Nat) : Int))), some (.int (iv (s : Int))), some (.int (iv ((manyS s w : Nat) : Int))), some (.int (iv b)), v7] [] h (RowQ h0 iz ar T lg c p l0) := by
                intro w2 l2 b iz4 ar4 h hw21 hw22 hll hb2 hn2 hH hF ki ka hR hC h13 e2 h3 hs
                refine az_iconst d_Mo_readsRow_155 ?_
                refine ax_istore d_Mo_readsRow_156 (by decide) rfl ?_
                have inner : ∀ (r k : Nat) (iz4 : Nat → Int) (ar4 : Nat → Nat → Int) (h : ax_H), k + r = manyS s w → MoH h iz4 ar4 → Fr MOS h0 h → KI [2, 27] iz iz4 → KA [3, 13] ar ar4 → MoR iz4 ar4 T p2 → CodR iz4 ar4 lg (l2.length + 2) → la (ar4 13) l2 → iz4 2 = (acc ++ List.replicate k b).length → la (ar4 3) (acc ++ List.replicate k b) →
                    ax_W m_Mo_readsRow 3 158 [some (.ref 47), some (.int (iv c)), some (.int (iv w2)), some (.int (iv ((p1 / 8 : Nat) : Int))), some (.int (iv (s : Int))), some (.int (iv ((manyS s w : Nat) : Int))), some (.int (iv b)), some (.int (iv k))] [] h (RowQ h0 iz ar T lg c p l0) := by
                  intro r
                  induction r with
                  | zero =>
                    intro k iz4 ar4 h hk hH hF ki ka hR hC h13 e2 h3
                    have hk2 : k = manyS s w := by omega
                    subst hk2
                    have hlen : (acc ++ List.replicate (manyS s w) b).length = acc.length + manyS s w := by rw [List.length_append, List.length_replicate]
                    refine ax_iload d_Mo_readsRow_158 rfl ?_
                    refine ax_iload d_Mo_readsRow_160 rfl ?_
                    refine az_icmp_ge 189 d_Mo_readsRow_162 (by decide) (by omega) (by omega) (fun hc => ?_) (fun hc => ?_)
                    · refine ax_goto 7 d_Mo_readsRow_189 (by decide) ?_
                      exact ih p2 w2 l2 _ iz4 ar4 h (by omega) (by omega) hw21 hw22 (by omega) (by omega) hb2 hn2 hH hF ki ka hR hC h13 e2 h3 hs _ _ _ _ _
                    · exfalso
                      omega
                  | succ r ih2 =>
                    intro k iz4 ar4 h hk hH hF ki ka hR hC h13 e2 h3
                    have hlen : (acc ++ List.replicate k b).length = acc.length + k := by rw [List.length_append, List.length_replicate]
                    refine ax_iload d_Mo_readsRow_158 rfl ?_
                    refine ax_iload d_Mo_readsRow_160 rfl ?_
                    refine az_icmp_ge 189 d_Mo_readsRow_162 (by decide) (by omega) (by omega) (fun hc => ?_) (fun hc => ?_)
                    · exfalso
                      omega
                    · refine ax_aload_n d_Mo_readsRow_165 rfl ?_
                      refine ax_get d_Mo_readsRow_166 fg_Mo_13 (by first | assumption | exact hH.g 0 rfl | exact hH.g 1 rfl | exact hH.g 2 rfl | exact hH.g 3 rfl | exact hH.g 4 rfl | exact hH.g 5 rfl | exact hH.g 6 rfl | exact hH.g 7 rfl | exact hH.g 8 rfl | exact hH.g 9 rfl | exact hH.g 10 rfl | exact hH.g 11 rfl | exact hH.g 12 rfl | exact hH.g 13 rfl | exact hH.g 14 rfl | exact hH.g 15 rfl | exact hH.g 16 rfl | exact hH.g 17 rfl | exact hH.g 18 rfl) (by rfl) ?_
                      refine ax_aload_n d_Mo_readsRow_169 rfl ?_
                      refine ax_dup d_Mo_readsRow_170 rfl ?_
                      refine ax_get d_Mo_readsRow_171 fg_Mo_87 (by first | assumption | exact hH.g 0 rfl | exact hH.g 1 rfl | exact hH.g 2 rfl | exact hH.g 3 rfl | exact hH.g 4 rfl | exact hH.g 5 rfl | exact hH.g 6 rfl | exact hH.g 7 rfl | exact hH.g 8 rfl | exact hH.g 9 rfl | exact hH.g 10 rfl | exact hH.g 11 rfl | exact hH.g 12 rfl | exact hH.g 13 rfl | exact hH.g 14 rfl | exact hH.g 15 rfl | exact hH.g 16 rfl | exact hH.g 17 rfl | exact hH.g 18 rfl) (by rfl) ?_
                      refine ax_dup_x1 d_Mo_readsRow_174 rfl rfl ?_
                      refine az_iconst d_Mo_readsRow_175 ?_
                      refine az_iadd d_Mo_readsRow_176 ?_
                      first | refine ah_put d_Mo_readsRow_177 fp_Mo_87 hH hF 0 rfl rfl rfl (by first | rfl | decide) (Nat.le_of_ble_eq_true rfl) (fun h hH hF => ?_) | refine ah_put d_Mo_readsRow_177 fp_Mo_87 hH hF 1 rfl rfl rfl (by first | rfl | decide) (Nat.le_of_ble_eq_true rfl) (fun h hH hF => ?_) | refine ah_put d_Mo_readsRow_177 fp_Mo_87 hH hF 2 rfl rfl rfl (by first | rfl | decide) (Nat.le_of_ble_eq_true rfl) (fun h hH hF => ?_) | refine ah_put d_Mo_readsRow_177 fp_Mo_87 hH hF 3 rfl rfl rfl (by first | rfl | decide) (Nat.le_of_ble_eq_true rfl) (fun h hH hF => ?_) | refine ah_put d_Mo_readsRow_177 fp_Mo_87 hH hF 4 rfl rfl rfl (by first | rfl | decide) (Nat.le_of_ble_eq_true rfl) (fun h hH hF => ?_) | refine ah_put d_Mo_readsRow_177 fp_Mo_87 hH hF 5 rfl rfl rfl (by first | rfl | decide) (Nat.le_of_ble_eq_true rfl) (fun h hH hF => ?_) | refine ah_put d_Mo_readsRow_177 fp_Mo_87 hH hF 6 rfl rfl rfl (by first | rfl | decide) (Nat.le_of_ble_eq_true rfl) (fun h hH hF => ?_) | refine ah_put d_Mo_readsRow_177 fp_Mo_87 hH hF 7 rfl rfl rfl (by first | rfl | decide) (Nat.le_of_ble_eq_true rfl) (fun h hH hF => ?_) | refine ah_put d_Mo_readsRow_177 fp_Mo_87 hH hF 8 rfl rfl rfl (by first | rfl | decide) (Nat.le_of_ble_eq_true rfl) (fun h hH hF => ?_) | refine ah_put d_Mo_readsRow_177 fp_Mo_87 hH hF 9 rfl rfl rfl (by first | rfl | decide) (Nat.le_of_ble_eq_true rfl) (fun h hH hF => ?_) | refine ah_put d_Mo_readsRow_177 fp_Mo_87 hH hF 10 rfl rfl rfl (by first | rfl | decide) (Nat.le_of_ble_eq_true rfl) (fun h hH hF => ?_) | refine ah_put d_Mo_readsRow_177 fp_Mo_87 hH hF 11 rfl rfl rfl (by first | rfl | decide) (Nat.le_of_ble_eq_true rfl) (fun h hH hF => ?_) | refine ah_put d_Mo_readsRow_177 fp_Mo_87 hH hF 12 rfl rfl rfl (by first | rfl | decide) (Nat.le_of_ble_eq_true rfl) (fun h hH hF => ?_) | refine ah_put d_Mo_readsRow_177 fp_Mo_87 hH hF 13 rfl rfl rfl (by first | rfl | decide) (Nat.le_of_ble_eq_true rfl) (fun h hH hF => ?_) | refine ah_put d_Mo_readsRow_177 fp_Mo_87 hH hF 14 rfl rfl rfl (by first | rfl | decide) (Nat.le_of_ble_eq_true rfl) (fun h hH hF => ?_) | refine ah_put d_Mo_readsRow_177 fp_Mo_87 hH hF 15 rfl rfl rfl (by first | rfl | decide) (Nat.le_of_ble_eq_true rfl) (fun h hH hF => ?_) | refine ah_put d_Mo_readsRow_177 fp_Mo_87 hH hF 16 rfl rfl rfl (by first | rfl | decide) (Nat.le_of_ble_eq_true rfl) (fun h hH hF => ?_) | refine ah_put d_Mo_readsRow_177 fp_Mo_87 hH hF 17 rfl rfl rfl (by first | rfl | decide) (Nat.le_of_ble_eq_true rfl) (fun h hH hF => ?_) | refine ah_put d_Mo_readsRow_177 fp_Mo_87 hH hF 18 rfl rfl rfl (by first | rfl | decide) (Nat.le_of_ble_eq_true rfl) (fun h hH hF => ?_)
                      refine ax_iload d_Mo_readsRow_180 rfl ?_
                      first | refine ah_iast d_Mo_readsRow_182 hH hF 0 rfl rfl (by omega) (by omega) (by omega) (by omega) (fun h hH hF => ?_) | refine ah_iast d_Mo_readsRow_182 hH hF 1 rfl rfl (by omega) (by omega) (by omega) (by omega) (fun h hH hF => ?_) | refine ah_iast d_Mo_readsRow_182 hH hF 2 rfl rfl (by omega) (by omega) (by omega) (by omega) (fun h hH hF => ?_) | refine ah_iast d_Mo_readsRow_182 hH hF 3 rfl rfl (by omega) (by omega) (by omega) (by omega) (fun h hH hF => ?_) | refine ah_iast d_Mo_readsRow_182 hH hF 4 rfl rfl (by omega) (by omega) (by omega) (by omega) (fun h hH hF => ?_) | refine ah_iast d_Mo_readsRow_182 hH hF 5 rfl rfl (by omega) (by omega) (by omega) (by omega) (fun h hH hF => ?_) | refine ah_iast d_Mo_readsRow_182 hH hF 6 rfl rfl (by omega) (by omega) (by omega) (by omega) (fun h hH hF => ?_) | refine ah_iast d_Mo_readsRow_182 hH hF 7 rfl rfl (by omega) (by omega) (by omega) (by omega) (fun h hH hF => ?_) | refine ah_iast d_Mo_readsRow_182 hH hF 8 rfl rfl (by omega) (by omega) (by omega) (by omega) (fun h hH hF => ?_) | refine ah_iast d_Mo_readsRow_182 hH hF 9 rfl rfl (by omega) (by omega) (by omega) (by omega) (fun h hH hF => ?_) | refine ah_iast d_Mo_readsRow_182 hH hF 10 rfl rfl (by omega) (by omega) (by omega) (by omega) (fun h hH hF => ?_) | refine ah_iast d_Mo_readsRow_182 hH hF 11 rfl rfl (by omega) (by omega) (by omega) (by omega) (fun h hH hF => ?_) | refine ah_iast d_Mo_readsRow_182 hH hF 12 rfl rfl (by omega) (by omega) (by omega) (by omega) (fun h hH hF => ?_) | refine ah_iast d_Mo_readsRow_182 hH hF 13 rfl rfl (by omega) (by omega) (by omega) (by omega) (fun h hH hF => ?_) | refine ah_iast d_Mo_readsRow_182 hH hF 14 rfl rfl (by omega) (by omega) (by omega) (by omega) (fun h hH hF => ?_) | refine ah_iast d_Mo_readsRow_182 hH hF 15 rfl rfl (by omega) (by omega) (by omega) (by omega) (fun h hH hF => ?_) | refine ah_iast d_Mo_readsRow_182 hH hF 16 rfl rfl (by omega) (by omega) (by omega) (by omega) (fun h hH hF => ?_) | refine ah_iast d_Mo_readsRow_182 hH hF 17 rfl rfl (by omega) (by omega) (by omega) (by omega) (fun h hH hF => ?_) | refine ah_iast d_Mo_readsRow_182 hH hF 18 rfl rfl (by omega) (by omega) (by omega) (by omega) (fun h hH hF => ?_)
                      refine az_iinc d_Mo_readsRow_183 rfl (by decide) rfl ?_
                      refine ax_goto 158 d_Mo_readsRow_186 (by decide) ?_
                      refine ih2 (k + 1) (up iz4 2 (iz4 2 + 1)) (upA ar4 3 (up (ar4 3) (iz4 2).toNat b)) h (by omega) hH hF (ki.up 2 _ rfl) (ka.up 3 _ rfl) (hR.fr (K := [2]) (K' := [3]) (KI.rf.up 2 _ rfl) (KA.rf.up 3 _ rfl) rfl rfl) (hC.fr (K := [2]) (K' := [3]) (KI.rf.up 2 _ rfl) (KA.rf.up 3 _ rfl) rfl rfl rfl) h13 ?_ ?_
                      · show iz4 2 + 1 = _
                        rw [List.length_append, List.length_replicate, e2, hlen]
                        omega
                      · rw [List.replicate_succ', ← List.append_assoc]
                        exact la_take_succ h3 (by omega) _
                refine inner (manyS s w) 0 iz4 ar4 h (by omega) hH hF ki ka hR hC h13 ?_ ?_
                · rw [List.replicate_zero, List.append_nil]; exact e2
                · rw [List.replicate_zero, List.append_nil]; exact h3
              refine ax_iload d_Mo_readsRow_102 rfl ?_
              refine az_iconst d_Mo_readsRow_104 ?_
              refine az_icmp_ge 114 d_Mo_readsRow_105 (by decide) (by omega) (by omega) (fun hge2 => ?_) (fun hge2 => ?_)
              · rw [if_neg (show ¬ s < 2 by omega), if_neg (show ¬ s < 2 by omega), if_neg (show ¬ s < 2 by omega)] at hs
                have es1 : (s : Int) - 1 = ((s - 1 : Nat) : Int) := by omega
                have er : ar1 13 (((s - 1 : Nat) : Int).toNat) = gx l (s - 1) := h13 (s - 1) (by omega)
                refine az_iconst d_Mo_readsRow_114 ?_
                refine ax_istore_n d_Mo_readsRow_115 (by decide) rfl ?_
                refine ax_iload d_Mo_readsRow_116 rfl ?_
                refine az_iconst d_Mo_readsRow_118 ?_
                refine az_icmp_ge 131 d_Mo_readsRow_119 (by decide) (by omega) (by omega) (fun hc => ?_) (fun hc => ?_)
                · refine ax_aload_n d_Mo_readsRow_131 rfl ?_
                  refine ax_get d_Mo_readsRow_132 fg_Mo_31 (by first | assumption | exact hH.g 0 rfl | exact hH.g 1 rfl | exact hH.g 2 rfl | exact hH.g 3 rfl | exact hH.g 4 rfl | exact hH.g 5 rfl | exact hH.g 6 rfl | exact hH.g 7 rfl | exact hH.g 8 rfl | exact hH.g 9 rfl | exact hH.g 10 rfl | exact hH.g 11 rfl | exact hH.g 12 rfl | exact hH.g 13 rfl | exact hH.g 14 rfl | exact hH.g 15 rfl | exact hH.g 16 rfl | exact hH.g 17 rfl | exact hH.g 18 rfl) (by rfl) ?_
                  refine ax_iload d_Mo_readsRow_135 rfl ?_
                  refine az_iconst d_Mo_readsRow_137 ?_
                  refine az_isub d_Mo_readsRow_138 ?_
                  rw [es1]
                  refine az_iald d_Mo_readsRow_139 (by first | assumption | exact hH.g 0 rfl | exact hH.g 1 rfl | exact hH.g 2 rfl | exact hH.g 3 rfl | exact hH.g 4 rfl | exact hH.g 5 rfl | exact hH.g 6 rfl | exact hH.g 7 rfl | exact hH.g 8 rfl | exact hH.g 9 rfl | exact hH.g 10 rfl | exact hH.g 11 rfl | exact hH.g 12 rfl | exact hH.g 13 rfl | exact hH.g 14 rfl | exact hH.g 15 rfl | exact hH.g 16 rfl | exact hH.g 17 rfl | exact hH.g 18 rfl) (by omega) (by omega) (by omega) ?_
                  rw [er]
                  refine ax_istore d_Mo_readsRow_140 (by decide) rfl ?_
                  refine ax_iload d_Mo_readsRow_142 rfl ?_
                  refine az_iconst d_Mo_readsRow_144 ?_
                  refine az_icmp_le 155 d_Mo_readsRow_145 (by decide) (by omega) (by omega) (fun hc => ?_) (fun hc => ?_)
                  · exfalso
                    omega
                  · refine ax_aload_n d_Mo_readsRow_148 rfl ?_
                    refine ax_iload d_Mo_readsRow_149 rfl ?_
                    refine ax_cV1 d_Mo_readsRow_151 v_Mo_toFront lk_Mo_144 (by first | assumption | exact hH.g 0 rfl | exact hH.g 1 rfl | exact hH.g 2 rfl | exact hH.g 3 rfl | exact hH.g 4 rfl | exact hH.g 5 rfl | exact hH.g 6 rfl | exact hH.g 7 rfl | exact hH.g 8 rfl | exact hH.g 9 rfl | exact hH.g 10 rfl | exact hH.g 11 rfl | exact hH.g 12 rfl | exact hH.g 13 rfl | exact hH.g 14 rfl | exact hH.g 15 rfl | exact hH.g 16 rfl | exact hH.g 17 rfl | exact hH.g 18 rfl) (by decide) (Nat.le_of_ble_eq_true rfl) (cm_i (c_Mo_toFront hH h13 hl2 hbl (b := gx l (s - 1)) ⟨s - 1, by omega, rfl⟩) (fun zz h5 hq => ?_))
                    obtain ⟨rfl, ⟨ar5, hH5, ka5, hla5⟩, hF5⟩ := hq
                    rw [fidx_nd hnd (show s - 1 < l.length by omega)] at hla5
                    have hH := hH5
                    refine ax_pop d_Mo_readsRow_154 rfl ?_
                    refine bytes 1 (mtf l (s - 1)) (gx l (s - 1)) iz3 ar5 h5 (by omega) (by omega) (mtf_len _ _) (Bs_mtf (by omega) hbl) (ndp_mtf (by omega) hnd) hH5 (hF.tr hF5) ki13 (ka.tr (ka5.wide rfl)) (hR3.fr (KI.rf (K := [])) ka5 rfl rfl) ?_ hla5 f2 (by rw [ka5 3 rfl]; exact h3) hs
                    rw [mtf_len]
                    exact hC3.fr (KI.rf (K := [])) ka5 rfl rfl rfl
                · exfalso
                  omega
              · rw [if_pos (show s < 2 by omega), if_pos (show s < 2 by omega), if_pos (show s < 2 by omega)] at hs
                have hw9 := hmb.2.2 (show s < 2 by omega)
                have e2w : (2 : Int) * (w : Int) = ((2 * w : Nat) : Int) := by omega
                have er : ar1 13 (Int.toNat 0) = gx l 0 := h13 0 (by omega)
                refine az_iconst d_Mo_readsRow_108 ?_
                refine ax_iload_n d_Mo_readsRow_109 rfl ?_
                refine az_imul d_Mo_readsRow_110 ?_
                rw [e2w]
                refine ax_goto 115 d_Mo_readsRow_111 (by decide) ?_
                refine ax_istore_n d_Mo_readsRow_115 (by decide) rfl ?_
                refine ax_iload d_Mo_readsRow_116 rfl ?_
                refine az_iconst d_Mo_readsRow_118 ?_
                refine az_icmp_ge 131 d_Mo_readsRow_119 (by decide) (by omega) (by omega) (fun hc => ?_) (fun hc => ?_)
                · exfalso
                  omega
                · refine ax_aload_n d_Mo_readsRow_122 rfl ?_
                  refine ax_get d_Mo_readsRow_123 fg_Mo_31 (by first | assumption | exact hH.g 0 rfl | exact hH.g 1 rfl | exact hH.g 2 rfl | exact hH.g 3 rfl | exact hH.g 4 rfl | exact hH.g 5 rfl | exact hH.g 6 rfl | exact hH.g 7 rfl | exact hH.g 8 rfl | exact hH.g 9 rfl | exact hH.g 10 rfl | exact hH.g 11 rfl | exact hH.g 12 rfl | exact hH.g 13 rfl | exact hH.g 14 rfl | exact hH.g 15 rfl | exact hH.g 16 rfl | exact hH.g 17 rfl | exact hH.g 18 rfl) (by rfl) ?_
                  refine az_iconst d_Mo_readsRow_126 ?_
                  refine az_iald d_Mo_readsRow_127 (by first | assumption | exact hH.g 0 rfl | exact hH.g 1 rfl | exact hH.g 2 rfl | exact hH.g 3 rfl | exact hH.g 4 rfl | exact hH.g 5 rfl | exact hH.g 6 rfl | exact hH.g 7 rfl | exact hH.g 8 rfl | exact hH.g 9 rfl | exact hH.g 10 rfl | exact hH.g 11 rfl | exact hH.g 12 rfl | exact hH.g 13 rfl | exact hH.g 14 rfl | exact hH.g 15 rfl | exact hH.g 16 rfl | exact hH.g 17 rfl | exact hH.g 18 rfl) (by omega) (by omega) (by omega) ?_
                  rw [er]
                  refine ax_goto 140 d_Mo_readsRow_128 (by decide) ?_
                  refine ax_istore d_Mo_readsRow_140 (by decide) rfl ?_
                  refine ax_iload d_Mo_readsRow_142 rfl ?_
                  refine az_iconst d_Mo_readsRow_144 ?_
                  refine az_icmp_le 155 d_Mo_readsRow_145 (by decide) (by omega) (by omega) (fun hc => ?_) (fun hc => ?_)
                  · exact bytes (2 * w) l (gx l 0) iz3 ar1 h1 (by omega) (by omega) rfl hbl hnd hH hF ki13 ka hR3 hC3 h13 f2 h3 hs
                  · exfalso
                    omega
            · rw [if_pos (show c < acc.length + manyS s w by omega)] at hs
              refine ax_aload_n d_Mo_readsRow_94 rfl ?_
              refine az_bipush _ d_Mo_readsRow_95 (by decide) ?_
              refine ax_iload_n d_Mo_readsRow_97 rfl ?_
              refine ax_cV2 d_Mo_readsRow_98 v_Mo_wrong lk_Mo_200 (by first | assumption | exact hH.g 0 rfl | exact hH.g 1 rfl | exact hH.g 2 rfl | exact hH.g 3 rfl | exact hH.g 4 rfl | exact hH.g 5 rfl | exact hH.g 6 rfl | exact hH.g 7 rfl | exact hH.g 8 rfl | exact hH.g 9 rfl | exact hH.g 10 rfl | exact hH.g 11 rfl | exact hH.g 12 rfl | exact hH.g 13 rfl | exact hH.g 14 rfl | exact hH.g 15 rfl | exact hH.g 16 rfl | exact hH.g 17 rfl | exact hH.g 18 rfl) (by decide) (Nat.le_of_ble_eq_true rfl) (cm_z (c_Mo_wrong hH e28 (f := 8) (pl := ((p1 / 8 : Nat) : Int)) (by omega)) (fun b h7 hq => ?_))
              obtain ⟨rfl, hE, hF7⟩ := hq
              refine ax_zret d_Mo_readsRow_101 rfl (by decide) ?_
              exact RowQ_e hs (hE.tr ki13 ka rfl rfl) (hF.tr hF7)
          refine ax_iload d_Mo_readsRow_65 rfl ?_
          refine az_iconst d_Mo_readsRow_67 ?_
          refine az_icmp_ge 80 d_Mo_readsRow_68 (by decide) (by omega) (by omega) (fun hs2 => ?_) (fun hs2 => ?_)
          · refine az_iconst d_Mo_readsRow_80 ?_
            have em : manyS s w = 1 := by unfold manyS; rw [if_neg (by omega)]
            have em2 : (1 : Int) = ((manyS s w : Nat) : Int) := by rw [em]; rfl
            rw [em2]
            exact rest
          · refine ax_iload d_Mo_readsRow_71 rfl ?_
            refine az_iconst d_Mo_readsRow_73 ?_
            refine az_iadd d_Mo_readsRow_74 ?_
            refine ax_iload_n d_Mo_readsRow_75 rfl ?_
            refine az_imul d_Mo_readsRow_76 ?_
            rw [manyS_c (show s < 2 by omega)]
            refine ax_goto 81 d_Mo_readsRow_77 (by decide) ?_
            exact rest
        · rw [if_pos (show s = l.length + 1 by omega)] at hs
          refine ax_aload_n d_Mo_readsRow_41 rfl ?_
          refine ax_get d_Mo_readsRow_42 fg_Mo_87 (by first | assumption | exact hH.g 0 rfl | exact hH.g 1 rfl | exact hH.g 2 rfl | exact hH.g 3 rfl | exact hH.g 4 rfl | exact hH.g 5 rfl | exact hH.g 6 rfl | exact hH.g 7 rfl | exact hH.g 8 rfl | exact hH.g 9 rfl | exact hH.g 10 rfl | exact hH.g 11 rfl | exact hH.g 12 rfl | exact hH.g 13 rfl | exact hH.g 14 rfl | exact hH.g 15 rfl | exact hH.g 16 rfl | exact hH.g 17 rfl | exact hH.g 18 rfl) (by rfl) ?_
          refine ax_iload_n d_Mo_readsRow_45 rfl ?_
          refine az_icmp_eq 59 d_Mo_readsRow_46 (by decide) (by omega) (by omega) (fun hne => ?_) (fun hne => ?_)
          · rw [if_pos (show acc.length = c by omega)] at hs
            refine az_iconst d_Mo_readsRow_59 ?_
            refine ax_goto 64 d_Mo_readsRow_60 (by decide) ?_
            refine ax_zret d_Mo_readsRow_64 rfl (by decide) ?_
            unfold RowQ
            rw [← hs]
            exact ⟨true, rfl, ⟨rfl, iz3, ar1, hH, ki13, ka, hR3, f2, h3⟩, hF⟩
          · rw [if_neg (show ¬ acc.length = c by omega)] at hs
            refine ax_aload_n d_Mo_readsRow_49 rfl ?_
            refine az_bipush _ d_Mo_readsRow_50 (by decide) ?_
            refine ax_iload_n d_Mo_readsRow_52 rfl ?_
            refine ax_cV2 d_Mo_readsRow_53 v_Mo_wrong lk_Mo_200 (by first | assumption | exact hH.g 0 rfl | exact hH.g 1 rfl | exact hH.g 2 rfl | exact hH.g 3 rfl | exact hH.g 4 rfl | exact hH.g 5 rfl | exact hH.g 6 rfl | exact hH.g 7 rfl | exact hH.g 8 rfl | exact hH.g 9 rfl | exact hH.g 10 rfl | exact hH.g 11 rfl | exact hH.g 12 rfl | exact hH.g 13 rfl | exact hH.g 14 rfl | exact hH.g 15 rfl | exact hH.g 16 rfl | exact hH.g 17 rfl | exact hH.g 18 rfl) (by decide) (Nat.le_of_ble_eq_true rfl) (cm_z (c_Mo_wrong hH e28 (f := 8) (pl := ((p1 / 8 : Nat) : Int)) (by omega)) (fun b h7 hq => ?_))
            obtain ⟨rfl, hE, hF7⟩ := hq
            refine az_if_eq 63 d_Mo_readsRow_56 (by decide) (bz_in _) (fun hcb => ?_) (fun hcb => ?_)
            · refine az_iconst d_Mo_readsRow_63 ?_
              refine ax_zret d_Mo_readsRow_64 rfl (by decide) ?_
              exact RowQ_e hs (hE.tr ki13 ka rfl rfl) (hF.tr hF7)
            · exact absurd (bz_t hcb) (by decide)
      · exfalso
        omega
end RROW
set_option maxRecDepth 100000 in
theorem c_Mo_readsRow {h0 : ax_H} {iz : Nat → Int} {ar : Nat → Nat → Int} {T : List Int} {lg : Nat → Int} {c p : Nat} {l : List Int} (hH : MoH h0 iz ar) (hR : MoR iz ar T p) (hc9 : c ≤ 900) (hl1 : 1 ≤ l.length) (hl2 : l.length ≤ 256) (hbl : Bs l) (hnd : ndp l) (hC : CodR iz ar lg (l.length + 2)) (h13 : la (ar 13) l) : ax_Cz m_Mo_readsRow 3 [.ref 47, .int (iv c)] h0 (fun b h1 => (match rdR T lg c (c + 1) p l 1 [] with
    | .inl e => b = false ∧ RdE h1 iz ar e
    | .inr q => b = true ∧ ∃ iz1 ar1, MoH h1 iz1 ar1 ∧ KI [2, 27] iz iz1 ∧ KA [3, 13] ar ar1 ∧ MoR iz1 ar1 T q.2 ∧ iz1 2 = q.1.length ∧ la (ar1 3) q.1) ∧ Fr MOS h0 h1) := by
  have hF : Fr MOS h0 h0 := Fr.rf
  refine ax_enter [some (.ref 47), some (.int (iv c)), none, none, none, none, none, none] rfl (Nat.le_of_ble_eq_true rfl) (by decide) ?_
  show ax_W _ _ _ _ _ _ (RowQ h0 iz ar T lg c p l)
  refine ax_aload_n d_Mo_readsRow_0 rfl ?_
  refine az_iconst d_Mo_readsRow_1 ?_
  first | refine ah_put d_Mo_readsRow_2 fp_Mo_87 hH hF 0 rfl rfl rfl (by first | rfl | decide) (Nat.le_of_ble_eq_true rfl) (fun h hH hF => ?_) | refine ah_put d_Mo_readsRow_2 fp_Mo_87 hH hF 1 rfl rfl rfl (by first | rfl | decide) (Nat.le_of_ble_eq_true rfl) (fun h hH hF => ?_) | refine ah_put d_Mo_readsRow_2 fp_Mo_87 hH hF 2 rfl rfl rfl (by first | rfl | decide) (Nat.le_of_ble_eq_true rfl) (fun h hH hF => ?_) | refine ah_put d_Mo_readsRow_2 fp_Mo_87 hH hF 3 rfl rfl rfl (by first | rfl | decide) (Nat.le_of_ble_eq_true rfl) (fun h hH hF => ?_) | refine ah_put d_Mo_readsRow_2 fp_Mo_87 hH hF 4 rfl rfl rfl (by first | rfl | decide) (Nat.le_of_ble_eq_true rfl) (fun h hH hF => ?_) | refine ah_put d_Mo_readsRow_2 fp_Mo_87 hH hF 5 rfl rfl rfl (by first | rfl | decide) (Nat.le_of_ble_eq_true rfl) (fun h hH hF => ?_) | refine ah_put d_Mo_readsRow_2 fp_Mo_87 hH hF 6 rfl rfl rfl (by first | rfl | decide) (Nat.le_of_ble_eq_true rfl) (fun h hH hF => ?_) | refine ah_put d_Mo_readsRow_2 fp_Mo_87 hH hF 7 rfl rfl rfl (by first | rfl | decide) (Nat.le_of_ble_eq_true rfl) (fun h hH hF => ?_) | refine ah_put d_Mo_readsRow_2 fp_Mo_87 hH hF 8 rfl rfl rfl (by first | rfl | decide) (Nat.le_of_ble_eq_true rfl) (fun h hH hF => ?_) | refine ah_put d_Mo_readsRow_2 fp_Mo_87 hH hF 9 rfl rfl rfl (by first | rfl | decide) (Nat.le_of_ble_eq_true rfl) (fun h hH hF => ?_) | refine ah_put d_Mo_readsRow_2 fp_Mo_87 hH hF 10 rfl rfl rfl (by first | rfl | decide) (Nat.le_of_ble_eq_true rfl) (fun h hH hF => ?_) | refine ah_put d_Mo_readsRow_2 fp_Mo_87 hH hF 11 rfl rfl rfl (by first | rfl | decide) (Nat.le_of_ble_eq_true rfl) (fun h hH hF => ?_) | refine ah_put d_Mo_readsRow_2 fp_Mo_87 hH hF 12 rfl rfl rfl (by first | rfl | decide) (Nat.le_of_ble_eq_true rfl) (fun h hH hF => ?_) | refine ah_put d_Mo_readsRow_2 fp_Mo_87 hH hF 13 rfl rfl rfl (by first | rfl | decide) (Nat.le_of_ble_eq_true rfl) (fun h hH hF => ?_) | refine ah_put d_Mo_readsRow_2 fp_Mo_87 hH hF 14 rfl rfl rfl (by first | rfl | decide) (Nat.le_of_ble_eq_true rfl) (fun h hH hF => ?_) | refine ah_put d_Mo_readsRow_2 fp_Mo_87 hH hF 15 rfl rfl rfl (by first | rfl | decide) (Nat.le_of_ble_eq_true rfl) (fun h hH hF => ?_) | refine ah_put d_Mo_readsRow_2 fp_Mo_87 hH hF 16 rfl rfl rfl (by first | rfl | decide) (Nat.le_of_ble_eq_true rfl) (fun h hH hF => ?_) | refine ah_put d_Mo_readsRow_2 fp_Mo_87 hH hF 17 rfl rfl rfl (by first | rfl | decide) (Nat.le_of_ble_eq_true rfl) (fun h hH hF => ?_) | refine ah_put d_Mo_readsRow_2 fp_Mo_87 hH hF 18 rfl rfl rfl (by first | rfl | decide) (Nat.le_of_ble_eq_true rfl) (fun h hH hF => ?_)
  refine az_iconst d_Mo_readsRow_5 ?_
  refine ax_istore_n d_Mo_readsRow_6 (by decide) rfl ?_
  exact w_Mo_rrow hc9 (c + 1) p 1 l [] (up iz 2 0) ar h (by omega) (by simp) (by omega) (by omega) hl1 hl2 hbl hnd hH hF (KI.rf.up 2 _ rfl) KA.rf (hR.fr (K := [2]) (KI.rf.up 2 _ rfl) (KA.rf (K := [])) rfl rfl) (hC.fr (K := [2]) (KI.rf.up 2 _ rfl) (KA.rf (K := [])) rfl rfl rfl) h13 rfl (fun i hi => by simp at hi) rfl _ _ _ _ _
