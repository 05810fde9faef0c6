/-! Codes: weigh, makeFrom -/
def wS (ss : List Int) (k : Nat) : Int := max (cE ss ss.length k : Int) 1
theorem len_pos {wt : Nat → Int} {n : Nat} (hn : 2 ≤ n) (hw : ∀ k : Nat, k < n → 1 ≤ wt k) {k : Nat} (hk : k < n) : 1 ≤ lenH wt n k := by
  obtain ⟨hI, hcn⟩ := HI_jn hw (n - 1) (by omega)
  obtain ⟨hU, -⟩ := hI
  have hlast : (jn wt n (n - 1)).2.2 (n + (n - 1) - 1) < 0 := by
    have := hU (n + (n - 1) - 1) (by omega)
    omega
  have hnk : ¬ (jn wt n (n - 1)).2.2 k < 0 := by
    intro hu
    have h9 := fsum_ge2 (f := ai (jn wt n (n - 1))) (n := n + (n - 1)) (fun i _ => by unfold ai; split <;> omega) (show k < n + (n - 1) by omega) (show n + (n - 1) - 1 < n + (n - 1) by omega) (by omega)
    have a1 : ai (jn wt n (n - 1)) k = 1 := by unfold ai; rw [if_pos hu]
    have a2 : ai (jn wt n (n - 1)) (n + (n - 1) - 1) = 1 := by unfold ai; rw [if_pos hlast]
    omega
  have nn : ∀ (f q : Nat), 0 ≤ dpt (jn wt n (n - 1)).2.2 f q := by
    intro f
    induction f with
    | zero => intro q; exact Int.le_refl _
    | succ f ih =>
      intro q
      rw [dpt]
      have := ih ((jn wt n (n - 1)).2.2 q).toNat
      split <;> omega
  unfold lenH
  obtain ⟨f, hf⟩ : ∃ f, n + (n - 1) = f + 1 := ⟨n + (n - 1) - 1, by omega⟩
  rw [hf, dpt, if_neg hnk]
  have := nn f ((jn wt n (n - 1)).2.2 k).toNat
  omega
/-- only the weights below n matter -/
theorem jn_cg {w1 w2 : Nat → Int} {n : Nat} (hw : ∀ k : Nat, k < n → w1 k = w2 k) (hp : ∀ k : Nat, k < n → 1 ≤ w1 k) : ∀ j : Nat, j < n → (∀ k : Nat, k < n + j → (jn w1 n j).1 k = (jn w2 n j).1 k) ∧ (jn w1 n j).2 = (jn w2 n j).2
  | 0, _ => ⟨hw, rfl⟩
  | j + 1, hj => by
    obtain ⟨e1, e2⟩ := jn_cg hw hp j (by omega)
    obtain ⟨hI, hcn⟩ := HI_jn hp j (by omega)
    obtain ⟨a, b, ha, hb, hab, ea, eb, -, -, -, -⟩ := lgt_two hI (by rw [hcn]; omega)
    have lg_cg : ∀ (nt : Int) (m : Nat), m ≤ n + j → lgt (jn w1 n j) nt m = lgt (jn w2 n j) nt m := by
      intro nt m
      induction m with
      | zero => intro _; rfl
      | succ m ih =>
        intro hm
        have h1 := ih (by omega)
        rw [lgt, lgt, e2, ← h1, e1 m (by omega)]
        rcases lgt_ok (jn w1 n j) nt m with ⟨w, -⟩ | ⟨k, hk, w, -⟩
        · rw [w]
          simp
        · rw [w, Int.toNat_natCast, e1 k (by omega)]
    have fa : lgt (jn w2 n j) (-1) (n + j) = a := by rw [← lg_cg _ _ (Nat.le_refl _)]; exact ea
    have fb : lgt (jn w2 n j) (lgt (jn w2 n j) (-1) (n + j)) (n + j) = b := by
      rw [fa, ← lg_cg _ _ (Nat.le_refl _), ← ea]
      exact eb
    show (∀ k : Nat, k < n + (j + 1) → (stp (jn w1 n j) (n + j)).1 k = (stp (jn w2 n j) (n + j)).1 k) ∧ (stp (jn w1 n j) (n + j)).2 = (stp (jn w2 n j) (n + j)).2
    rw [stp_of ea eb, stp_of fa fb]
    refine ⟨fun k hk => ?_, ?_⟩
    · show up _ _ _ k = up _ _ _ k
      rw [e1 a ha, e1 b hb]
      by_cases e : k = n + j
      · rw [e, up_at, up_at]
      · rw [up_ne e, up_ne e]; exact e1 k (by omega)
    · show (_, _) = (_, _)
      rw [e2]
theorem lenH_cg' {w1 w2 : Nat → Int} {n : Nat} (hn : 0 < n) (hw : ∀ k : Nat, k < n → w1 k = w2 k) (hp : ∀ k : Nat, k < n → 1 ≤ w1 k) (k : Nat) : lenH w1 n k = lenH w2 n k := by
  unfold lenH
  rw [(jn_cg hw hp (n - 1) (by omega)).2]
def okS (ss : List Int) : Prop := ∀ i : Nat, i < ss.length → 0 ≤ ss.getD i 0 ∧ ss.getD i 0 < 1000
set_option maxRecDepth 100000 in
set_option maxHeartbeats 4000000 in
theorem c_Cd_weigh {h0 : ax_H} {n : Nat} {ss : List Int} {e : Int} {wt lg vl bl pl : Nat → Int} (hH : Hs h0 (CdL n wt lg vl bl pl)) (hn : n ≤ 258) (hS : Sy h0 ss e) (hss : okS ss) : ax_Cv m_Cd_weigh 1 [.ref 22, .ref 18] h0 (fun h1 => (∃ wt', Hs h1 (CdL n wt' lg vl bl pl) ∧ ∀ k : Nat, k < n → wt' k = wS ss k) ∧ Fr CS h0 h1) := by
  have hl9 : ss.length ≤ 901 := by obtain ⟨g, -, -, h1⟩ := hS; exact h1
  refine ax_enter [some (.ref 22), some (.ref 18), none, none] rfl (Nat.le_of_ble_eq_true rfl) (by decide) ?_
  refine ax_aload_n d_Cd_weigh_0 rfl ?_
  refine ax_get d_Cd_weigh_1 fg_Cd_18 (by first | assumption | exact hH.g 0 rfl | exact hH.g 1 rfl | exact hH.g 2 rfl | exact hH.g 3 rfl | exact hH.g 4 rfl | exact hH.g 5 rfl) (by rfl) ?_
  refine az_iconst d_Cd_weigh_4 ?_
  refine ax_cS2 d_Cd_weigh_5 s_Ar_fill lk_Cd_64 (by decide) (Nat.le_of_ble_eq_true rfl) (cm_v (c_Ar_fill (hH.g 1 rfl) (by decide) (by decide) 0) (fun h2 hp => ?_))
  obtain ⟨g2, ha2, hg2, hF2⟩ := hp
  have hH2 : Hs h2 (CdL n g2 lg vl bl pl) := Hs.c (by rw [hF2.2.2 22 rfl]; exact hH.g 0 rfl) rfl (Hs.c ha2 rfl (Hs.c (by rw [hF2.2.2 29 rfl]; exact hH.g 2 rfl) rfl (Hs.c (by rw [hF2.2.2 30 rfl]; exact hH.g 3 rfl) rfl (Hs.c (by rw [hF2.2.2 31 rfl]; exact hH.g 4 rfl) rfl (Hs.c (by rw [hF2.2.2 32 rfl]; exact hH.g 5 rfl) rfl Hs.n)))))
  have hF2' : Fr CS h0 h2 := hF2.wide rfl
  refine az_iconst d_Cd_weigh_8 ?_
  refine ax_istore_n d_Cd_weigh_9 (by decide) rfl ?_
  have loop2 : ∀ (f k : Nat) (h : ax_H) (wt : Nat → Int), k + f = n → Hs h (CdL n wt lg vl bl pl) → Fr CS h0 h → (∀ q : Nat, q < n → wt q = if q < k then wS ss q else (cE ss ss.length q : Int)) → ∀ v3 : Option Value,
      ax_W m_Cd_weigh 1 50 [some (.ref 22), some (.ref 18), some (.int (iv k)), v3] [] h (fun r h1 => r = none ∧ (∃ wt', Hs h1 (CdL n wt' lg vl bl pl) ∧ ∀ k : Nat, k < n → wt' k = wS ss k) ∧ Fr CS h0 h1) := by
    intro f
    induction f with
    | zero =>
      intro k h wt he hH hF hw v3
      refine ax_iload_n d_Cd_weigh_50 rfl ?_
      refine ax_aload_n d_Cd_weigh_51 rfl ?_
      refine ax_get d_Cd_weigh_52 fg_Cd_34 (by first | assumption | exact hH.g 0 rfl | exact hH.g 1 rfl | exact hH.g 2 rfl | exact hH.g 3 rfl | exact hH.g 4 rfl | exact hH.g 5 rfl) (by rfl) ?_
      refine az_icmp_ge 80 d_Cd_weigh_55 (by decide) (by omega) (by omega) (fun hc => ?_) (fun hc => ?_)
      · refine ax_vret d_Cd_weigh_80 rfl ?_
        exact ⟨rfl, ⟨wt, hH, fun q hq => by rw [hw q hq, if_pos (by omega)]⟩, hF⟩
      · exfalso
        omega
    | succ f ih =>
      intro k h wt he hH hF hw v3
      have hwk := hw k (by omega)
      rw [if_neg (by omega)] at hwk
      have hce : cE ss ss.length k ≤ ss.length := cnt_le _ _
      refine ax_iload_n d_Cd_weigh_50 rfl ?_
      refine ax_aload_n d_Cd_weigh_51 rfl ?_
      refine ax_get d_Cd_weigh_52 fg_Cd_34 (by first | assumption | exact hH.g 0 rfl | exact hH.g 1 rfl | exact hH.g 2 rfl | exact hH.g 3 rfl | exact hH.g 4 rfl | exact hH.g 5 rfl) (by rfl) ?_
      refine az_icmp_ge 80 d_Cd_weigh_55 (by decide) (by omega) (by omega) (fun hc => ?_) (fun hc => ?_)
      · exfalso
        omega
      · refine ax_aload_n d_Cd_weigh_58 rfl ?_
        refine ax_get d_Cd_weigh_59 fg_Cd_18 (by first | assumption | exact hH.g 0 rfl | exact hH.g 1 rfl | exact hH.g 2 rfl | exact hH.g 3 rfl | exact hH.g 4 rfl | exact hH.g 5 rfl) (by rfl) ?_
        refine ax_iload_n d_Cd_weigh_62 rfl ?_
        refine ax_aload_n d_Cd_weigh_63 rfl ?_
        refine ax_get d_Cd_weigh_64 fg_Cd_18 (by first | assumption | exact hH.g 0 rfl | exact hH.g 1 rfl | exact hH.g 2 rfl | exact hH.g 3 rfl | exact hH.g 4 rfl | exact hH.g 5 rfl) (by rfl) ?_
        refine ax_iload_n d_Cd_weigh_67 rfl ?_
        refine az_iald d_Cd_weigh_68 (by first | assumption | exact hH.g 0 rfl | exact hH.g 1 rfl | exact hH.g 2 rfl | exact hH.g 3 rfl | exact hH.g 4 rfl | exact hH.g 5 rfl) (by omega) (by omega) (by omega) ?_
        rw [Int.toNat_natCast, hwk]
        refine az_iconst d_Cd_weigh_69 ?_
        refine az_mmax d_Cd_weigh_70 lk_Cd_75 (by decide) (Nat.le_of_ble_eq_true rfl) (by omega) (by omega) ?_
        first | refine ah_iast d_Cd_weigh_73 hH hF 0 rfl rfl (by omega) (by omega) (by omega) (by omega) (fun h hH hF => ?_) | refine ah_iast d_Cd_weigh_73 hH hF 1 rfl rfl (by omega) (by omega) (by omega) (by omega) (fun h hH hF => ?_) | refine ah_iast d_Cd_weigh_73 hH hF 2 rfl rfl (by omega) (by omega) (by omega) (by omega) (fun h hH hF => ?_) | refine ah_iast d_Cd_weigh_73 hH hF 3 rfl rfl (by omega) (by omega) (by omega) (by omega) (fun h hH hF => ?_) | refine ah_iast d_Cd_weigh_73 hH hF 4 rfl rfl (by omega) (by omega) (by omega) (by omega) (fun h hH hF => ?_) | refine ah_iast d_Cd_weigh_73 hH hF 5 rfl rfl (by omega) (by omega) (by omega) (by omega) (fun h hH hF => ?_)
        refine az_iinc d_Cd_weigh_74 rfl (by decide) rfl ?_
        refine ax_goto 50 d_Cd_weigh_77 (by decide) ?_
        rw [Int.toNat_natCast] at hH
        refine ih (k + 1) h _ (by omega) hH hF (fun q hq => ?_) _
        by_cases e : q = k
        · rw [e, up_at, if_pos (by omega)]
          rfl
        · rw [up_ne e, hw q hq]
          by_cases e2 : q < k
          · rw [if_pos e2, if_pos (by omega)]
          · rw [if_neg e2, if_neg (by omega)]
  have loop1 : ∀ (f i : Nat) (h : ax_H) (wt : Nat → Int), i + f = ss.length → Hs h (CdL n wt lg vl bl pl) → Fr CS h0 h → (∀ q : Nat, q < n → wt q = (cE ss i q : Int)) → ∀ v3 : Option Value,
      ax_W m_Cd_weigh 1 10 [some (.ref 22), some (.ref 18), some (.int (iv i)), v3] [] h (fun r h1 => r = none ∧ (∃ wt', Hs h1 (CdL n wt' lg vl bl pl) ∧ ∀ k : Nat, k < n → wt' k = wS ss k) ∧ Fr CS h0 h1) := by
    intro f
    induction f with
    | zero =>
      intro i h wt he hH hF hw v3
      have hsz := (hS.fr hF rfl).sz
      refine ax_iload_n d_Cd_weigh_10 rfl ?_
      refine ax_aload_n d_Cd_weigh_11 rfl ?_
      refine ax_get d_Cd_weigh_12 fg_Cd_70 (by first | assumption | exact hH.g 0 rfl | exact hH.g 1 rfl | exact hH.g 2 rfl | exact hH.g 3 rfl | exact hH.g 4 rfl | exact hH.g 5 rfl) (by rfl) ?_
      refine az_icmp_ge 48 d_Cd_weigh_15 (by decide) (by omega) (by omega) (fun hc => ?_) (fun hc => ?_)
      · refine az_iconst d_Cd_weigh_48 ?_
        refine ax_istore_n d_Cd_weigh_49 (by decide) rfl ?_
        refine loop2 n 0 h wt (by omega) hH hF (fun q hq => ?_) _
        rw [hw q hq, if_neg (by omega), show i = ss.length by omega]
      · exfalso
        omega
    | succ f ih =>
      intro i h wt he hH hF hw v3
      have hS1 := hS.fr hF rfl
      have hsz := hS1.sz
      have hsi := hss i (by omega)
      have e1 : rAt ss i = gx ss i := by rw [rAt, if_pos (by omega)]; rfl
      have hgi : 0 ≤ gx ss i ∧ gx ss i < 1000 := hsi
      have hcs := cE_succ ss i
      refine ax_iload_n d_Cd_weigh_10 rfl ?_
      refine ax_aload_n d_Cd_weigh_11 rfl ?_
      refine ax_get d_Cd_weigh_12 fg_Cd_70 (by first | assumption | exact hH.g 0 rfl | exact hH.g 1 rfl | exact hH.g 2 rfl | exact hH.g 3 rfl | exact hH.g 4 rfl | exact hH.g 5 rfl) (by rfl) ?_
      refine az_icmp_ge 48 d_Cd_weigh_15 (by decide) (by omega) (by omega) (fun hc => ?_) (fun hc => ?_)
      · exfalso
        omega
      · refine ax_aload_n d_Cd_weigh_18 rfl ?_
        refine ax_iload_n d_Cd_weigh_19 rfl ?_
        refine ax_cV1 d_Cd_weigh_20 v_Sy_at lk_Cd_71 (by first | assumption | exact hH.g 0 rfl | exact hH.g 1 rfl | exact hH.g 2 rfl | exact hH.g 3 rfl | exact hH.g 4 rfl | exact hH.g 5 rfl) (by decide) (Nat.le_of_ble_eq_true rfl) (cm_i (c_Sy_at hS1 (i := i) (by omega)) (fun z h3 hp => ?_))
        obtain ⟨rfl, rfl⟩ := hp
        rw [e1]
        refine ax_istore_n d_Cd_weigh_23 (by decide) rfl ?_
        refine ax_aload_n d_Cd_weigh_24 rfl ?_
        refine ax_iload_n d_Cd_weigh_25 rfl ?_
        refine ax_cV1 d_Cd_weigh_26 v_Cd_has lk_Cd_38 (by first | assumption | exact hH.g 0 rfl | exact hH.g 1 rfl | exact hH.g 2 rfl | exact hH.g 3 rfl | exact hH.g 4 rfl | exact hH.g 5 rfl) (by decide) (Nat.le_of_ble_eq_true rfl) (cm_z (c_Cd_has hH hn (i := gx ss i) (by omega)) (fun b h3 hp => ?_))
        obtain ⟨rfl, rfl⟩ := hp
        refine az_if_eq 42 d_Cd_weigh_29 (by decide) (bz_in _) (fun hcb => ?_) (fun hcb => ?_)
        · have hno := of_decide_eq_false (bz_f hcb)
          refine az_iinc d_Cd_weigh_42 rfl (by decide) rfl ?_
          refine ax_goto 10 d_Cd_weigh_45 (by decide) ?_
          refine ih (i + 1) h3 wt (by omega) hH hF (fun q hq => ?_) _
          rw [hcs, if_neg (by omega), hw q hq]
          rfl
        · have hyes := of_decide_eq_true (bz_t hcb)
          refine ax_aload_n d_Cd_weigh_32 rfl ?_
          refine ax_get d_Cd_weigh_33 fg_Cd_18 (by first | assumption | exact hH.g 0 rfl | exact hH.g 1 rfl | exact hH.g 2 rfl | exact hH.g 3 rfl | exact hH.g 4 rfl | exact hH.g 5 rfl) (by rfl) ?_
          refine ax_iload_n d_Cd_weigh_36 rfl ?_
          refine ax_dup2 d_Cd_weigh_37 rfl rfl ?_
          refine az_iald d_Cd_weigh_38 (by first | assumption | exact hH.g 0 rfl | exact hH.g 1 rfl | exact hH.g 2 rfl | exact hH.g 3 rfl | exact hH.g 4 rfl | exact hH.g 5 rfl) (by omega) (by omega) (by omega) ?_
          refine az_iconst d_Cd_weigh_39 ?_
          refine az_iadd d_Cd_weigh_40 ?_
          first | refine ah_iast d_Cd_weigh_41 hH hF 0 rfl rfl (by omega) (by omega) (by omega) (by omega) (fun h hH hF => ?_) | refine ah_iast d_Cd_weigh_41 hH hF 1 rfl rfl (by omega) (by omega) (by omega) (by omega) (fun h hH hF => ?_) | refine ah_iast d_Cd_weigh_41 hH hF 2 rfl rfl (by omega) (by omega) (by omega) (by omega) (fun h hH hF => ?_) | refine ah_iast d_Cd_weigh_41 hH hF 3 rfl rfl (by omega) (by omega) (by omega) (by omega) (fun h hH hF => ?_) | refine ah_iast d_Cd_weigh_41 hH hF 4 rfl rfl (by omega) (by omega) (by omega) (by omega) (fun h hH hF => ?_) | refine ah_iast d_Cd_weigh_41 hH hF 5 rfl rfl (by omega) (by omega) (by omega) (by omega) (fun h hH hF => ?_)
          refine az_iinc d_Cd_weigh_42 rfl (by decide) rfl ?_
          refine ax_goto 10 d_Cd_weigh_45 (by decide) ?_
          refine ih (i + 1) h _ (by omega) hH hF (fun q hq => ?_) _
          rw [hcs]
          by_cases e : q = (gx ss i).toNat
          · rw [e, up_at, hw _ (by omega), if_pos (by omega)]
            omega
          · rw [up_ne e, hw q hq, if_neg (by omega)]
            rfl
  exact loop1 ss.length 0 h2 g2 (by omega) hH2 hF2' (fun q hq => by rw [hg2 q (by omega)]; rfl) none
/-- the codes of symbols ss, n of them -/
def CdOK (ss : List Int) (n : Nat) (lg vl bl pl : Nat → Int) : Prop := ∃ j : Nat, gd (wS ss) n j ∧ (∀ i : Nat, i < j → ¬ gd (wS ss) n i) ∧ (∀ k : Nat, k < n → lg k = lenH (hv (wS ss) j) n k) ∧ okLg lg n ∧ (∀ s : Nat, s < n → vl s = codeV lg n s) ∧ (∀ s : Nat, s < n → bl (plc (kl lg) n s) = s) ∧ ∀ l : Nat, 1 ≤ l → l ≤ 12 → pl l = nlc lg n l
abbrev CJS : List Nat := [22, 23, 24, 25, 26, 27, 28, 29, 30, 31, 32]
set_option maxRecDepth 100000 in
set_option maxHeartbeats 4000000 in
theorem c_Cd_makeFrom {h0 : ax_H} {n0 n s0 : Nat} {ss : List Int} {wt lg vl bl pl hp nd pr dp : Nat → Int} (hH : Hs h0 (CdL n0 wt lg vl bl pl)) (hJ : Hs h0 (JnL s0 hp nd pr dp)) (hn : n ≤ 258) (hn2 : 2 ≤ n) (hS : Sy h0 ss ((n : Int) - 1)) (hss : okS ss) :
    ax_Cv m_Cd_makeFrom 3 [.ref 22, .ref 18] h0 (fun h1 => (∃ wt lg vl bl pl, Hs h1 (CdL n wt lg vl bl pl) ∧ CdOK ss n lg vl bl pl) ∧ (∃ s hp nd pr dp, Hs h1 (JnL s hp nd pr dp)) ∧ Fr CJS h0 h1) := by
  have hl9 : ss.length ≤ 901 := by obtain ⟨g, -, -, h1⟩ := hS; exact h1
  have hsz := hS.sz
  have hF : Fr CS h0 h0 := Fr.rf
  have hw1 : ∀ k : Nat, k < n → 1 ≤ wS ss k := fun k _ => by unfold wS; omega
  have hw2 : ∀ k : Nat, k < n → wS ss k ≤ 1024 := fun k _ => by
    have : cE ss ss.length k ≤ ss.length := cnt_le _ _
    unfold wS
    omega
  have hg11 := gd_11 (by omega) hn hw1 hw2
  refine ax_enter [some (.ref 22), some (.ref 18), none, none] rfl (Nat.le_of_ble_eq_true rfl) (by decide) ?_
  refine ax_aload_n d_Cd_makeFrom_0 rfl ?_
  refine ax_aload_n d_Cd_makeFrom_1 rfl ?_
  refine ax_get d_Cd_makeFrom_2 fg_Cd_42 (by first | assumption | exact hH.g 0 rfl | exact hH.g 1 rfl | exact hH.g 2 rfl | exact hH.g 3 rfl | exact hH.g 4 rfl | exact hH.g 5 rfl) (by rfl) ?_
  refine az_iconst d_Cd_makeFrom_5 ?_
  refine az_iadd d_Cd_makeFrom_6 ?_
  refine az_sipush _ d_Cd_makeFrom_7 (by decide) ?_
  refine az_mmin d_Cd_makeFrom_10 lk_Cd_47 (by decide) (Nat.le_of_ble_eq_true rfl) (by omega) (by omega) ?_
  first | refine ah_put d_Cd_makeFrom_13 fp_Cd_34 hH hF 0 rfl rfl rfl (by first | rfl | decide) (Nat.le_of_ble_eq_true rfl) (fun h hH hF => ?_) | refine ah_put d_Cd_makeFrom_13 fp_Cd_34 hH hF 1 rfl rfl rfl (by first | rfl | decide) (Nat.le_of_ble_eq_true rfl) (fun h hH hF => ?_) | refine ah_put d_Cd_makeFrom_13 fp_Cd_34 hH hF 2 rfl rfl rfl (by first | rfl | decide) (Nat.le_of_ble_eq_true rfl) (fun h hH hF => ?_) | refine ah_put d_Cd_makeFrom_13 fp_Cd_34 hH hF 3 rfl rfl rfl (by first | rfl | decide) (Nat.le_of_ble_eq_true rfl) (fun h hH hF => ?_) | refine ah_put d_Cd_makeFrom_13 fp_Cd_34 hH hF 4 rfl rfl rfl (by first | rfl | decide) (Nat.le_of_ble_eq_true rfl) (fun h hH hF => ?_) | refine ah_put d_Cd_makeFrom_13 fp_Cd_34 hH hF 5 rfl rfl rfl (by first | rfl | decide) (Nat.le_of_ble_eq_true rfl) (fun h hH hF => ?_)
  have ec : min ((n : Int) - 1 + 1) 258 = n := by omega
  rw [ec] at hH
  have hH : Hs h (CdL n wt lg vl bl pl) := hH
  have hS1 := hS.fr hF rfl
  refine ax_aload_n d_Cd_makeFrom_16 rfl ?_
  refine ax_aload_n d_Cd_makeFrom_17 rfl ?_
  refine ax_cV1 d_Cd_makeFrom_18 v_Cd_weigh lk_Cd_53 (by first | assumption | exact hH.g 0 rfl | exact hH.g 1 rfl | exact hH.g 2 rfl | exact hH.g 3 rfl | exact hH.g 4 rfl | exact hH.g 5 rfl) (by decide) (Nat.le_of_ble_eq_true rfl) (cm_v (c_Cd_weigh hH hn hS1 hss) (fun h1 hp1 => ?_))
  obtain ⟨⟨wt1, hH1, hw9⟩, hF1⟩ := hp1
  have hFa : Fr CS h0 h1 := hF.tr hF1
  have hJ1 := hJ.fr hFa rfl
  refine az_iconst d_Cd_makeFrom_21 ?_
  refine ax_istore_n d_Cd_makeFrom_22 (by decide) rfl ?_
  have body : ∀ (j : Nat) (h : ax_H) (wt lg : Nat → Int), j ≤ 11 → Hs h (CdL n wt lg vl bl pl) → (∃ s hp nd pr dp, Hs h (JnL s hp nd pr dp)) → Fr CJS h0 h → (∀ k : Nat, k < n → wt k = hv (wS ss) j k) → (∀ i : Nat, i < j → ¬ gd (wS ss) n i) →
      (∀ (h : ax_H) (wt lg : Nat → Int) (v3 : Option Value), j < 11 → Hs h (CdL n wt lg vl bl pl) → (∃ s hp nd pr dp, Hs h (JnL s hp nd pr dp)) → Fr CJS h0 h → (∀ k : Nat, k < n → wt k = hv (wS ss) (j + 1) k) → (∀ i : Nat, i < j + 1 → ¬ gd (wS ss) n i) → ax_W m_Cd_makeFrom 3 23 [some (.ref 22), some (.ref 18), some (.int (iv ((j : Int) + 1))), v3] [] h (fun r h1 => r = none ∧ (∃ wt lg vl bl pl, Hs h1 (CdL n wt lg vl bl pl) ∧ CdOK ss n lg vl bl pl) ∧ (∃ s hp nd pr dp, Hs h1 (JnL s hp nd pr dp)) ∧ Fr CJS h0 h1)) → ∀ v3 : Option Value,
      ax_W m_Cd_makeFrom 3 23 [some (.ref 22), some (.ref 18), some (.int (iv j)), v3] [] h (fun r h1 => r = none ∧ (∃ wt lg vl bl pl, Hs h1 (CdL n wt lg vl bl pl) ∧ CdOK ss n lg vl bl pl) ∧ (∃ s hp nd pr dp, Hs h1 (JnL s hp nd pr dp)) ∧ Fr CJS h0 h1) := by
    intro j h wt lg hj hH hJ hF hw hmin next v3
    obtain ⟨s1, hp1, nd1, pr1, dp1, hJ1⟩ := hJ
    have hwp : ∀ k : Nat, k < n → 1 ≤ wt k := fun k hk => by rw [hw k hk]; exact hv_pos hw1 j k hk
    have hwl : ∀ k : Nat, k < n → wt k ≤ 1024 := fun k hk => by rw [hw k hk]; exact hv_le hw1 hw2 j k hk
    have hT := fsum_bd (f := wt) (B := 1024) (n := n) hwl
    refine ax_iload_n d_Cd_makeFrom_23 rfl ?_
    refine az_bipush _ d_Cd_makeFrom_24 (by decide) ?_
    refine az_icmp_ge 94 d_Cd_makeFrom_26 (by decide) (by omega) (by omega) (fun hc => ?_) (fun hc => ?_)
    · exfalso
      omega
    · refine ax_aload_n d_Cd_makeFrom_29 rfl ?_
      refine ax_get d_Cd_makeFrom_30 fg_Cd_12 (by first | assumption | exact hH.g 0 rfl | exact hH.g 1 rfl | exact hH.g 2 rfl | exact hH.g 3 rfl | exact hH.g 4 rfl | exact hH.g 5 rfl) (by rfl) ?_
      refine ax_aload_n d_Cd_makeFrom_33 rfl ?_
      refine ax_get d_Cd_makeFrom_34 fg_Cd_18 (by first | assumption | exact hH.g 0 rfl | exact hH.g 1 rfl | exact hH.g 2 rfl | exact hH.g 3 rfl | exact hH.g 4 rfl | exact hH.g 5 rfl) (by rfl) ?_
      refine ax_aload_n d_Cd_makeFrom_37 rfl ?_
      refine ax_get d_Cd_makeFrom_38 fg_Cd_34 (by first | assumption | exact hH.g 0 rfl | exact hH.g 1 rfl | exact hH.g 2 rfl | exact hH.g 3 rfl | exact hH.g 4 rfl | exact hH.g 5 rfl) (by rfl) ?_
      refine ax_aload_n d_Cd_makeFrom_41 rfl ?_
      refine ax_get d_Cd_makeFrom_42 fg_Cd_22 (by first | assumption | exact hH.g 0 rfl | exact hH.g 1 rfl | exact hH.g 2 rfl | exact hH.g 3 rfl | exact hH.g 4 rfl | exact hH.g 5 rfl) (by rfl) ?_
      have hsz23 := hJ1.g 0 rfl
      refine ax_cV3 d_Cd_makeFrom_45 v_Jn_findLengths lk_Cd_57 hsz23 (by decide) (Nat.le_of_ble_eq_true rfl) (cm_i (c_Jn_findLengths hJ1 (hH.g 1 rfl) (hH.g 2 rfl) (by decide) (by decide) (by decide) hn (by decide) hn (by decide) (by omega) hn hwp (by omega)) (fun z h2 hp2 => ?_))
      obtain ⟨hJ2, ⟨lg2, hl2, hlg2⟩, hz, hzb, hF2⟩ := hp2
      have hH2 : Hs h2 (CdL n wt lg2 vl bl pl) := Hs.c (by rw [hF2.2.2 22 rfl]; exact hH.g 0 rfl) rfl (Hs.c (by rw [hF2.2.2 28 rfl]; exact hH.g 1 rfl) rfl (Hs.c hl2 rfl (Hs.c (by rw [hF2.2.2 30 rfl]; exact hH.g 3 rfl) rfl (Hs.c (by rw [hF2.2.2 31 rfl]; exact hH.g 4 rfl) rfl (Hs.c (by rw [hF2.2.2 32 rfl]; exact hH.g 5 rfl) rfl Hs.n)))))
      have hFb : Fr CJS h0 h2 := hF.tr (hF2.wide rfl)
      have hle : ∀ k : Nat, k < n → lenH wt n k = lenH (hv (wS ss) j) n k := fun k _ => lenH_cg' (by omega) hw hwp k
      have hH := hH2
      refine az_bipush _ d_Cd_makeFrom_48 (by decide) ?_
      refine az_icmp_gt 56 d_Cd_makeFrom_50 (by decide) (by omega) (by omega) (fun hzc => ?_) (fun hzc => ?_)
      · -- too long: halve
        have hng : ¬ gd (wS ss) n j := by
          intro w
          have := hz.mpr (fun k hk => by rw [hle k hk]; exact w k hk)
          omega
        have hj2 : j < 11 := by
          by_cases e : j = 11
          · rw [e] at hng; exact absurd hg11 hng
          · omega
        refine az_iconst d_Cd_makeFrom_56 ?_
        refine ax_istore_n d_Cd_makeFrom_57 (by decide) rfl ?_
        have inner : ∀ (g k : Nat) (h : ax_H) (wt' : Nat → Int), k + g = n → Hs h (CdL n wt' lg2 vl bl pl) → Fr CS h2 h → (∀ q : Nat, q < n → wt' q = if q < k then hv (wS ss) (j + 1) q else hv (wS ss) j q) →
            ax_W m_Cd_makeFrom 3 58 [some (.ref 22), some (.ref 18), some (.int (iv j)), some (.int (iv k))] [] h (fun r h1 => r = none ∧ (∃ wt lg vl bl pl, Hs h1 (CdL n wt lg vl bl pl) ∧ CdOK ss n lg vl bl pl) ∧ (∃ s hp nd pr dp, Hs h1 (JnL s hp nd pr dp)) ∧ Fr CJS h0 h1) := by
          intro g
          induction g with
          | zero =>
            intro k h wt' he hH hF3 hw'
            refine ax_iload_n d_Cd_makeFrom_58 rfl ?_
            refine ax_aload_n d_Cd_makeFrom_59 rfl ?_
            refine ax_get d_Cd_makeFrom_60 fg_Cd_34 (by first | assumption | exact hH.g 0 rfl | exact hH.g 1 rfl | exact hH.g 2 rfl | exact hH.g 3 rfl | exact hH.g 4 rfl | exact hH.g 5 rfl) (by rfl) ?_
            refine az_icmp_ge 88 d_Cd_makeFrom_63 (by decide) (by omega) (by omega) (fun hc => ?_) (fun hc => ?_)
            · refine az_iinc d_Cd_makeFrom_88 rfl (by decide) rfl ?_
              refine ax_goto 23 d_Cd_makeFrom_91 (by decide) ?_
              obtain ⟨s3, hp3, nd3, pr3, dp3, hJ3⟩ := hJ2
              refine next h wt' lg2 _ hj2 hH ⟨_, _, _, _, _, hJ3.fr hF3 rfl⟩ (hFb.tr (hF3.wide rfl)) (fun q hq => by rw [hw' q hq, if_pos (by omega)]) (fun i hi => ?_)
              by_cases e : i = j
              · rw [e]; exact hng
              · exact hmin i (by omega)
            · exfalso
              omega
          | succ g ih =>
            intro k h wt' he hH hF hw'
            have hwk := hw' k (by omega)
            rw [if_neg (by omega)] at hwk
            have hp5 := hv_pos hw1 j k (by omega)
            have hp6 := hv_le hw1 hw2 j k (by omega)
            refine ax_iload_n d_Cd_makeFrom_58 rfl ?_
            refine ax_aload_n d_Cd_makeFrom_59 rfl ?_
            refine ax_get d_Cd_makeFrom_60 fg_Cd_34 (by first | assumption | exact hH.g 0 rfl | exact hH.g 1 rfl | exact hH.g 2 rfl | exact hH.g 3 rfl | exact hH.g 4 rfl | exact hH.g 5 rfl) (by rfl) ?_
            refine az_icmp_ge 88 d_Cd_makeFrom_63 (by decide) (by omega) (by omega) (fun hc => ?_) (fun hc => ?_)
            · exfalso
              omega
            · refine ax_aload_n d_Cd_makeFrom_66 rfl ?_
              refine ax_get d_Cd_makeFrom_67 fg_Cd_18 (by first | assumption | exact hH.g 0 rfl | exact hH.g 1 rfl | exact hH.g 2 rfl | exact hH.g 3 rfl | exact hH.g 4 rfl | exact hH.g 5 rfl) (by rfl) ?_
              refine ax_iload_n d_Cd_makeFrom_70 rfl ?_
              refine ax_aload_n d_Cd_makeFrom_71 rfl ?_
              refine ax_get d_Cd_makeFrom_72 fg_Cd_18 (by first | assumption | exact hH.g 0 rfl | exact hH.g 1 rfl | exact hH.g 2 rfl | exact hH.g 3 rfl | exact hH.g 4 rfl | exact hH.g 5 rfl) (by rfl) ?_
              refine ax_iload_n d_Cd_makeFrom_75 rfl ?_
              refine az_iald d_Cd_makeFrom_76 (by first | assumption | exact hH.g 0 rfl | exact hH.g 1 rfl | exact hH.g 2 rfl | exact hH.g 3 rfl | exact hH.g 4 rfl | exact hH.g 5 rfl) (by omega) (by omega) (by omega) ?_
              rw [Int.toNat_natCast, hwk]
              refine az_iconst d_Cd_makeFrom_77 ?_
              refine az_idiv d_Cd_makeFrom_78 (by omega) (by omega) ?_
              refine az_iconst d_Cd_makeFrom_79 ?_
              refine az_iadd d_Cd_makeFrom_80 ?_
              first | refine ah_iast d_Cd_makeFrom_81 hH hF 0 rfl rfl (by omega) (by omega) (by omega) (by omega) (fun h hH hF => ?_) | refine ah_iast d_Cd_makeFrom_81 hH hF 1 rfl rfl (by omega) (by omega) (by omega) (by omega) (fun h hH hF => ?_) | refine ah_iast d_Cd_makeFrom_81 hH hF 2 rfl rfl (by omega) (by omega) (by omega) (by omega) (fun h hH hF => ?_) | refine ah_iast d_Cd_makeFrom_81 hH hF 3 rfl rfl (by omega) (by omega) (by omega) (by omega) (fun h hH hF => ?_) | refine ah_iast d_Cd_makeFrom_81 hH hF 4 rfl rfl (by omega) (by omega) (by omega) (by omega) (fun h hH hF => ?_) | refine ah_iast d_Cd_makeFrom_81 hH hF 5 rfl rfl (by omega) (by omega) (by omega) (by omega) (fun h hH hF => ?_)
              refine az_iinc d_Cd_makeFrom_82 rfl (by decide) rfl ?_
              refine ax_goto 58 d_Cd_makeFrom_85 (by decide) ?_
              rw [Int.toNat_natCast] at hH
              refine ih (k + 1) h _ (by omega) hH hF (fun q hq => ?_)
              by_cases e : q = k
              · rw [e, up_at, if_pos (by omega)]
                rfl
              · rw [up_ne e, hw' q hq]
                by_cases e2 : q < k
                · rw [if_pos e2, if_pos (by omega)]
                · rw [if_neg e2, if_neg (by omega)]
        exact inner n 0 h2 wt (by omega) hH2 Fr.rf (fun q hq => by rw [hw q hq, if_neg (by omega)])
      · -- good: arrange
        have hgd : gd (wS ss) n j := fun k hk => by rw [← hle k hk]; exact (hz.mp hzc) k hk
        have hok : okLg lg2 n := fun k hk => by
          rw [hlg2 k hk]
          exact ⟨len_pos hn2 hwp hk, (hz.mp hzc) k hk⟩
        refine ax_goto 94 d_Cd_makeFrom_53 (by decide) ?_
        refine ax_aload_n d_Cd_makeFrom_94 rfl ?_
        refine ax_cV0 d_Cd_makeFrom_95 v_Cd_arrange lk_Cd_61 (by first | assumption | exact hH.g 0 rfl | exact hH.g 1 rfl | exact hH.g 2 rfl | exact hH.g 3 rfl | exact hH.g 4 rfl | exact hH.g 5 rfl) (by decide) (Nat.le_of_ble_eq_true rfl) (cm_v (c_Cd_arrange hH2 hn hok) (fun h3 hp3 => ?_))
        obtain ⟨⟨vl3, bl3, pl3, hH3, hv3, hb3, hpl3⟩, hF3⟩ := hp3
        refine ax_vret d_Cd_makeFrom_98 rfl ?_
        obtain ⟨s3, hp3', nd3, pr3, dp3, hJ3⟩ := hJ2
        exact ⟨rfl, ⟨_, lg2, vl3, bl3, pl3, hH3, j, hgd, hmin, fun k hk => by rw [hlg2 k hk, hle k hk], hok, hv3, hb3, hpl3⟩, ⟨_, _, _, _, _, hJ3.fr hF3 rfl⟩, hFb.tr (hF3.wide rfl)⟩
  have outer : ∀ (f j : Nat) (h : ax_H) (wt lg : Nat → Int), j + f = 11 → Hs h (CdL n wt lg vl bl pl) → (∃ s hp nd pr dp, Hs h (JnL s hp nd pr dp)) → Fr CJS h0 h → (∀ k : Nat, k < n → wt k = hv (wS ss) j k) → (∀ i : Nat, i < j → ¬ gd (wS ss) n i) → ∀ v3 : Option Value,
      ax_W m_Cd_makeFrom 3 23 [some (.ref 22), some (.ref 18), some (.int (iv j)), v3] [] h (fun r h1 => r = none ∧ (∃ wt lg vl bl pl, Hs h1 (CdL n wt lg vl bl pl) ∧ CdOK ss n lg vl bl pl) ∧ (∃ s hp nd pr dp, Hs h1 (JnL s hp nd pr dp)) ∧ Fr CJS h0 h1) := by
    intro f
    induction f with
    | zero =>
      intro j h wt lg he hH hJ hF hw hmin v3
      exact body j h wt lg (by omega) hH hJ hF hw hmin (fun _ _ _ _ hj => by omega) v3
    | succ f ih =>
      intro j h wt lg he hH hJ hF hw hmin v3
      exact body j h wt lg (by omega) hH hJ hF hw hmin (fun h wt lg v3 hj hH hJ hF hw hmin => ih (j + 1) h wt lg (by omega) hH hJ hF hw hmin v3) v3
  exact outer 11 0 h1 wt1 lg (by omega) hH1 ⟨_, _, _, _, _, hJ1⟩ (hFa.wide rfl) hw9 (fun i hi => by omega) none
