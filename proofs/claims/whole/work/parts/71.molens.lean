/-! the reference: readsLengths -/
def LnQ (h0 : ax_H) (iz : Nat → Int) (ar : Nat → Nat → Int) (T : List Int) (n p : Nat) (r0 : Option Value) (h1 : ax_H) : Prop := ∃ b : Bool, r0 = some (.int (iv (bz b))) ∧ (match rdLens T n p with
    | .inl e => b = false ∧ RdE h1 iz ar e
    | .inr q => b = true ∧ ∃ iz1 ar1, MoH h1 iz1 ar1 ∧ KI [27] iz iz1 ∧ KA [16, 17] ar ar1 ∧ MoR iz1 ar1 T q.2 ∧ (∀ k : Nat, k < n → ar1 16 k = gx q.1 k) ∧ (∀ k : Nat, k < n → ar1 17 k = codeV (gx q.1) n k)) ∧ Fr MOS h0 h1
theorem LnQ_e {h0 h1 : ax_H} {iz : Nat → Int} {ar : Nat → Nat → Int} {T : List Int} {n p : Nat} {e : RF} (he : (.inl e : Sum RF (List Int × Nat)) = rdLens T n p) (hE : RdE h1 iz ar e) (hF : Fr MOS h0 h1) : LnQ h0 iz ar T n p (some (.int (iv (bz false)))) h1 := by
  unfold LnQ
  rw [← he]
  exact ⟨false, rfl, ⟨rfl, hE⟩, hF⟩
theorem gx_snoc_lt {a : List Int} {x : Int} {i : Nat} (h : i < a.length) : gx (a ++ [x]) i = gx a i := by
  show (a ++ [x]).getD i 0 = a.getD i 0
  rw [getD_snoc, if_neg (by omega)]
theorem gx_snoc_at (a : List Int) (x : Int) : gx (a ++ [x]) a.length = x := by
  show (a ++ [x]).getD a.length 0 = x
  rw [getD_snoc, if_pos rfl]
theorem kraft_snoc {a : List Int} {x : Int} : kraft (gx (a ++ [x])) (a.length + 1) = kraft (gx a) a.length + ((2 ^ (12 - x.toNat) : Nat) : Int) := by
  have h1 : kraft (gx (a ++ [x])) (a.length + 1) = kraft (gx (a ++ [x])) a.length + ((2 ^ (12 - (gx (a ++ [x]) a.length).toNat) : Nat) : Int) := rfl
  rw [h1, gx_snoc_at, kraft_cg (fun k hk => gx_snoc_lt hk)]
theorem lz_4096 : ∀ k : Fin 13, lzshr 4096 ((k.val : Nat) : Int) = ((2 ^ (12 - k.val) : Nat) : Int) := by decide +kernel
theorem tv1 (T : List Int) (p : Nat) : tv T 1 p = tb T p := by
  show 2 * 0 + tb T p = tb T p
  omega
section RLEN
variable {h0 : ax_H} {iz : Nat → Int} {ar : Nat → Nat → Int} {T : List Int} {n p : Nat}
set_option maxRecDepth 100000 in
set_option maxHeartbeats 16000000 in
theorem w_Mo_rlens (hn : n ≤ 258) (e12 : iz 12 + 2 = n) : ∀ (f s p1 : Nat) (hd : Int) (acc : List Int) (iz1 : Nat → Int) (ar1 : Nat → Nat → Int) (h : ax_H), s + f = n → acc.length = s → (1 ≤ hd ∧ hd ≤ 12) → (∀ x ∈ acc, 1 ≤ x ∧ x ≤ 12) → MoH h iz1 ar1 → Fr MOS h0 h → KI [27] iz iz1 → KA [16, 17] ar ar1 → MoR iz1 ar1 T p1 → la (ar1 16) acc → (0 ≤ kraft (gx acc) s ∧ kraft (gx acc) s ≤ 4096 * s) → lenE n p (rdLs T f p1 hd acc) = rdLens T n p → ∀ v7 : Option Value,
    ax_W m_Mo_readsLengths 2 57 [some (.ref 47), some (.int (iv ((p / 8 : Nat) : Int))), some (.int (iv hd)), some (.int (iv n)), some (.long (lz (kraft (gx acc) s))), none, some (.int (iv s)), v7] [] h (LnQ h0 iz ar T n p) := by
  intro f
  induction f with
  | zero =>
    intro s p1 hd acc iz1 ar1 h he hal hh hacc hH hF ki ka hR h16 hk hs v7
    have hsn : s = n := by omega
    subst hsn
    rw [rdLs] at hs
    have hcm := cmp3_sp (kraft (gx acc) s) 4096
    refine ax_iload d_Mo_readsLengths_57 rfl ?_
    refine ax_iload_n d_Mo_readsLengths_59 rfl ?_
    refine az_icmp_ge 168 d_Mo_readsLengths_60 (by decide) (by omega) (by omega) (fun hc => ?_) (fun hc => ?_)
    · refine ax_lload d_Mo_readsLengths_168 rfl ?_
      refine aj_ldc2 4096 d_Mo_readsLengths_170 cn_Mo_209 ?_
      refine aj_lcmp d_Mo_readsLengths_173 (by omega) (by omega) ?_
      refine az_if_eq 185 d_Mo_readsLengths_174 (by decide) (by first | exact bz_in _ | omega) (fun heq => ?_) (fun heq => ?_)
      · have hkr : kraft (gx acc) s = 4096 := by omega
        have hs : (.inr (acc, p1) : Sum RF (List Int × Nat)) = rdLens T s p := by
          rw [← hs, lenE]
          rw [if_pos hkr]
        refine ax_aload_n d_Mo_readsLengths_185 rfl ?_
        refine ax_iload_n d_Mo_readsLengths_186 rfl ?_
        refine ax_cV1 d_Mo_readsLengths_187 v_Mo_makeCodes lk_Mo_154 (by first | assumption | exact hH.g 0 rfl | exact hH.g 1 rfl | exact hH.g 2 rfl | exact hH.g 3 rfl | exact hH.g 4 rfl | exact hH.g 5 rfl | exact hH.g 6 rfl | exact hH.g 7 rfl | exact hH.g 8 rfl | exact hH.g 9 rfl | exact hH.g 10 rfl | exact hH.g 11 rfl | exact hH.g 12 rfl | exact hH.g 13 rfl | exact hH.g 14 rfl | exact hH.g 15 rfl | exact hH.g 16 rfl | exact hH.g 17 rfl | exact hH.g 18 rfl) (by decide) (Nat.le_of_ble_eq_true rfl) (cm_v (c_Mo_makeCodes hH hn (lg := gx acc) (fun k hk => h16 k (by omega)) (okLg_of hal hacc)) (fun h5 hq => ?_))
        obtain ⟨⟨ar5, hH5, ka5, h17⟩, hF5⟩ := hq
        refine az_iconst d_Mo_readsLengths_190 ?_
        refine ax_zret d_Mo_readsLengths_191 rfl (by decide) ?_
        unfold LnQ
        rw [← hs]
        exact ⟨true, rfl, ⟨rfl, iz1, ar5, hH5, ki, ka.tr (ka5.wide rfl), hR.fr (KI.rf (K := [])) ka5 rfl rfl, fun k hk => by rw [ka5 16 rfl]; exact h16 k (by omega), h17⟩, hF.tr hF5⟩
      · have hkr : ¬ kraft (gx acc) s = 4096 := by omega
        have hs : (.inl (7, ((p / 8 : Nat) : Int)) : Sum RF (List Int × Nat)) = rdLens T s p := by
          rw [← hs, lenE]
          rw [if_neg hkr]
        refine ax_aload_n d_Mo_readsLengths_177 rfl ?_
        refine az_bipush _ d_Mo_readsLengths_178 (by decide) ?_
        refine ax_iload_n d_Mo_readsLengths_180 rfl ?_
        refine ax_cV2 d_Mo_readsLengths_181 v_Mo_wrong lk_Mo_200 (by first | assumption | exact hH.g 0 rfl | exact hH.g 1 rfl | exact hH.g 2 rfl | exact hH.g 3 rfl | exact hH.g 4 rfl | exact hH.g 5 rfl | exact hH.g 6 rfl | exact hH.g 7 rfl | exact hH.g 8 rfl | exact hH.g 9 rfl | exact hH.g 10 rfl | exact hH.g 11 rfl | exact hH.g 12 rfl | exact hH.g 13 rfl | exact hH.g 14 rfl | exact hH.g 15 rfl | exact hH.g 16 rfl | exact hH.g 17 rfl | exact hH.g 18 rfl) (by decide) (Nat.le_of_ble_eq_true rfl) (cm_z (c_Mo_wrong hH hR.2.2.2.2.2.2 (f := 7) (pl := ((p / 8 : Nat) : Int)) (by omega)) (fun b h6 hq => ?_))
        obtain ⟨rfl, hE, hF6⟩ := hq
        refine ax_zret d_Mo_readsLengths_184 rfl (by decide) ?_
        exact LnQ_e hs (hE.tr ki ka rfl rfl) (hF.tr hF6)
    · exfalso
      omega
  | succ f ih =>
    intro s p1 hd acc iz1 ar1 h he hal hh hacc hH hF ki ka hR h16 hk hs v7
    rw [rdLs] at hs
    obtain ⟨s1, s2, s3, s4, s5, s6, s7⟩ := id hR
    have ep : iz1 27 / 8 = ((p1 / 8 : Nat) : Int) := by omega
    have inner : ∀ (g p2 : Nat) (hd2 : Int) (iz1 : Nat → Int) (h : ax_H), 8 * T.length < p2 + 2 * g → (1 ≤ hd2 ∧ hd2 ≤ 12) → MoH h iz1 ar1 → Fr MOS h0 h → KI [27] iz iz1 → MoR iz1 ar1 T p2 → lenE n p (match rdL1 T g p2 hd2 (p1 / 8) with
          | .inl e => .inl e
          | .inr q => rdLs T f q.2 q.1 (acc ++ [q.1])) = rdLens T n p →
        ax_W m_Mo_readsLengths 2 72 [some (.ref 47), some (.int (iv ((p / 8 : Nat) : Int))), some (.int (iv hd2)), some (.int (iv n)), some (.long (lz (kraft (gx acc) s))), none, some (.int (iv s)), some (.int (iv ((p1 / 8 : Nat) : Int)))] [] h (LnQ h0 iz ar T n p) := by
      intro g
      induction g with
      | zero =>
        intro p2 hd2 iz1 h hg hh2 hH hF ki hR hs
        have := hR.2.2.2.2.2.1
        exfalso
        omega
      | succ g ih2 =>
        intro p2 hd2 iz1 h hg hh2 hH hF ki hR hs
        rw [rdL1] at hs
        -- a fault has been told
        have told : ∀ (h : ax_H) (iz2 : Nat → Int) (ar2 : Nat → Nat → Int) (hd3 : Int) (e : RF), MoH h iz2 ar2 → (1 ≤ iz2 28 ∧ iz2 28 ≤ 12) → (.inl e : Sum RF (List Int × Nat)) = rdLens T n p → RdE h iz ar e → Fr MOS h0 h → ax_W m_Mo_readsLengths 2 135 [some (.ref 47), some (.int (iv ((p / 8 : Nat) : Int))), some (.int (iv hd3)), some (.int (iv n)), some (.long (lz (kraft (gx acc) s))), none, some (.int (iv s)), some (.int (iv ((p1 / 8 : Nat) : Int)))] [] h (LnQ h0 iz ar T n p) := by
          intro h iz2 ar2 hd3 e hH h28 he hE hF
          refine ax_aload_n d_Mo_readsLengths_135 rfl ?_
          refine ax_get d_Mo_readsLengths_136 fg_Mo_194 (by first | assumption | exact hH.g 0 rfl | exact hH.g 1 rfl | exact hH.g 2 rfl | exact hH.g 3 rfl | exact hH.g 4 rfl | exact hH.g 5 rfl | exact hH.g 6 rfl | exact hH.g 7 rfl | exact hH.g 8 rfl | exact hH.g 9 rfl | exact hH.g 10 rfl | exact hH.g 11 rfl | exact hH.g 12 rfl | exact hH.g 13 rfl | exact hH.g 14 rfl | exact hH.g 15 rfl | exact hH.g 16 rfl | exact hH.g 17 rfl | exact hH.g 18 rfl) (by rfl) ?_
          refine az_if_eq 144 d_Mo_readsLengths_139 (by decide) (by first | exact bz_in _ | omega) (fun hc => ?_) (fun hc => ?_)
          · exfalso
            omega
          · refine az_iconst d_Mo_readsLengths_142 ?_
            refine ax_zret d_Mo_readsLengths_143 rfl (by decide) ?_
            exact LnQ_e he hE hF
        refine ax_aload_n d_Mo_readsLengths_72 rfl ?_
        refine az_iconst d_Mo_readsLengths_73 ?_
        refine ax_cV1 d_Mo_readsLengths_74 v_Mo_get lk_Mo_203 (by first | assumption | exact hH.g 0 rfl | exact hH.g 1 rfl | exact hH.g 2 rfl | exact hH.g 3 rfl | exact hH.g 4 rfl | exact hH.g 5 rfl | exact hH.g 6 rfl | exact hH.g 7 rfl | exact hH.g 8 rfl | exact hH.g 9 rfl | exact hH.g 10 rfl | exact hH.g 11 rfl | exact hH.g 12 rfl | exact hH.g 13 rfl | exact hH.g 14 rfl | exact hH.g 15 rfl | exact hH.g 16 rfl | exact hH.g 17 rfl | exact hH.g 18 rfl) (by decide) (Nat.le_of_ble_eq_true rfl) (cm_j (c_Mo_get hH hR (n := 1) (by omega)) (fun z h1 hq => ?_))
        obtain ⟨hq, hF1⟩ := hq
        by_cases hlk : 8 * T.length < p2 + 1
        · rw [if_pos hlk] at hq hs
          obtain ⟨rfl, hE⟩ := hq
          have hE0 := hE.tr ki ka rfl rfl
          obtain ⟨iz3, ar3, hH, -, -, e28, -, b1, b2⟩ := hE
          have hcz := cmp3_sp 0 1
          refine aj_lconst 1 d_Mo_readsLengths_77 rfl ?_
          refine aj_lcmp d_Mo_readsLengths_78 (by omega) (by omega) ?_
          refine az_if_ne 135 d_Mo_readsLengths_79 (by decide) (by first | exact bz_in _ | omega) (fun hne => ?_) (fun hne => ?_)
          · exact told h1 iz3 ar3 hd2 (1, T.length) hH (by rw [e28]; exact ⟨b1, b2⟩) hs hE0 (hF.tr hF1)
          · exfalso
            omega
        · rw [if_neg hlk] at hq hs
          obtain ⟨rfl, iz3, hH3, ki3, hR3⟩ := hq
          have hH := hH3
          have e28 := hR3.2.2.2.2.2.2
          have htb := tb_lt T p2
          have hF := hF.tr hF1
          rw [tv1]
          have hcz := cmp3_sp (tb T p2 : Int) 1
          refine aj_lconst 1 d_Mo_readsLengths_77 rfl ?_
          refine aj_lcmp d_Mo_readsLengths_78 (by omega) (by omega) ?_
          refine az_if_ne 135 d_Mo_readsLengths_79 (by decide) (by first | exact bz_in _ | omega) (fun hne => ?_) (fun hne => ?_)
          · have ht0 : tb T p2 = 0 := by omega
            rw [if_pos ht0] at hs
            have hs : lenE n p (rdLs T f (p2 + 1) hd2 (acc ++ [hd2])) = rdLens T n p := hs
            have hk2 := kraft_snoc (a := acc) (x := hd2)
            rw [hal] at hk2
            have ehd : hd2 = ((hd2.toNat : Nat) : Int) := by omega
            have hsh := lz_4096 ⟨hd2.toNat, by omega⟩
            try dsimp only at hsh
            rw [← ehd] at hsh
            have hp1 : 2 ^ (12 - hd2.toNat) ≤ 2 ^ 12 := Nat.pow_le_pow_right (by decide) (by omega)
            have hp12 : (2 : Nat) ^ 12 = 4096 := by decide
            have hkb : 0 ≤ kraft (gx (acc ++ [hd2])) (s + 1) ∧ kraft (gx (acc ++ [hd2])) (s + 1) ≤ 4096 * ((s + 1 : Nat) : Int) := by
              rw [hk2]
              rw [hp12] at hp1
              clear hsh hk2
              generalize 2 ^ (12 - hd2.toNat) = P at hp1 ⊢
              omega
            refine ax_aload_n d_Mo_readsLengths_135 rfl ?_
            refine ax_get d_Mo_readsLengths_136 fg_Mo_194 (by first | assumption | exact hH.g 0 rfl | exact hH.g 1 rfl | exact hH.g 2 rfl | exact hH.g 3 rfl | exact hH.g 4 rfl | exact hH.g 5 rfl | exact hH.g 6 rfl | exact hH.g 7 rfl | exact hH.g 8 rfl | exact hH.g 9 rfl | exact hH.g 10 rfl | exact hH.g 11 rfl | exact hH.g 12 rfl | exact hH.g 13 rfl | exact hH.g 14 rfl | exact hH.g 15 rfl | exact hH.g 16 rfl | exact hH.g 17 rfl | exact hH.g 18 rfl) (by rfl) ?_
            refine az_if_eq 144 d_Mo_readsLengths_139 (by decide) (by first | exact bz_in _ | omega) (fun hc => ?_) (fun hc => ?_)
            · refine ax_aload_n d_Mo_readsLengths_144 rfl ?_
              refine ax_get d_Mo_readsLengths_145 fg_Mo_37 (by first | assumption | exact hH.g 0 rfl | exact hH.g 1 rfl | exact hH.g 2 rfl | exact hH.g 3 rfl | exact hH.g 4 rfl | exact hH.g 5 rfl | exact hH.g 6 rfl | exact hH.g 7 rfl | exact hH.g 8 rfl | exact hH.g 9 rfl | exact hH.g 10 rfl | exact hH.g 11 rfl | exact hH.g 12 rfl | exact hH.g 13 rfl | exact hH.g 14 rfl | exact hH.g 15 rfl | exact hH.g 16 rfl | exact hH.g 17 rfl | exact hH.g 18 rfl) (by rfl) ?_
              refine ax_iload d_Mo_readsLengths_148 rfl ?_
              refine ax_iload_n d_Mo_readsLengths_150 rfl ?_
              first | refine ah_iast d_Mo_readsLengths_151 hH hF 0 rfl rfl (by omega) (by omega) (by omega) (by omega) (fun h hH hF => ?_) | refine ah_iast d_Mo_readsLengths_151 hH hF 1 rfl rfl (by omega) (by omega) (by omega) (by omega) (fun h hH hF => ?_) | refine ah_iast d_Mo_readsLengths_151 hH hF 2 rfl rfl (by omega) (by omega) (by omega) (by omega) (fun h hH hF => ?_) | refine ah_iast d_Mo_readsLengths_151 hH hF 3 rfl rfl (by omega) (by omega) (by omega) (by omega) (fun h hH hF => ?_) | refine ah_iast d_Mo_readsLengths_151 hH hF 4 rfl rfl (by omega) (by omega) (by omega) (by omega) (fun h hH hF => ?_) | refine ah_iast d_Mo_readsLengths_151 hH hF 5 rfl rfl (by omega) (by omega) (by omega) (by omega) (fun h hH hF => ?_) | refine ah_iast d_Mo_readsLengths_151 hH hF 6 rfl rfl (by omega) (by omega) (by omega) (by omega) (fun h hH hF => ?_) | refine ah_iast d_Mo_readsLengths_151 hH hF 7 rfl rfl (by omega) (by omega) (by omega) (by omega) (fun h hH hF => ?_) | refine ah_iast d_Mo_readsLengths_151 hH hF 8 rfl rfl (by omega) (by omega) (by omega) (by omega) (fun h hH hF => ?_) | refine ah_iast d_Mo_readsLengths_151 hH hF 9 rfl rfl (by omega) (by omega) (by omega) (by omega) (fun h hH hF => ?_) | refine ah_iast d_Mo_readsLengths_151 hH hF 10 rfl rfl (by omega) (by omega) (by omega) (by omega) (fun h hH hF => ?_) | refine ah_iast d_Mo_readsLengths_151 hH hF 11 rfl rfl (by omega) (by omega) (by omega) (by omega) (fun h hH hF => ?_) | refine ah_iast d_Mo_readsLengths_151 hH hF 12 rfl rfl (by omega) (by omega) (by omega) (by omega) (fun h hH hF => ?_) | refine ah_iast d_Mo_readsLengths_151 hH hF 13 rfl rfl (by omega) (by omega) (by omega) (by omega) (fun h hH hF => ?_) | refine ah_iast d_Mo_readsLengths_151 hH hF 14 rfl rfl (by omega) (by omega) (by omega) (by omega) (fun h hH hF => ?_) | refine ah_iast d_Mo_readsLengths_151 hH hF 15 rfl rfl (by omega) (by omega) (by omega) (by omega) (fun h hH hF => ?_) | refine ah_iast d_Mo_readsLengths_151 hH hF 16 rfl rfl (by omega) (by omega) (by omega) (by omega) (fun h hH hF => ?_) | refine ah_iast d_Mo_readsLengths_151 hH hF 17 rfl rfl (by omega) (by omega) (by omega) (by omega) (fun h hH hF => ?_) | refine ah_iast d_Mo_readsLengths_151 hH hF 18 rfl rfl (by omega) (by omega) (by omega) (by omega) (fun h hH hF => ?_)
              have hH : MoH h iz3 (upA ar1 16 (up (ar1 16) s hd2)) := hH
              refine ax_lload d_Mo_readsLengths_152 rfl ?_
              refine aj_ldc2 4096 d_Mo_readsLengths_154 cn_Mo_209 ?_
              refine ax_iload_n d_Mo_readsLengths_157 rfl ?_
              refine aj_lshr d_Mo_readsLengths_158 ?_
              rw [hsh]
              refine aj_ladd d_Mo_readsLengths_159 ?_
              rw [← hk2]
              refine ax_lstore d_Mo_readsLengths_160 (by decide) rfl ?_
              refine az_iinc d_Mo_readsLengths_162 rfl (by decide) rfl ?_
              refine ax_goto 57 d_Mo_readsLengths_165 (by decide) ?_
              refine ih (s + 1) (p2 + 1) hd2 (acc ++ [hd2]) iz3 (upA ar1 16 (up (ar1 16) s hd2)) h (by omega) (by rw [List.length_append]; simp; omega) hh2 (fun x hx => ?_) hH hF (ki.tr ki3) (ka.up 16 _ rfl) (hR3.fr (KI.rf (K := [])) (KA.rf.up (K := [16]) 16 _ rfl) rfl rfl) (la_take_succ h16 hal _) hkb hs _
              rcases List.mem_append.mp hx with w | w
              · exact hacc x w
              · simp at w; rw [w]; exact hh2
            · exfalso
              omega
          · have ht1 : ¬ tb T p2 = 0 := by omega
            rw [if_neg ht1] at hs
            refine ax_aload_n d_Mo_readsLengths_82 rfl ?_
            refine ax_get d_Mo_readsLengths_83 fg_Mo_194 (by first | assumption | exact hH.g 0 rfl | exact hH.g 1 rfl | exact hH.g 2 rfl | exact hH.g 3 rfl | exact hH.g 4 rfl | exact hH.g 5 rfl | exact hH.g 6 rfl | exact hH.g 7 rfl | exact hH.g 8 rfl | exact hH.g 9 rfl | exact hH.g 10 rfl | exact hH.g 11 rfl | exact hH.g 12 rfl | exact hH.g 13 rfl | exact hH.g 14 rfl | exact hH.g 15 rfl | exact hH.g 16 rfl | exact hH.g 17 rfl | exact hH.g 18 rfl) (by rfl) ?_
            refine az_if_ne 135 d_Mo_readsLengths_86 (by decide) (by first | exact bz_in _ | omega) (fun hc => ?_) (fun hc => ?_)
            · exfalso
              omega
            · refine ax_iload_n d_Mo_readsLengths_89 rfl ?_
              refine ax_aload_n d_Mo_readsLengths_90 rfl ?_
              refine az_iconst d_Mo_readsLengths_91 ?_
              refine ax_cV1 d_Mo_readsLengths_92 v_Mo_get lk_Mo_203 (by first | assumption | exact hH.g 0 rfl | exact hH.g 1 rfl | exact hH.g 2 rfl | exact hH.g 3 rfl | exact hH.g 4 rfl | exact hH.g 5 rfl | exact hH.g 6 rfl | exact hH.g 7 rfl | exact hH.g 8 rfl | exact hH.g 9 rfl | exact hH.g 10 rfl | exact hH.g 11 rfl | exact hH.g 12 rfl | exact hH.g 13 rfl | exact hH.g 14 rfl | exact hH.g 15 rfl | exact hH.g 16 rfl | exact hH.g 17 rfl | exact hH.g 18 rfl) (by decide) (Nat.le_of_ble_eq_true rfl) (cm_j (c_Mo_get hH hR3 (n := 1) (by omega)) (fun z h5 hq => ?_))
              obtain ⟨hq, hF5⟩ := hq
              by_cases hlk2 : 8 * T.length < p2 + 1 + 1
              · rw [if_pos hlk2] at hq
                rw [if_pos (show 8 * T.length < p2 + 2 by omega)] at hs
                obtain ⟨rfl, hE⟩ := hq
                have hE0 := hE.tr (ki.tr ki3) ka rfl rfl
                obtain ⟨iz4, ar4, hH, -, -, e28, -, b1, b2⟩ := hE
                have b3 : 1 ≤ iz4 28 ∧ iz4 28 ≤ 12 := by rw [e28]; exact ⟨b1, b2⟩
                have hcz := cmp3_sp 0 0
                have hcz1 := cmp3_sp 0 1
                refine aj_lconst 0 d_Mo_readsLengths_95 rfl ?_
                refine aj_lcmp d_Mo_readsLengths_96 (by omega) (by omega) ?_
                refine az_if_ne 104 d_Mo_readsLengths_97 (by decide) (by first | exact bz_in _ | omega) (fun hne2 => ?_) (fun hne2 => ?_)
                · exfalso
                  omega
                · refine az_iconst d_Mo_readsLengths_100 ?_
                  refine ax_goto 105 d_Mo_readsLengths_101 (by decide) ?_
                  refine az_iadd d_Mo_readsLengths_105 ?_
                  refine ax_istore_n d_Mo_readsLengths_106 (by decide) rfl ?_
                  refine ax_aload_n d_Mo_readsLengths_107 rfl ?_
                  refine ax_get d_Mo_readsLengths_108 fg_Mo_194 (by first | assumption | exact hH.g 0 rfl | exact hH.g 1 rfl | exact hH.g 2 rfl | exact hH.g 3 rfl | exact hH.g 4 rfl | exact hH.g 5 rfl | exact hH.g 6 rfl | exact hH.g 7 rfl | exact hH.g 8 rfl | exact hH.g 9 rfl | exact hH.g 10 rfl | exact hH.g 11 rfl | exact hH.g 12 rfl | exact hH.g 13 rfl | exact hH.g 14 rfl | exact hH.g 15 rfl | exact hH.g 16 rfl | exact hH.g 17 rfl | exact hH.g 18 rfl) (by rfl) ?_
                  refine az_if_ne 72 d_Mo_readsLengths_111 (by decide) (by first | exact bz_in _ | omega) (fun hc => ?_) (fun hc => ?_)
                  · refine ax_aload_n d_Mo_readsLengths_72 rfl ?_
                    refine az_iconst d_Mo_readsLengths_73 ?_
                    refine ax_cV1 d_Mo_readsLengths_74 v_Mo_get lk_Mo_203 (by first | assumption | exact hH.g 0 rfl | exact hH.g 1 rfl | exact hH.g 2 rfl | exact hH.g 3 rfl | exact hH.g 4 rfl | exact hH.g 5 rfl | exact hH.g 6 rfl | exact hH.g 7 rfl | exact hH.g 8 rfl | exact hH.g 9 rfl | exact hH.g 10 rfl | exact hH.g 11 rfl | exact hH.g 12 rfl | exact hH.g 13 rfl | exact hH.g 14 rfl | exact hH.g 15 rfl | exact hH.g 16 rfl | exact hH.g 17 rfl | exact hH.g 18 rfl) (by decide) (Nat.le_of_ble_eq_true rfl) (cm_j (c_Mo_get2 hH b3) (fun z h6 hq => ?_))
                    obtain ⟨rfl, rfl⟩ := hq
                    refine aj_lconst 1 d_Mo_readsLengths_77 rfl ?_
                    refine aj_lcmp d_Mo_readsLengths_78 (by omega) (by omega) ?_
                    refine az_if_ne 135 d_Mo_readsLengths_79 (by decide) (by first | exact bz_in _ | omega) (fun hc => ?_) (fun hc => ?_)
                    · exact told h6 iz4 ar4 (hd2 + 1) (1, T.length) hH b3 hs hE0 (hF.tr hF5)
                    · exfalso
                      omega
                  · exfalso
                    omega
              · rw [if_neg hlk2] at hq
                rw [if_neg (show ¬ 8 * T.length < p2 + 2 by omega)] at hs
                obtain ⟨rfl, iz4, hH4, ki4, hR4⟩ := hq
                have hH := hH4
                have f28 := hR4.2.2.2.2.2.2
                have htb2 := tb_lt T (p2 + 1)
                have hF := hF.tr hF5
                rw [tv1]
                have hcz := cmp3_sp (tb T (p2 + 1) : Int) 0
                have fin : ∀ d : Int, d = (if tb T (p2 + 1) = 0 then 1 else -1) → ax_W m_Mo_readsLengths 2 105 [some (.ref 47), some (.int (iv ((p / 8 : Nat) : Int))), some (.int (iv hd2)), some (.int (iv n)), some (.long (lz (kraft (gx acc) s))), none, some (.int (iv s)), some (.int (iv ((p1 / 8 : Nat) : Int)))] [.int (iv d), .int (iv hd2)] h5 (LnQ h0 iz ar T n p) := by
                  intro d hd
                  rw [← hd] at hs
                  have hdr : d = 1 ∨ d = -1 := by rw [hd]; split <;> omega
                  refine az_iadd d_Mo_readsLengths_105 ?_
                  refine ax_istore_n d_Mo_readsLengths_106 (by decide) rfl ?_
                  refine ax_aload_n d_Mo_readsLengths_107 rfl ?_
                  refine ax_get d_Mo_readsLengths_108 fg_Mo_194 (by first | assumption | exact hH.g 0 rfl | exact hH.g 1 rfl | exact hH.g 2 rfl | exact hH.g 3 rfl | exact hH.g 4 rfl | exact hH.g 5 rfl | exact hH.g 6 rfl | exact hH.g 7 rfl | exact hH.g 8 rfl | exact hH.g 9 rfl | exact hH.g 10 rfl | exact hH.g 11 rfl | exact hH.g 12 rfl | exact hH.g 13 rfl | exact hH.g 14 rfl | exact hH.g 15 rfl | exact hH.g 16 rfl | exact hH.g 17 rfl | exact hH.g 18 rfl) (by rfl) ?_
                  refine az_if_ne 72 d_Mo_readsLengths_111 (by decide) (by first | exact bz_in _ | omega) (fun hc => ?_) (fun hc => ?_)
                  · exfalso
                    omega
                  · refine ax_iload_n d_Mo_readsLengths_114 rfl ?_
                    refine aj_i2l d_Mo_readsLengths_115 (by omega) ?_
                    refine aj_lconst 1 d_Mo_readsLengths_116 rfl ?_
                    refine aj_ldc2 12 d_Mo_readsLengths_117 cn_Mo_207 ?_
                    refine ax_cS3 d_Mo_readsLengths_120 s_Mo_isIn lk_Mo_72 (by decide) (Nat.le_of_ble_eq_true rfl) (cm_z (c_Mo_isIn (v := hd2 + d) (a := 1) (b := 12) (by omega) (by omega) (by omega)) (fun b h6 hq => ?_))
                    obtain ⟨rfl, rfl⟩ := hq
                    refine az_if_ne 72 d_Mo_readsLengths_123 (by decide) (bz_in _) (fun hcb => ?_) (fun hcb => ?_)
                    · have hin := of_decide_eq_true (bz_t hcb)
                      rw [if_neg (by omega)] at hs
                      exact ih2 (p2 + 2) (hd2 + d) iz4 h6 (by omega) (by omega) hH hF ((ki.tr ki3).tr ki4) (by rw [show p2 + 2 = p2 + 1 + 1 by omega]; exact hR4) hs
                    · have hin := of_decide_eq_false (bz_f hcb)
                      rw [if_pos (by omega)] at hs
                      refine ax_aload_n d_Mo_readsLengths_126 rfl ?_
                      refine az_bipush _ d_Mo_readsLengths_127 (by decide) ?_
                      refine ax_iload d_Mo_readsLengths_129 rfl ?_
                      refine ax_cV2 d_Mo_readsLengths_131 v_Mo_wrong lk_Mo_200 (by first | assumption | exact hH.g 0 rfl | exact hH.g 1 rfl | exact hH.g 2 rfl | exact hH.g 3 rfl | exact hH.g 4 rfl | exact hH.g 5 rfl | exact hH.g 6 rfl | exact hH.g 7 rfl | exact hH.g 8 rfl | exact hH.g 9 rfl | exact hH.g 10 rfl | exact hH.g 11 rfl | exact hH.g 12 rfl | exact hH.g 13 rfl | exact hH.g 14 rfl | exact hH.g 15 rfl | exact hH.g 16 rfl | exact hH.g 17 rfl | exact hH.g 18 rfl) (by decide) (Nat.le_of_ble_eq_true rfl) (cm_z (c_Mo_wrong hH f28 (f := 6) (pl := ((p1 / 8 : Nat) : Int)) (by omega)) (fun b h7 hq => ?_))
                      obtain ⟨rfl, hE, hF7⟩ := hq
                      refine ax_zret d_Mo_readsLengths_134 rfl (by decide) ?_
                      exact LnQ_e hs (hE.tr ((ki.tr ki3).tr ki4) ka rfl rfl) (hF.tr hF7)
                refine aj_lconst 0 d_Mo_readsLengths_95 rfl ?_
                refine aj_lcmp d_Mo_readsLengths_96 (by omega) (by omega) ?_
                refine az_if_ne 104 d_Mo_readsLengths_97 (by decide) (by first | exact bz_in _ | omega) (fun hne2 => ?_) (fun hne2 => ?_)
                · refine az_iconst d_Mo_readsLengths_104 ?_
                  exact fin (-1) (by rw [if_neg (by omega)])
                · refine az_iconst d_Mo_readsLengths_100 ?_
                  refine ax_goto 105 d_Mo_readsLengths_101 (by decide) ?_
                  exact fin 1 (by rw [if_pos (by omega)])
    refine ax_iload d_Mo_readsLengths_57 rfl ?_
    refine ax_iload_n d_Mo_readsLengths_59 rfl ?_
    refine az_icmp_ge 168 d_Mo_readsLengths_60 (by decide) (by omega) (by omega) (fun hc => ?_) (fun hc => ?_)
    · exfalso
      omega
    · refine ax_aload_n d_Mo_readsLengths_63 rfl ?_
      refine ax_get d_Mo_readsLengths_64 fg_Mo_197 (by first | assumption | exact hH.g 0 rfl | exact hH.g 1 rfl | exact hH.g 2 rfl | exact hH.g 3 rfl | exact hH.g 4 rfl | exact hH.g 5 rfl | exact hH.g 6 rfl | exact hH.g 7 rfl | exact hH.g 8 rfl | exact hH.g 9 rfl | exact hH.g 10 rfl | exact hH.g 11 rfl | exact hH.g 12 rfl | exact hH.g 13 rfl | exact hH.g 14 rfl | exact hH.g 15 rfl | exact hH.g 16 rfl | exact hH.g 17 rfl | exact hH.g 18 rfl) (by rfl) ?_
      refine az_bipush _ d_Mo_readsLengths_67 (by decide) ?_
      refine az_idiv d_Mo_readsLengths_69 (by omega) (by omega) ?_
      rw [ep]
      refine ax_istore d_Mo_readsLengths_70 (by decide) rfl ?_
      exact inner 24000 p1 hd iz1 h (by omega) hh hH hF ki hR hs
end RLEN
set_option maxRecDepth 100000 in
set_option maxHeartbeats 8000000 in
theorem c_Mo_readsLengths {h0 : ax_H} {iz : Nat → Int} {ar : Nat → Nat → Int} {T : List Int} {n p : Nat} (hH : MoH h0 iz ar) (hR : MoR iz ar T p) (hn : n ≤ 258) (e12 : iz 12 + 2 = n) : ax_Cz m_Mo_readsLengths 2 [.ref 47] h0 (fun b h1 => (match rdLens T n p with
    | .inl e => b = false ∧ RdE h1 iz ar e
    | .inr q => b = true ∧ ∃ iz1 ar1, MoH h1 iz1 ar1 ∧ KI [27] iz iz1 ∧ KA [16, 17] ar ar1 ∧ MoR iz1 ar1 T q.2 ∧ (∀ k : Nat, k < n → ar1 16 k = gx q.1 k) ∧ (∀ k : Nat, k < n → ar1 17 k = codeV (gx q.1) n k)) ∧ Fr MOS h0 h1) := by
  obtain ⟨r1, r2, r3, r4, r5, r6, r7⟩ := id hR
  have ep : iz 27 / 8 = ((p / 8 : Nat) : Int) := by omega
  have hs : rdLens T n p = rdLens T n p := rfl
  conv at hs => lhs; rw [rdLens]
  refine ax_enter [some (.ref 47), none, none, none, none, none, none, none] rfl (Nat.le_of_ble_eq_true rfl) (by decide) ?_
  show ax_W _ _ _ _ _ _ (LnQ h0 iz ar T n p)
  refine ax_aload_n d_Mo_readsLengths_0 rfl ?_
  refine ax_get d_Mo_readsLengths_1 fg_Mo_197 (by first | assumption | exact hH.g 0 rfl | exact hH.g 1 rfl | exact hH.g 2 rfl | exact hH.g 3 rfl | exact hH.g 4 rfl | exact hH.g 5 rfl | exact hH.g 6 rfl | exact hH.g 7 rfl | exact hH.g 8 rfl | exact hH.g 9 rfl | exact hH.g 10 rfl | exact hH.g 11 rfl | exact hH.g 12 rfl | exact hH.g 13 rfl | exact hH.g 14 rfl | exact hH.g 15 rfl | exact hH.g 16 rfl | exact hH.g 17 rfl | exact hH.g 18 rfl) (by rfl) ?_
  refine az_bipush _ d_Mo_readsLengths_4 (by decide) ?_
  refine az_idiv d_Mo_readsLengths_6 (by omega) (by omega) ?_
  rw [ep]
  refine ax_istore_n d_Mo_readsLengths_7 (by decide) rfl ?_
  refine ax_aload_n d_Mo_readsLengths_8 rfl ?_
  refine az_iconst d_Mo_readsLengths_9 ?_
  refine ax_cV1 d_Mo_readsLengths_10 v_Mo_get lk_Mo_203 (by first | assumption | exact hH.g 0 rfl | exact hH.g 1 rfl | exact hH.g 2 rfl | exact hH.g 3 rfl | exact hH.g 4 rfl | exact hH.g 5 rfl | exact hH.g 6 rfl | exact hH.g 7 rfl | exact hH.g 8 rfl | exact hH.g 9 rfl | exact hH.g 10 rfl | exact hH.g 11 rfl | exact hH.g 12 rfl | exact hH.g 13 rfl | exact hH.g 14 rfl | exact hH.g 15 rfl | exact hH.g 16 rfl | exact hH.g 17 rfl | exact hH.g 18 rfl) (by decide) (Nat.le_of_ble_eq_true rfl) (cm_j (c_Mo_get hH hR (n := 4) (by omega)) (fun z h1 hq => ?_))
  obtain ⟨hq, hF1⟩ := hq
  by_cases hlk : 8 * T.length < p + 4
  · rw [if_pos hlk] at hq hs
    obtain ⟨rfl, hE⟩ := hq
    have hE0 := hE
    obtain ⟨iz1, ar1, hH, -, -, e28, -, b1, b2⟩ := hE
    refine aj_l2i d_Mo_readsLengths_13 ?_
    refine ax_istore_n d_Mo_readsLengths_14 (by decide) rfl ?_
    refine ax_aload_n d_Mo_readsLengths_15 rfl ?_
    refine ax_get d_Mo_readsLengths_16 fg_Mo_194 (by first | assumption | exact hH.g 0 rfl | exact hH.g 1 rfl | exact hH.g 2 rfl | exact hH.g 3 rfl | exact hH.g 4 rfl | exact hH.g 5 rfl | exact hH.g 6 rfl | exact hH.g 7 rfl | exact hH.g 8 rfl | exact hH.g 9 rfl | exact hH.g 10 rfl | exact hH.g 11 rfl | exact hH.g 12 rfl | exact hH.g 13 rfl | exact hH.g 14 rfl | exact hH.g 15 rfl | exact hH.g 16 rfl | exact hH.g 17 rfl | exact hH.g 18 rfl) (by rfl) ?_
    refine az_if_eq 24 d_Mo_readsLengths_19 (by decide) (by first | exact bz_in _ | omega) (fun hc => ?_) (fun hc => ?_)
    · exfalso
      omega
    · refine az_iconst d_Mo_readsLengths_22 ?_
      refine ax_zret d_Mo_readsLengths_23 rfl (by decide) ?_
      exact LnQ_e hs hE0 hF1
  · rw [if_neg hlk] at hq hs
    obtain ⟨rfl, iz1, hH1, ki1, hR1⟩ := hq
    have hH := hH1
    have e28 := hR1.2.2.2.2.2.2
    have htv := tv_lt T 4 p
    have e12' := ki1 12 rfl
    refine aj_l2i d_Mo_readsLengths_13 ?_
    refine ax_istore_n d_Mo_readsLengths_14 (by decide) rfl ?_
    refine ax_aload_n d_Mo_readsLengths_15 rfl ?_
    refine ax_get d_Mo_readsLengths_16 fg_Mo_194 (by first | assumption | exact hH.g 0 rfl | exact hH.g 1 rfl | exact hH.g 2 rfl | exact hH.g 3 rfl | exact hH.g 4 rfl | exact hH.g 5 rfl | exact hH.g 6 rfl | exact hH.g 7 rfl | exact hH.g 8 rfl | exact hH.g 9 rfl | exact hH.g 10 rfl | exact hH.g 11 rfl | exact hH.g 12 rfl | exact hH.g 13 rfl | exact hH.g 14 rfl | exact hH.g 15 rfl | exact hH.g 16 rfl | exact hH.g 17 rfl | exact hH.g 18 rfl) (by rfl) ?_
    refine az_if_eq 24 d_Mo_readsLengths_19 (by decide) (by first | exact bz_in _ | omega) (fun hc => ?_) (fun hc => ?_)
    · refine ax_iload_n d_Mo_readsLengths_24 rfl ?_
      refine aj_i2l d_Mo_readsLengths_25 (by omega) ?_
      refine aj_lconst 1 d_Mo_readsLengths_26 rfl ?_
      refine aj_ldc2 12 d_Mo_readsLengths_27 cn_Mo_207 ?_
      refine ax_cS3 d_Mo_readsLengths_30 s_Mo_isIn lk_Mo_72 (by decide) (Nat.le_of_ble_eq_true rfl) (cm_z (c_Mo_isIn (v := ((tv T 4 p : Nat) : Int)) (a := 1) (b := 12) (by omega) (by omega) (by omega)) (fun b h6 hq => ?_))
      obtain ⟨rfl, rfl⟩ := hq
      refine az_if_ne 44 d_Mo_readsLengths_33 (by decide) (bz_in _) (fun hcb => ?_) (fun hcb => ?_)
      · have hin := of_decide_eq_true (bz_t hcb)
        rw [if_neg (by omega)] at hs
        have en : iz1 12 + 2 = (n : Int) := by omega
        refine ax_aload_n d_Mo_readsLengths_44 rfl ?_
        refine ax_get d_Mo_readsLengths_45 fg_Mo_138 (by first | assumption | exact hH.g 0 rfl | exact hH.g 1 rfl | exact hH.g 2 rfl | exact hH.g 3 rfl | exact hH.g 4 rfl | exact hH.g 5 rfl | exact hH.g 6 rfl | exact hH.g 7 rfl | exact hH.g 8 rfl | exact hH.g 9 rfl | exact hH.g 10 rfl | exact hH.g 11 rfl | exact hH.g 12 rfl | exact hH.g 13 rfl | exact hH.g 14 rfl | exact hH.g 15 rfl | exact hH.g 16 rfl | exact hH.g 17 rfl | exact hH.g 18 rfl) (by rfl) ?_
        refine az_iconst d_Mo_readsLengths_48 ?_
        refine az_iadd d_Mo_readsLengths_49 ?_
        rw [en]
        refine ax_istore_n d_Mo_readsLengths_50 (by decide) rfl ?_
        refine aj_lconst 0 d_Mo_readsLengths_51 rfl ?_
        refine ax_lstore d_Mo_readsLengths_52 (by decide) rfl ?_
        refine az_iconst d_Mo_readsLengths_54 ?_
        refine ax_istore d_Mo_readsLengths_55 (by decide) rfl ?_
        exact w_Mo_rlens hn e12 n 0 (p + 4) _ [] iz1 ar h6 (by omega) rfl (by omega) (fun x hx => by simp at hx) hH hF1 ki1 KA.rf hR1 (fun i hi => by simp at hi) (by show (0 : Int) ≤ 0 ∧ (0 : Int) ≤ _; omega) hs _
      · have hin := of_decide_eq_false (bz_f hcb)
        rw [if_pos (by omega)] at hs
        refine ax_aload_n d_Mo_readsLengths_36 rfl ?_
        refine az_bipush _ d_Mo_readsLengths_37 (by decide) ?_
        refine ax_iload_n d_Mo_readsLengths_39 rfl ?_
        refine ax_cV2 d_Mo_readsLengths_40 v_Mo_wrong lk_Mo_200 (by first | assumption | exact hH.g 0 rfl | exact hH.g 1 rfl | exact hH.g 2 rfl | exact hH.g 3 rfl | exact hH.g 4 rfl | exact hH.g 5 rfl | exact hH.g 6 rfl | exact hH.g 7 rfl | exact hH.g 8 rfl | exact hH.g 9 rfl | exact hH.g 10 rfl | exact hH.g 11 rfl | exact hH.g 12 rfl | exact hH.g 13 rfl | exact hH.g 14 rfl | exact hH.g 15 rfl | exact hH.g 16 rfl | exact hH.g 17 rfl | exact hH.g 18 rfl) (by decide) (Nat.le_of_ble_eq_true rfl) (cm_z (c_Mo_wrong hH e28 (f := 6) (pl := ((p / 8 : Nat) : Int)) (by omega)) (fun b h7 hq => ?_))
        obtain ⟨rfl, hE, hF7⟩ := hq
        refine ax_zret d_Mo_readsLengths_43 rfl (by decide) ?_
        exact LnQ_e hs (hE.tr ki1 (KA.rf (K := [])) rfl rfl) (hF1.tr hF7)
    · exfalso
      omega
