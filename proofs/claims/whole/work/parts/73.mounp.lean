/-! the reference: unpacks -/
/-- how many alike stand at the end -/
def endA : List Int → Int → Nat → Nat
  | [], _, al => al
  | b :: t, pv, al => if al = 4 then endA t b 0 else endA t b (if 0 < al ∧ b = pv then al + 1 else 1)
theorem endA_pk (xs : List Int) : ∀ (f i al : Nat) (pv : Int), al ≤ 3 → (0 < al → 0 < i ∧ pv = gx xs (i - 1)) → endA (pkI xs f i al) pv al ≠ 4
  | 0, i, al, pv, ha, _ => by
    rw [pkI, endA]
    omega
  | f + 1, i, al, pv, ha, hp => by
    rw [pkI]
    by_cases hi : i < xs.length
    · rw [if_pos hi]
      have ek : alk xs i al = if 0 < al ∧ gx xs i = pv then al + 1 else 1 := by
        unfold alk
        by_cases h0 : 0 < al
        · have := hp h0
          by_cases h1 : gx xs i = pv
          · rw [if_pos ⟨this.1, by rw [h1, this.2]⟩, if_pos ⟨h0, h1⟩]
          · rw [if_neg (fun q => h1 (by rw [q.2, this.2])), if_neg (fun q => h1 q.2)]
        · have h00 : al = 0 := by omega
          rw [h00, if_neg (show ¬ (0 < 0 ∧ gx xs i = pv) from fun q => absurd q.1 (by omega))]
          split <;> rfl
      by_cases h4 : alk xs i al = 4
      · rw [if_pos h4, endA, if_neg (by omega), ← ek, h4, endA, if_pos rfl]
        exact endA_pk xs f _ 0 _ (by omega) (fun q => by omega)
      · rw [if_neg h4, endA, if_neg (by omega), ← ek]
        refine endA_pk xs f (i + 1) _ _ ?_ (fun _ => ⟨by omega, by rw [Nat.add_sub_cancel]⟩)
        rw [ek] at h4 ⊢
        split at h4 <;> split <;> omega
    · rw [if_neg hi, endA]
      omega
def UnQ (h0 : ax_H) (iz : Nat → Int) (ar : Nat → Nat → Int) (ys : List Int) (r0 : Option Value) (h1 : ax_H) : Prop := ∃ b : Bool, r0 = some (.int (iv (bz b))) ∧ (match upT ys with
    | none => b = false
    | some u => b = true ∧ u.length ≤ 600 ∧ Bs u) ∧ (∃ iz1 ar1, MoH h1 iz1 ar1 ∧ KI [0, 2] iz iz1 ∧ KA [1, 3, 11] ar ar1 ∧ ∀ u, upT ys = some u → iz1 0 = u.length ∧ la (ar1 1) u) ∧ Fr MOS h0 h1
theorem UnQ_n {h0 h1 : ax_H} {iz iz1 : Nat → Int} {ar ar1 : Nat → Nat → Int} {ys : List Int} (he : upT ys = none) (hH : MoH h1 iz1 ar1) (ki : KI [0, 2] iz iz1) (ka : KA [1, 3, 11] ar ar1) (hF : Fr MOS h0 h1) : UnQ h0 iz ar ys (some (.int (iv (bz false)))) h1 := by
  unfold UnQ
  rw [he]
  exact ⟨false, rfl, rfl, ⟨iz1, ar1, hH, ki, ka, fun u hu => by cases hu⟩, hF⟩
set_option maxRecDepth 100000 in
set_option maxHeartbeats 16000000 in
theorem c_Mo_unpacks {h0 : ax_H} {iz : Nat → Int} {ar : Nat → Nat → Int} {ys : List Int} (hH : MoH h0 iz ar) (hR : RwS iz ar ys) : ax_Cz m_Mo_unpacks 1 [.ref 47] h0 (fun b h1 => (match upT ys with
    | none => b = false
    | some u => b = true ∧ u.length ≤ 600 ∧ Bs u) ∧ (∃ iz1 ar1, MoH h1 iz1 ar1 ∧ KI [0, 2] iz iz1 ∧ KA [1, 3, 11] ar ar1 ∧ ∀ u, upT ys = some u → iz1 0 = u.length ∧ la (ar1 1) u) ∧ Fr MOS h0 h1) := by
  obtain ⟨e2, hn, hl, hbs⟩ := id hR
  have hF : Fr MOS h0 h0 := Fr.rf
  refine ax_enter [some (.ref 47), none, none, none, none] rfl (Nat.le_of_ble_eq_true rfl) (by decide) ?_
  show ax_W _ _ _ _ _ _ (UnQ h0 iz ar ys)
  refine ax_aload_n d_Mo_unpacks_0 rfl ?_
  refine ax_get d_Mo_unpacks_1 fg_Mo_87 (by first | assumption | exact hH.g 0 rfl | exact hH.g 1 rfl | exact hH.g 2 rfl | exact hH.g 3 rfl | exact hH.g 4 rfl | exact hH.g 5 rfl | exact hH.g 6 rfl | exact hH.g 7 rfl | exact hH.g 8 rfl | exact hH.g 9 rfl | exact hH.g 10 rfl | exact hH.g 11 rfl | exact hH.g 12 rfl | exact hH.g 13 rfl | exact hH.g 14 rfl | exact hH.g 15 rfl | exact hH.g 16 rfl | exact hH.g 17 rfl | exact hH.g 18 rfl) (by rfl) ?_
  rw [e2]
  refine ax_istore_n d_Mo_unpacks_4 (by decide) rfl ?_
  refine az_iconst d_Mo_unpacks_5 ?_
  refine ax_istore_n d_Mo_unpacks_6 (by decide) rfl ?_
  -- is it packed so?
  have like : ∀ (u : List Int) (iz3 : Nat → Int) (ar3 : Nat → Nat → Int) (h : ax_H), upS ys 0 0 [] = some u → Bs u → u.length ≤ 600 → MoH h iz3 ar3 → Fr MOS h0 h → KI [0, 2] iz iz3 → KA [1, 3, 11] ar ar3 → iz3 0 = u.length → la (ar3 1) u → la (ar3 11) ys → ∀ (v2 : Int) (v3 v4 : Option Value),
      ax_W m_Mo_unpacks 1 197 [some (.ref 47), some (.int (iv (ys.length : Int))), some (.int (iv v2)), v3, v4] [] h (UnQ h0 iz ar ys) := by
    intro u iz3 ar3 h hu hbu hul hH hF ki ka e0 h1 h11 v2 v3 v4
    refine ax_aload_n d_Mo_unpacks_197 rfl ?_
    refine ax_cV0 d_Mo_unpacks_198 v_Mo_packBlock lk_Mo_90 (by first | assumption | exact hH.g 0 rfl | exact hH.g 1 rfl | exact hH.g 2 rfl | exact hH.g 3 rfl | exact hH.g 4 rfl | exact hH.g 5 rfl | exact hH.g 6 rfl | exact hH.g 7 rfl | exact hH.g 8 rfl | exact hH.g 9 rfl | exact hH.g 10 rfl | exact hH.g 11 rfl | exact hH.g 12 rfl | exact hH.g 13 rfl | exact hH.g 14 rfl | exact hH.g 15 rfl | exact hH.g 16 rfl | exact hH.g 17 rfl | exact hH.g 18 rfl) (by decide) (Nat.le_of_ble_eq_true rfl) (cm_v (c_Mo_packBlock hH e0 hul h1 hbu) (fun h2 hq => ?_))
    obtain ⟨⟨iz4, ar4, hH4, ki4, ka4, g2, hl4, hpl⟩, hF4⟩ := hq
    have hH := hH4
    have ki04 := ki.tr (ki4.wide (K' := [0, 2]) rfl)
    have ka04 := ka.tr (ka4.wide (K' := [1, 3, 11]) rfl)
    have g0 : iz4 0 = u.length := (ki4 0 rfl).trans e0
    have g1 : la (ar4 1) u := by rw [ka4 1 rfl]; exact h1
    have g11 : la (ar4 11) ys := by rw [ka4 11 rfl]; exact h11
    have hF24 := hF.tr hF4
    have hbp := Bs_pk hbu
    have yes : pk u = ys → UnQ h0 iz ar ys (some (.int (iv (bz true)))) h2 := by
      intro he
      have eu : upT ys = some u := by
        unfold upT
        rw [hu]
        exact if_pos he
      unfold UnQ
      rw [eu]
      refine ⟨true, rfl, ⟨rfl, hul, hbu⟩, ⟨iz4, ar4, hH4, ki04, ka04, fun u' hu' => ?_⟩, hF24⟩
      cases hu'
      exact ⟨g0, g1⟩
    have no : pk u ≠ ys → UnQ h0 iz ar ys (some (.int (iv (bz false)))) h2 := by
      intro he
      refine UnQ_n ?_ hH4 ki04 ka04 hF24
      unfold upT
      rw [hu]
      exact if_neg he
    have loop : (pk u).length = ys.length → ∀ (f k : Nat), k + f = ys.length → (∀ j : Nat, j < k → gx (pk u) j = gx ys j) →
        ax_W m_Mo_unpacks 1 218 [some (.ref 47), some (.int (iv (ys.length : Int))), some (.int (iv v2)), some (.int (iv 1)), some (.int (iv k))] [] h2 (UnQ h0 iz ar ys) := by
      intro hlen f
      induction f with
      | zero =>
        intro k he hj
        refine ax_iload d_Mo_unpacks_218 rfl ?_
        refine ax_iload_n d_Mo_unpacks_220 rfl ?_
        refine az_icmp_ge 257 d_Mo_unpacks_221 (by decide) (by omega) (by omega) (fun hc => ?_) (fun hc => ?_)
        · refine ax_iload_n d_Mo_unpacks_257 rfl ?_
          refine ax_zret d_Mo_unpacks_258 rfl (by decide) ?_
          exact yes (gx_ext hlen (fun i hi => hj i (by omega)))
        · exfalso
          omega
      | succ f ih =>
        intro k he hj
        have a1 : ar4 3 ((k : Int).toNat) = gx (pk u) k := hl4 k (by omega)
        have a2 : ar4 11 ((k : Int).toNat) = gx ys k := g11 k (by omega)
        have b1 := gx_Bs hbp k
        have b2 := gx_Bs hbs k
        refine ax_iload d_Mo_unpacks_218 rfl ?_
        refine ax_iload_n d_Mo_unpacks_220 rfl ?_
        refine az_icmp_ge 257 d_Mo_unpacks_221 (by decide) (by omega) (by omega) (fun hc => ?_) (fun hc => ?_)
        · exfalso
          omega
        · refine ax_iload_n d_Mo_unpacks_224 rfl ?_
          refine az_if_eq 257 d_Mo_unpacks_225 (by decide) (by first | exact bz_in _ | omega) (fun hc => ?_) (fun hc => ?_)
          · exfalso
            omega
          · refine ax_aload_n d_Mo_unpacks_228 rfl ?_
            refine ax_get d_Mo_unpacks_229 fg_Mo_13 (by first | assumption | exact hH.g 0 rfl | exact hH.g 1 rfl | exact hH.g 2 rfl | exact hH.g 3 rfl | exact hH.g 4 rfl | exact hH.g 5 rfl | exact hH.g 6 rfl | exact hH.g 7 rfl | exact hH.g 8 rfl | exact hH.g 9 rfl | exact hH.g 10 rfl | exact hH.g 11 rfl | exact hH.g 12 rfl | exact hH.g 13 rfl | exact hH.g 14 rfl | exact hH.g 15 rfl | exact hH.g 16 rfl | exact hH.g 17 rfl | exact hH.g 18 rfl) (by rfl) ?_
            refine ax_iload d_Mo_unpacks_232 rfl ?_
            refine az_iald d_Mo_unpacks_234 (by first | assumption | exact hH.g 0 rfl | exact hH.g 1 rfl | exact hH.g 2 rfl | exact hH.g 3 rfl | exact hH.g 4 rfl | exact hH.g 5 rfl | exact hH.g 6 rfl | exact hH.g 7 rfl | exact hH.g 8 rfl | exact hH.g 9 rfl | exact hH.g 10 rfl | exact hH.g 11 rfl | exact hH.g 12 rfl | exact hH.g 13 rfl | exact hH.g 14 rfl | exact hH.g 15 rfl | exact hH.g 16 rfl | exact hH.g 17 rfl | exact hH.g 18 rfl) (by omega) (by omega) (by omega) ?_
            rw [a1]
            refine ax_aload_n d_Mo_unpacks_235 rfl ?_
            refine ax_get d_Mo_unpacks_236 fg_Mo_28 (by first | assumption | exact hH.g 0 rfl | exact hH.g 1 rfl | exact hH.g 2 rfl | exact hH.g 3 rfl | exact hH.g 4 rfl | exact hH.g 5 rfl | exact hH.g 6 rfl | exact hH.g 7 rfl | exact hH.g 8 rfl | exact hH.g 9 rfl | exact hH.g 10 rfl | exact hH.g 11 rfl | exact hH.g 12 rfl | exact hH.g 13 rfl | exact hH.g 14 rfl | exact hH.g 15 rfl | exact hH.g 16 rfl | exact hH.g 17 rfl | exact hH.g 18 rfl) (by rfl) ?_
            refine ax_iload d_Mo_unpacks_239 rfl ?_
            refine az_iald d_Mo_unpacks_241 (by first | assumption | exact hH.g 0 rfl | exact hH.g 1 rfl | exact hH.g 2 rfl | exact hH.g 3 rfl | exact hH.g 4 rfl | exact hH.g 5 rfl | exact hH.g 6 rfl | exact hH.g 7 rfl | exact hH.g 8 rfl | exact hH.g 9 rfl | exact hH.g 10 rfl | exact hH.g 11 rfl | exact hH.g 12 rfl | exact hH.g 13 rfl | exact hH.g 14 rfl | exact hH.g 15 rfl | exact hH.g 16 rfl | exact hH.g 17 rfl | exact hH.g 18 rfl) (by omega) (by omega) (by omega) ?_
            rw [a2]
            refine az_icmp_ne 249 d_Mo_unpacks_242 (by decide) (by omega) (by omega) (fun hne => ?_) (fun hne => ?_)
            · have hno : pk u ≠ ys := fun q => hne (by rw [q])
              refine az_iconst d_Mo_unpacks_249 ?_
              refine ax_istore_n d_Mo_unpacks_250 (by decide) rfl ?_
              refine az_iinc d_Mo_unpacks_251 rfl (by decide) rfl ?_
              refine ax_goto 218 d_Mo_unpacks_254 (by decide) ?_
              refine ax_iload d_Mo_unpacks_218 rfl ?_
              refine ax_iload_n d_Mo_unpacks_220 rfl ?_
              refine az_icmp_ge 257 d_Mo_unpacks_221 (by decide) (by omega) (by omega) (fun hc => ?_) (fun hc => ?_)
              · refine ax_iload_n d_Mo_unpacks_257 rfl ?_
                refine ax_zret d_Mo_unpacks_258 rfl (by decide) ?_
                exact no hno
              · refine ax_iload_n d_Mo_unpacks_224 rfl ?_
                refine az_if_eq 257 d_Mo_unpacks_225 (by decide) (by first | exact bz_in _ | omega) (fun hc => ?_) (fun hc => ?_)
                · refine ax_iload_n d_Mo_unpacks_257 rfl ?_
                  refine ax_zret d_Mo_unpacks_258 rfl (by decide) ?_
                  exact no hno
                · exfalso
                  omega
            · refine az_iconst d_Mo_unpacks_245 ?_
              refine ax_goto 250 d_Mo_unpacks_246 (by decide) ?_
              refine ax_istore_n d_Mo_unpacks_250 (by decide) rfl ?_
              refine az_iinc d_Mo_unpacks_251 rfl (by decide) rfl ?_
              refine ax_goto 218 d_Mo_unpacks_254 (by decide) ?_
              refine ih (k + 1) (by omega) (fun j hj2 => ?_)
              by_cases e : j = k
              · rw [e]; exact hne
              · exact hj j (by omega)
    refine ax_aload_n d_Mo_unpacks_201 rfl ?_
    refine ax_get d_Mo_unpacks_202 fg_Mo_87 (by first | assumption | exact hH.g 0 rfl | exact hH.g 1 rfl | exact hH.g 2 rfl | exact hH.g 3 rfl | exact hH.g 4 rfl | exact hH.g 5 rfl | exact hH.g 6 rfl | exact hH.g 7 rfl | exact hH.g 8 rfl | exact hH.g 9 rfl | exact hH.g 10 rfl | exact hH.g 11 rfl | exact hH.g 12 rfl | exact hH.g 13 rfl | exact hH.g 14 rfl | exact hH.g 15 rfl | exact hH.g 16 rfl | exact hH.g 17 rfl | exact hH.g 18 rfl) (by rfl) ?_
    refine ax_iload_n d_Mo_unpacks_205 rfl ?_
    refine az_icmp_ne 213 d_Mo_unpacks_206 (by decide) (by omega) (by omega) (fun hne => ?_) (fun hne => ?_)
    · have hno : pk u ≠ ys := fun q => hne (by rw [g2, q])
      refine az_iconst d_Mo_unpacks_213 ?_
      refine ax_istore_n d_Mo_unpacks_214 (by decide) rfl ?_
      refine az_iconst d_Mo_unpacks_215 ?_
      refine ax_istore d_Mo_unpacks_216 (by decide) rfl ?_
      refine ax_iload d_Mo_unpacks_218 rfl ?_
      refine ax_iload_n d_Mo_unpacks_220 rfl ?_
      refine az_icmp_ge 257 d_Mo_unpacks_221 (by decide) (by omega) (by omega) (fun hc => ?_) (fun hc => ?_)
      · refine ax_iload_n d_Mo_unpacks_257 rfl ?_
        refine ax_zret d_Mo_unpacks_258 rfl (by decide) ?_
        exact no hno
      · refine ax_iload_n d_Mo_unpacks_224 rfl ?_
        refine az_if_eq 257 d_Mo_unpacks_225 (by decide) (by first | exact bz_in _ | omega) (fun hc => ?_) (fun hc => ?_)
        · refine ax_iload_n d_Mo_unpacks_257 rfl ?_
          refine ax_zret d_Mo_unpacks_258 rfl (by decide) ?_
          exact no hno
        · exfalso
          omega
    · refine az_iconst d_Mo_unpacks_209 ?_
      refine ax_goto 214 d_Mo_unpacks_210 (by decide) ?_
      refine ax_istore_n d_Mo_unpacks_214 (by decide) rfl ?_
      refine az_iconst d_Mo_unpacks_215 ?_
      refine ax_istore d_Mo_unpacks_216 (by decide) rfl ?_
      exact loop (by omega) ys.length 0 (by omega) (fun j hj => by omega)
  -- byte by byte
  have main : ∀ (f i al : Nat) (pv : Int) (acc : List Int) (iz3 : Nat → Int) (ar3 : Nat → Nat → Int) (h : ax_H), ys.length ≤ i + f → i ≤ ys.length → al ≤ 3 → (0 < al → 0 < acc.length ∧ gx acc (acc.length - 1) = pv) → acc.length ≤ 600 → Bs acc → MoH h iz3 ar3 → Fr MOS h0 h → KI [0, 2] iz iz3 → KA [1, 3, 11] ar ar3 → iz3 0 = acc.length → la (ar3 1) acc → la (ar3 11) ys → upS (ys.drop i) pv al acc = upS ys 0 0 [] → endA (ys.drop i) pv al = endA ys 0 0 → ∀ v4 : Option Value,
      ax_W m_Mo_unpacks 1 39 [some (.ref 47), some (.int (iv (ys.length : Int))), some (.int (iv al)), some (.int (iv i)), v4] [] h (UnQ h0 iz ar ys) := by
    intro f
    induction f with
    | zero =>
      intro i al pv acc iz3 ar3 h hf hi hal hpv hac hba hH hF ki ka e0 h1 h11 hs hen v4
      rw [List.drop_of_length_le (by omega), upS] at hs
      refine ax_iload_n d_Mo_unpacks_39 rfl ?_
      refine ax_iload_n d_Mo_unpacks_40 rfl ?_
      refine az_icmp_ge 197 d_Mo_unpacks_41 (by decide) (by omega) (by omega) (fun hc => ?_) (fun hc => ?_)
      · exact like acc iz3 ar3 h hs.symm hba hac hH hF ki ka e0 h1 h11 _ _ _
      · exfalso
        omega
    | succ f ih =>
      intro i al pv acc iz3 ar3 h hf hi hal hpv hac hba hH hF ki ka e0 h1 h11 hs hen v4
      refine ax_iload_n d_Mo_unpacks_39 rfl ?_
      refine ax_iload_n d_Mo_unpacks_40 rfl ?_
      refine az_icmp_ge 197 d_Mo_unpacks_41 (by decide) (by omega) (by omega) (fun hin => ?_) (fun hin => ?_)
      · rw [List.drop_of_length_le (by omega), upS] at hs
        exact like acc iz3 ar3 h hs.symm hba hac hH hF ki ka e0 h1 h11 _ _ _
      · have hi2 : i < ys.length := by omega
        rw [drop_gx hi2, upS, if_neg (by omega)] at hs
        rw [drop_gx hi2, endA, if_neg (by omega)] at hen
        have a11 : ar3 11 ((i : Int).toNat) = gx ys i := h11 i hi2
        have bi := gx_Bs hbs i
        refine ax_aload_n d_Mo_unpacks_44 rfl ?_
        refine ax_get d_Mo_unpacks_45 fg_Mo_76 (by first | assumption | exact hH.g 0 rfl | exact hH.g 1 rfl | exact hH.g 2 rfl | exact hH.g 3 rfl | exact hH.g 4 rfl | exact hH.g 5 rfl | exact hH.g 6 rfl | exact hH.g 7 rfl | exact hH.g 8 rfl | exact hH.g 9 rfl | exact hH.g 10 rfl | exact hH.g 11 rfl | exact hH.g 12 rfl | exact hH.g 13 rfl | exact hH.g 14 rfl | exact hH.g 15 rfl | exact hH.g 16 rfl | exact hH.g 17 rfl | exact hH.g 18 rfl) (by rfl) ?_
        refine az_sipush _ d_Mo_unpacks_48 (by decide) ?_
        refine az_icmp_ne 56 d_Mo_unpacks_51 (by decide) (by omega) (by omega) (fun h600 => ?_) (fun h600 => ?_)
        · rw [if_pos (by omega)] at hs
          -- the byte is taken
          have rest : ∀ a : Nat, a = (if 0 < al ∧ gx ys i = pv then al + 1 else 1) → ax_W m_Mo_unpacks 1 87 [some (.ref 47), some (.int (iv (ys.length : Int))), some (.int (iv al)), some (.int (iv i)), v4] [.int (iv a)] h (UnQ h0 iz ar ys) := by
            intro a ha
            rw [← ha] at hs hen
            have ha4 : a ≤ 4 := by rw [ha]; split <;> omega
            have hal2 : (acc ++ [gx ys i]).length = acc.length + 1 := by simp
            refine ax_istore_n d_Mo_unpacks_87 (by decide) rfl ?_
            refine ax_aload_n d_Mo_unpacks_88 rfl ?_
            refine ax_get d_Mo_unpacks_89 fg_Mo_7 (by first | assumption | exact hH.g 0 rfl | exact hH.g 1 rfl | exact hH.g 2 rfl | exact hH.g 3 rfl | exact hH.g 4 rfl | exact hH.g 5 rfl | exact hH.g 6 rfl | exact hH.g 7 rfl | exact hH.g 8 rfl | exact hH.g 9 rfl | exact hH.g 10 rfl | exact hH.g 11 rfl | exact hH.g 12 rfl | exact hH.g 13 rfl | exact hH.g 14 rfl | exact hH.g 15 rfl | exact hH.g 16 rfl | exact hH.g 17 rfl | exact hH.g 18 rfl) (by rfl) ?_
            refine ax_aload_n d_Mo_unpacks_92 rfl ?_
            refine ax_dup d_Mo_unpacks_93 rfl ?_
            refine ax_get d_Mo_unpacks_94 fg_Mo_76 (by first | assumption | exact hH.g 0 rfl | exact hH.g 1 rfl | exact hH.g 2 rfl | exact hH.g 3 rfl | exact hH.g 4 rfl | exact hH.g 5 rfl | exact hH.g 6 rfl | exact hH.g 7 rfl | exact hH.g 8 rfl | exact hH.g 9 rfl | exact hH.g 10 rfl | exact hH.g 11 rfl | exact hH.g 12 rfl | exact hH.g 13 rfl | exact hH.g 14 rfl | exact hH.g 15 rfl | exact hH.g 16 rfl | exact hH.g 17 rfl | exact hH.g 18 rfl) (by rfl) ?_
            refine ax_dup_x1 d_Mo_unpacks_97 rfl rfl ?_
            refine az_iconst d_Mo_unpacks_98 ?_
            refine az_iadd d_Mo_unpacks_99 ?_
            first | refine ah_put d_Mo_unpacks_100 fp_Mo_76 hH hF 0 rfl rfl rfl (by first | rfl | decide) (Nat.le_of_ble_eq_true rfl) (fun h hH hF => ?_) | refine ah_put d_Mo_unpacks_100 fp_Mo_76 hH hF 1 rfl rfl rfl (by first | rfl | decide) (Nat.le_of_ble_eq_true rfl) (fun h hH hF => ?_) | refine ah_put d_Mo_unpacks_100 fp_Mo_76 hH hF 2 rfl rfl rfl (by first | rfl | decide) (Nat.le_of_ble_eq_true rfl) (fun h hH hF => ?_) | refine ah_put d_Mo_unpacks_100 fp_Mo_76 hH hF 3 rfl rfl rfl (by first | rfl | decide) (Nat.le_of_ble_eq_true rfl) (fun h hH hF => ?_) | refine ah_put d_Mo_unpacks_100 fp_Mo_76 hH hF 4 rfl rfl rfl (by first | rfl | decide) (Nat.le_of_ble_eq_true rfl) (fun h hH hF => ?_) | refine ah_put d_Mo_unpacks_100 fp_Mo_76 hH hF 5 rfl rfl rfl (by first | rfl | decide) (Nat.le_of_ble_eq_true rfl) (fun h hH hF => ?_) | refine ah_put d_Mo_unpacks_100 fp_Mo_76 hH hF 6 rfl rfl rfl (by first | rfl | decide) (Nat.le_of_ble_eq_true rfl) (fun h hH hF => ?_) | refine ah_put d_Mo_unpacks_100 fp_Mo_76 hH hF 7 rfl rfl rfl (by first | rfl | decide) (Nat.le_of_ble_eq_true rfl) (fun h hH hF => ?_) | refine ah_put d_Mo_unpacks_100 fp_Mo_76 hH hF 8 rfl rfl rfl (by first | rfl | decide) (Nat.le_of_ble_eq_true rfl) (fun h hH hF => ?_) | refine ah_put d_Mo_unpacks_100 fp_Mo_76 hH hF 9 rfl rfl rfl (by first | rfl | decide) (Nat.le_of_ble_eq_true rfl) (fun h hH hF => ?_) | refine ah_put d_Mo_unpacks_100 fp_Mo_76 hH hF 10 rfl rfl rfl (by first | rfl | decide) (Nat.le_of_ble_eq_true rfl) (fun h hH hF => ?_) | refine ah_put d_Mo_unpacks_100 fp_Mo_76 hH hF 11 rfl rfl rfl (by first | rfl | decide) (Nat.le_of_ble_eq_true rfl) (fun h hH hF => ?_) | refine ah_put d_Mo_unpacks_100 fp_Mo_76 hH hF 12 rfl rfl rfl (by first | rfl | decide) (Nat.le_of_ble_eq_true rfl) (fun h hH hF => ?_) | refine ah_put d_Mo_unpacks_100 fp_Mo_76 hH hF 13 rfl rfl rfl (by first | rfl | decide) (Nat.le_of_ble_eq_true rfl) (fun h hH hF => ?_) | refine ah_put d_Mo_unpacks_100 fp_Mo_76 hH hF 14 rfl rfl rfl (by first | rfl | decide) (Nat.le_of_ble_eq_true rfl) (fun h hH hF => ?_) | refine ah_put d_Mo_unpacks_100 fp_Mo_76 hH hF 15 rfl rfl rfl (by first | rfl | decide) (Nat.le_of_ble_eq_true rfl) (fun h hH hF => ?_) | refine ah_put d_Mo_unpacks_100 fp_Mo_76 hH hF 16 rfl rfl rfl (by first | rfl | decide) (Nat.le_of_ble_eq_true rfl) (fun h hH hF => ?_) | refine ah_put d_Mo_unpacks_100 fp_Mo_76 hH hF 17 rfl rfl rfl (by first | rfl | decide) (Nat.le_of_ble_eq_true rfl) (fun h hH hF => ?_) | refine ah_put d_Mo_unpacks_100 fp_Mo_76 hH hF 18 rfl rfl rfl (by first | rfl | decide) (Nat.le_of_ble_eq_true rfl) (fun h hH hF => ?_)
            refine ax_aload_n d_Mo_unpacks_103 rfl ?_
            refine ax_get d_Mo_unpacks_104 fg_Mo_28 (by first | assumption | exact hH.g 0 rfl | exact hH.g 1 rfl | exact hH.g 2 rfl | exact hH.g 3 rfl | exact hH.g 4 rfl | exact hH.g 5 rfl | exact hH.g 6 rfl | exact hH.g 7 rfl | exact hH.g 8 rfl | exact hH.g 9 rfl | exact hH.g 10 rfl | exact hH.g 11 rfl | exact hH.g 12 rfl | exact hH.g 13 rfl | exact hH.g 14 rfl | exact hH.g 15 rfl | exact hH.g 16 rfl | exact hH.g 17 rfl | exact hH.g 18 rfl) (by rfl) ?_
            refine ax_iload_n d_Mo_unpacks_107 rfl ?_
            refine az_iald d_Mo_unpacks_108 (by first | assumption | exact hH.g 0 rfl | exact hH.g 1 rfl | exact hH.g 2 rfl | exact hH.g 3 rfl | exact hH.g 4 rfl | exact hH.g 5 rfl | exact hH.g 6 rfl | exact hH.g 7 rfl | exact hH.g 8 rfl | exact hH.g 9 rfl | exact hH.g 10 rfl | exact hH.g 11 rfl | exact hH.g 12 rfl | exact hH.g 13 rfl | exact hH.g 14 rfl | exact hH.g 15 rfl | exact hH.g 16 rfl | exact hH.g 17 rfl | exact hH.g 18 rfl) (by omega) (by omega) (by omega) ?_
            rw [a11]
            first | refine ah_iast d_Mo_unpacks_109 hH hF 0 rfl rfl (by omega) (by omega) (by omega) (by omega) (fun h hH hF => ?_) | refine ah_iast d_Mo_unpacks_109 hH hF 1 rfl rfl (by omega) (by omega) (by omega) (by omega) (fun h hH hF => ?_) | refine ah_iast d_Mo_unpacks_109 hH hF 2 rfl rfl (by omega) (by omega) (by omega) (by omega) (fun h hH hF => ?_) | refine ah_iast d_Mo_unpacks_109 hH hF 3 rfl rfl (by omega) (by omega) (by omega) (by omega) (fun h hH hF => ?_) | refine ah_iast d_Mo_unpacks_109 hH hF 4 rfl rfl (by omega) (by omega) (by omega) (by omega) (fun h hH hF => ?_) | refine ah_iast d_Mo_unpacks_109 hH hF 5 rfl rfl (by omega) (by omega) (by omega) (by omega) (fun h hH hF => ?_) | refine ah_iast d_Mo_unpacks_109 hH hF 6 rfl rfl (by omega) (by omega) (by omega) (by omega) (fun h hH hF => ?_) | refine ah_iast d_Mo_unpacks_109 hH hF 7 rfl rfl (by omega) (by omega) (by omega) (by omega) (fun h hH hF => ?_) | refine ah_iast d_Mo_unpacks_109 hH hF 8 rfl rfl (by omega) (by omega) (by omega) (by omega) (fun h hH hF => ?_) | refine ah_iast d_Mo_unpacks_109 hH hF 9 rfl rfl (by omega) (by omega) (by omega) (by omega) (fun h hH hF => ?_) | refine ah_iast d_Mo_unpacks_109 hH hF 10 rfl rfl (by omega) (by omega) (by omega) (by omega) (fun h hH hF => ?_) | refine ah_iast d_Mo_unpacks_109 hH hF 11 rfl rfl (by omega) (by omega) (by omega) (by omega) (fun h hH hF => ?_) | refine ah_iast d_Mo_unpacks_109 hH hF 12 rfl rfl (by omega) (by omega) (by omega) (by omega) (fun h hH hF => ?_) | refine ah_iast d_Mo_unpacks_109 hH hF 13 rfl rfl (by omega) (by omega) (by omega) (by omega) (fun h hH hF => ?_) | refine ah_iast d_Mo_unpacks_109 hH hF 14 rfl rfl (by omega) (by omega) (by omega) (by omega) (fun h hH hF => ?_) | refine ah_iast d_Mo_unpacks_109 hH hF 15 rfl rfl (by omega) (by omega) (by omega) (by omega) (fun h hH hF => ?_) | refine ah_iast d_Mo_unpacks_109 hH hF 16 rfl rfl (by omega) (by omega) (by omega) (by omega) (fun h hH hF => ?_) | refine ah_iast d_Mo_unpacks_109 hH hF 17 rfl rfl (by omega) (by omega) (by omega) (by omega) (fun h hH hF => ?_) | refine ah_iast d_Mo_unpacks_109 hH hF 18 rfl rfl (by omega) (by omega) (by omega) (by omega) (fun h hH hF => ?_)
            have hH : MoH h (up iz3 0 (iz3 0 + 1)) (upA ar3 1 (up (ar3 1) (iz3 0).toNat (gx ys i))) := hH
            have ki2 : KI [0, 2] iz (up iz3 0 (iz3 0 + 1)) := ki.up 0 _ rfl
            have ka2 : KA [1, 3, 11] ar (upA ar3 1 (up (ar3 1) (iz3 0).toNat (gx ys i))) := ka.up 1 _ rfl
            have e02 : (up iz3 0 (iz3 0 + 1)) 0 = ((acc ++ [gx ys i]).length : Int) := by show iz3 0 + 1 = _; rw [hal2]; omega
            have h12 : la ((upA ar3 1 (up (ar3 1) (iz3 0).toNat (gx ys i))) 1) (acc ++ [gx ys i]) := la_take_succ h1 (by omega) _
            have h112 : la ((upA ar3 1 (up (ar3 1) (iz3 0).toNat (gx ys i))) 11) ys := h11
            have hba2 : Bs (acc ++ [gx ys i]) := Bs_snoc hba bi
            have hgl : gx (acc ++ [gx ys i]) ((acc ++ [gx ys i]).length - 1) = gx ys i := by rw [hal2, Nat.add_sub_cancel]; exact gx_snoc_at _ _
            generalize up iz3 0 (iz3 0 + 1) = iz4 at hH ki2 e02
            generalize upA ar3 1 (up (ar3 1) (iz3 0).toNat (gx ys i)) = ar4 at hH ka2 h12 h112
            refine ax_iload_n d_Mo_unpacks_110 rfl ?_
            refine az_iconst d_Mo_unpacks_111 ?_
            refine az_icmp_ge 118 d_Mo_unpacks_112 (by decide) (by omega) (by omega) (fun h4 => ?_) (fun h4 => ?_)
            · have ha44 : a = 4 := by omega
              subst ha44
              refine az_iinc d_Mo_unpacks_118 rfl (by decide) rfl ?_
              have ei : (i : Int) + 1 = ((i + 1 : Nat) : Int) := by omega
              rw [ei]
              refine ax_iload_n d_Mo_unpacks_121 rfl ?_
              refine ax_iload_n d_Mo_unpacks_122 rfl ?_
              refine az_icmp_eq 143 d_Mo_unpacks_123 (by decide) (by omega) (by omega) (fun hend => ?_) (fun hend => ?_)
              · -- a count is missing
                have hle : ys.length ≤ i + 1 := by omega
                rw [List.drop_of_length_le hle, upS] at hs
                rw [List.drop_of_length_le hle, endA] at hen
                refine az_iconst d_Mo_unpacks_143 ?_
                refine ax_zret d_Mo_unpacks_144 rfl (by decide) ?_
                refine UnQ_n ?_ hH ki2 ka2 hF
                unfold upT
                rw [← hs]
                refine if_neg (fun q => ?_)
                have := endA_pk (acc ++ [gx ys i]) (acc ++ [gx ys i]).length 0 0 0 (by omega) (fun w => by omega)
                have q2 : pkI (acc ++ [gx ys i]) (acc ++ [gx ys i]).length 0 0 = ys := q
                rw [q2, ← hen] at this
                exact this rfl
              · have hi3 : i + 1 < ys.length := by omega
                rw [drop_gx hi3, upS, if_pos rfl] at hs
                rw [drop_gx hi3, endA, if_pos rfl] at hen
                have bc := gx_Bs hbs (i + 1)
                have c11 : ar4 11 (((i + 1 : Nat) : Int).toNat) = gx ys (i + 1) := h112 (i + 1) hi3
                have d11 : ar4 11 ((((i + 1 : Nat) : Int) - 1).toNat) = gx ys i := by
                  rw [show (((i + 1 : Nat) : Int) - 1).toNat = i by omega]
                  exact h112 i hi2
                refine ax_aload_n d_Mo_unpacks_126 rfl ?_
                refine ax_get d_Mo_unpacks_127 fg_Mo_76 (by first | assumption | exact hH.g 0 rfl | exact hH.g 1 rfl | exact hH.g 2 rfl | exact hH.g 3 rfl | exact hH.g 4 rfl | exact hH.g 5 rfl | exact hH.g 6 rfl | exact hH.g 7 rfl | exact hH.g 8 rfl | exact hH.g 9 rfl | exact hH.g 10 rfl | exact hH.g 11 rfl | exact hH.g 12 rfl | exact hH.g 13 rfl | exact hH.g 14 rfl | exact hH.g 15 rfl | exact hH.g 16 rfl | exact hH.g 17 rfl | exact hH.g 18 rfl) (by rfl) ?_
                refine ax_aload_n d_Mo_unpacks_130 rfl ?_
                refine ax_get d_Mo_unpacks_131 fg_Mo_28 (by first | assumption | exact hH.g 0 rfl | exact hH.g 1 rfl | exact hH.g 2 rfl | exact hH.g 3 rfl | exact hH.g 4 rfl | exact hH.g 5 rfl | exact hH.g 6 rfl | exact hH.g 7 rfl | exact hH.g 8 rfl | exact hH.g 9 rfl | exact hH.g 10 rfl | exact hH.g 11 rfl | exact hH.g 12 rfl | exact hH.g 13 rfl | exact hH.g 14 rfl | exact hH.g 15 rfl | exact hH.g 16 rfl | exact hH.g 17 rfl | exact hH.g 18 rfl) (by rfl) ?_
                refine ax_iload_n d_Mo_unpacks_134 rfl ?_
                refine az_iald d_Mo_unpacks_135 (by first | assumption | exact hH.g 0 rfl | exact hH.g 1 rfl | exact hH.g 2 rfl | exact hH.g 3 rfl | exact hH.g 4 rfl | exact hH.g 5 rfl | exact hH.g 6 rfl | exact hH.g 7 rfl | exact hH.g 8 rfl | exact hH.g 9 rfl | exact hH.g 10 rfl | exact hH.g 11 rfl | exact hH.g 12 rfl | exact hH.g 13 rfl | exact hH.g 14 rfl | exact hH.g 15 rfl | exact hH.g 16 rfl | exact hH.g 17 rfl | exact hH.g 18 rfl) (by omega) (by omega) (by omega) ?_
                rw [c11]
                refine az_iadd d_Mo_unpacks_136 ?_
                refine az_sipush _ d_Mo_unpacks_137 (by decide) ?_
                refine az_icmp_le 145 d_Mo_unpacks_140 (by decide) (by omega) (by omega) (fun hbig => ?_) (fun hbig => ?_)
                · rw [if_pos (by omega)] at hs
                  refine az_iconst d_Mo_unpacks_145 ?_
                  refine ax_istore d_Mo_unpacks_146 (by decide) rfl ?_
                  have more : ∀ (r k : Nat) (iz5 : Nat → Int) (ar5 : Nat → Nat → Int) (h : ax_H), (k : Int) + r = gx ys (i + 1) → MoH h iz5 ar5 → Fr MOS h0 h → KI [0, 2] iz iz5 → KA [1, 3, 11] ar ar5 → iz5 0 = ((acc ++ [gx ys i] ++ List.replicate k (gx ys i)).length : Int) → la (ar5 1) (acc ++ [gx ys i] ++ List.replicate k (gx ys i)) → ar5 11 = ar4 11 →
                      ax_W m_Mo_unpacks 1 148 [some (.ref 47), some (.int (iv (ys.length : Int))), some (.int (iv ((4 : Nat) : Int))), some (.int (iv ((i + 1 : Nat) : Int))), some (.int (iv k))] [] h (UnQ h0 iz ar ys) := by
                    intro r
                    induction r with
                    | zero =>
                      intro k iz5 ar5 h hk hH hF ki ka e0 h1 h115
                      have c115 : ar5 11 (((i + 1 : Nat) : Int).toNat) = gx ys (i + 1) := by rw [h115]; exact c11
                      have hkn : k = (gx ys (i + 1)).toNat := by omega
                      subst hkn
                      have hlen : (acc ++ [gx ys i] ++ List.replicate (gx ys (i + 1)).toNat (gx ys i)).length = acc.length + 1 + (gx ys (i + 1)).toNat := by rw [List.length_append, List.length_replicate, hal2]
                      refine ax_iload d_Mo_unpacks_148 rfl ?_
                      refine ax_aload_n d_Mo_unpacks_150 rfl ?_
                      refine ax_get d_Mo_unpacks_151 fg_Mo_28 (by first | assumption | exact hH.g 0 rfl | exact hH.g 1 rfl | exact hH.g 2 rfl | exact hH.g 3 rfl | exact hH.g 4 rfl | exact hH.g 5 rfl | exact hH.g 6 rfl | exact hH.g 7 rfl | exact hH.g 8 rfl | exact hH.g 9 rfl | exact hH.g 10 rfl | exact hH.g 11 rfl | exact hH.g 12 rfl | exact hH.g 13 rfl | exact hH.g 14 rfl | exact hH.g 15 rfl | exact hH.g 16 rfl | exact hH.g 17 rfl | exact hH.g 18 rfl) (by rfl) ?_
                      refine ax_iload_n d_Mo_unpacks_154 rfl ?_
                      refine az_iald d_Mo_unpacks_155 (by first | assumption | exact hH.g 0 rfl | exact hH.g 1 rfl | exact hH.g 2 rfl | exact hH.g 3 rfl | exact hH.g 4 rfl | exact hH.g 5 rfl | exact hH.g 6 rfl | exact hH.g 7 rfl | exact hH.g 8 rfl | exact hH.g 9 rfl | exact hH.g 10 rfl | exact hH.g 11 rfl | exact hH.g 12 rfl | exact hH.g 13 rfl | exact hH.g 14 rfl | exact hH.g 15 rfl | exact hH.g 16 rfl | exact hH.g 17 rfl | exact hH.g 18 rfl) (by omega) (by omega) (by omega) ?_
                      rw [c115]
                      refine az_icmp_ge 189 d_Mo_unpacks_156 (by decide) (by omega) (by omega) (fun hc => ?_) (fun hc => ?_)
                      · refine az_iconst d_Mo_unpacks_189 ?_
                        refine ax_istore_n d_Mo_unpacks_190 (by decide) rfl ?_
                        refine az_iinc d_Mo_unpacks_191 rfl (by decide) rfl ?_
                        refine ax_goto 39 d_Mo_unpacks_194 (by decide) ?_
                        have ei2 : ((i + 1 : Nat) : Int) + 1 = ((i + 2 : Nat) : Int) := by omega
                        rw [ei2]
                        exact ih (i + 2) 0 (gx ys (i + 1)) _ iz5 ar5 h (by omega) (by omega) (by omega) (fun q => by omega) (by omega) (Bs_rep hba2 bi _) hH hF ki ka e0 h1 (by rw [h115]; exact h112) hs hen _
                      · exfalso
                        omega
                    | succ r ih2 =>
                      intro k iz5 ar5 h hk hH hF ki ka e0 h1 h115
                      have c115 : ar5 11 (((i + 1 : Nat) : Int).toNat) = gx ys (i + 1) := by rw [h115]; exact c11
                      have d115 : ar5 11 ((((i + 1 : Nat) : Int) - 1).toNat) = gx ys i := by rw [h115]; exact d11
                      have hlen : (acc ++ [gx ys i] ++ List.replicate k (gx ys i)).length = acc.length + 1 + k := by rw [List.length_append, List.length_replicate, hal2]
                      refine ax_iload d_Mo_unpacks_148 rfl ?_
                      refine ax_aload_n d_Mo_unpacks_150 rfl ?_
                      refine ax_get d_Mo_unpacks_151 fg_Mo_28 (by first | assumption | exact hH.g 0 rfl | exact hH.g 1 rfl | exact hH.g 2 rfl | exact hH.g 3 rfl | exact hH.g 4 rfl | exact hH.g 5 rfl | exact hH.g 6 rfl | exact hH.g 7 rfl | exact hH.g 8 rfl | exact hH.g 9 rfl | exact hH.g 10 rfl | exact hH.g 11 rfl | exact hH.g 12 rfl | exact hH.g 13 rfl | exact hH.g 14 rfl | exact hH.g 15 rfl | exact hH.g 16 rfl | exact hH.g 17 rfl | exact hH.g 18 rfl) (by rfl) ?_
                      refine ax_iload_n d_Mo_unpacks_154 rfl ?_
                      refine az_iald d_Mo_unpacks_155 (by first | assumption | exact hH.g 0 rfl | exact hH.g 1 rfl | exact hH.g 2 rfl | exact hH.g 3 rfl | exact hH.g 4 rfl | exact hH.g 5 rfl | exact hH.g 6 rfl | exact hH.g 7 rfl | exact hH.g 8 rfl | exact hH.g 9 rfl | exact hH.g 10 rfl | exact hH.g 11 rfl | exact hH.g 12 rfl | exact hH.g 13 rfl | exact hH.g 14 rfl | exact hH.g 15 rfl | exact hH.g 16 rfl | exact hH.g 17 rfl | exact hH.g 18 rfl) (by omega) (by omega) (by omega) ?_
                      rw [c115]
                      refine az_icmp_ge 189 d_Mo_unpacks_156 (by decide) (by omega) (by omega) (fun hc => ?_) (fun hc => ?_)
                      · exfalso
                        omega
                      · refine ax_aload_n d_Mo_unpacks_159 rfl ?_
                        refine ax_get d_Mo_unpacks_160 fg_Mo_7 (by first | assumption | exact hH.g 0 rfl | exact hH.g 1 rfl | exact hH.g 2 rfl | exact hH.g 3 rfl | exact hH.g 4 rfl | exact hH.g 5 rfl | exact hH.g 6 rfl | exact hH.g 7 rfl | exact hH.g 8 rfl | exact hH.g 9 rfl | exact hH.g 10 rfl | exact hH.g 11 rfl | exact hH.g 12 rfl | exact hH.g 13 rfl | exact hH.g 14 rfl | exact hH.g 15 rfl | exact hH.g 16 rfl | exact hH.g 17 rfl | exact hH.g 18 rfl) (by rfl) ?_
                        refine ax_aload_n d_Mo_unpacks_163 rfl ?_
                        refine ax_dup d_Mo_unpacks_164 rfl ?_
                        refine ax_get d_Mo_unpacks_165 fg_Mo_76 (by first | assumption | exact hH.g 0 rfl | exact hH.g 1 rfl | exact hH.g 2 rfl | exact hH.g 3 rfl | exact hH.g 4 rfl | exact hH.g 5 rfl | exact hH.g 6 rfl | exact hH.g 7 rfl | exact hH.g 8 rfl | exact hH.g 9 rfl | exact hH.g 10 rfl | exact hH.g 11 rfl | exact hH.g 12 rfl | exact hH.g 13 rfl | exact hH.g 14 rfl | exact hH.g 15 rfl | exact hH.g 16 rfl | exact hH.g 17 rfl | exact hH.g 18 rfl) (by rfl) ?_
                        refine ax_dup_x1 d_Mo_unpacks_168 rfl rfl ?_
                        refine az_iconst d_Mo_unpacks_169 ?_
                        refine az_iadd d_Mo_unpacks_170 ?_
                        first | refine ah_put d_Mo_unpacks_171 fp_Mo_76 hH hF 0 rfl rfl rfl (by first | rfl | decide) (Nat.le_of_ble_eq_true rfl) (fun h hH hF => ?_) | refine ah_put d_Mo_unpacks_171 fp_Mo_76 hH hF 1 rfl rfl rfl (by first | rfl | decide) (Nat.le_of_ble_eq_true rfl) (fun h hH hF => ?_) | refine ah_put d_Mo_unpacks_171 fp_Mo_76 hH hF 2 rfl rfl rfl (by first | rfl | decide) (Nat.le_of_ble_eq_true rfl) (fun h hH hF => ?_) | refine ah_put d_Mo_unpacks_171 fp_Mo_76 hH hF 3 rfl rfl rfl (by first | rfl | decide) (Nat.le_of_ble_eq_true rfl) (fun h hH hF => ?_) | refine ah_put d_Mo_unpacks_171 fp_Mo_76 hH hF 4 rfl rfl rfl (by first | rfl | decide) (Nat.le_of_ble_eq_true rfl) (fun h hH hF => ?_) | refine ah_put d_Mo_unpacks_171 fp_Mo_76 hH hF 5 rfl rfl rfl (by first | rfl | decide) (Nat.le_of_ble_eq_true rfl) (fun h hH hF => ?_) | refine ah_put d_Mo_unpacks_171 fp_Mo_76 hH hF 6 rfl rfl rfl (by first | rfl | decide) (Nat.le_of_ble_eq_true rfl) (fun h hH hF => ?_) | refine ah_put d_Mo_unpacks_171 fp_Mo_76 hH hF 7 rfl rfl rfl (by first | rfl | decide) (Nat.le_of_ble_eq_true rfl) (fun h hH hF => ?_) | refine ah_put d_Mo_unpacks_171 fp_Mo_76 hH hF 8 rfl rfl rfl (by first | rfl | decide) (Nat.le_of_ble_eq_true rfl) (fun h hH hF => ?_) | refine ah_put d_Mo_unpacks_171 fp_Mo_76 hH hF 9 rfl rfl rfl (by first | rfl | decide) (Nat.le_of_ble_eq_true rfl) (fun h hH hF => ?_) | refine ah_put d_Mo_unpacks_171 fp_Mo_76 hH hF 10 rfl rfl rfl (by first | rfl | decide) (Nat.le_of_ble_eq_true rfl) (fun h hH hF => ?_) | refine ah_put d_Mo_unpacks_171 fp_Mo_76 hH hF 11 rfl rfl rfl (by first | rfl | decide) (Nat.le_of_ble_eq_true rfl) (fun h hH hF => ?_) | refine ah_put d_Mo_unpacks_171 fp_Mo_76 hH hF 12 rfl rfl rfl (by first | rfl | decide) (Nat.le_of_ble_eq_true rfl) (fun h hH hF => ?_) | refine ah_put d_Mo_unpacks_171 fp_Mo_76 hH hF 13 rfl rfl rfl (by first | rfl | decide) (Nat.le_of_ble_eq_true rfl) (fun h hH hF => ?_) | refine ah_put d_Mo_unpacks_171 fp_Mo_76 hH hF 14 rfl rfl rfl (by first | rfl | decide) (Nat.le_of_ble_eq_true rfl) (fun h hH hF => ?_) | refine ah_put d_Mo_unpacks_171 fp_Mo_76 hH hF 15 rfl rfl rfl (by first | rfl | decide) (Nat.le_of_ble_eq_true rfl) (fun h hH hF => ?_) | refine ah_put d_Mo_unpacks_171 fp_Mo_76 hH hF 16 rfl rfl rfl (by first | rfl | decide) (Nat.le_of_ble_eq_true rfl) (fun h hH hF => ?_) | refine ah_put d_Mo_unpacks_171 fp_Mo_76 hH hF 17 rfl rfl rfl (by first | rfl | decide) (Nat.le_of_ble_eq_true rfl) (fun h hH hF => ?_) | refine ah_put d_Mo_unpacks_171 fp_Mo_76 hH hF 18 rfl rfl rfl (by first | rfl | decide) (Nat.le_of_ble_eq_true rfl) (fun h hH hF => ?_)
                        refine ax_aload_n d_Mo_unpacks_174 rfl ?_
                        refine ax_get d_Mo_unpacks_175 fg_Mo_28 (by first | assumption | exact hH.g 0 rfl | exact hH.g 1 rfl | exact hH.g 2 rfl | exact hH.g 3 rfl | exact hH.g 4 rfl | exact hH.g 5 rfl | exact hH.g 6 rfl | exact hH.g 7 rfl | exact hH.g 8 rfl | exact hH.g 9 rfl | exact hH.g 10 rfl | exact hH.g 11 rfl | exact hH.g 12 rfl | exact hH.g 13 rfl | exact hH.g 14 rfl | exact hH.g 15 rfl | exact hH.g 16 rfl | exact hH.g 17 rfl | exact hH.g 18 rfl) (by rfl) ?_
                        refine ax_iload_n d_Mo_unpacks_178 rfl ?_
                        refine az_iconst d_Mo_unpacks_179 ?_
                        refine az_isub d_Mo_unpacks_180 ?_
                        refine az_iald d_Mo_unpacks_181 (by first | assumption | exact hH.g 0 rfl | exact hH.g 1 rfl | exact hH.g 2 rfl | exact hH.g 3 rfl | exact hH.g 4 rfl | exact hH.g 5 rfl | exact hH.g 6 rfl | exact hH.g 7 rfl | exact hH.g 8 rfl | exact hH.g 9 rfl | exact hH.g 10 rfl | exact hH.g 11 rfl | exact hH.g 12 rfl | exact hH.g 13 rfl | exact hH.g 14 rfl | exact hH.g 15 rfl | exact hH.g 16 rfl | exact hH.g 17 rfl | exact hH.g 18 rfl) (by omega) (by omega) (by omega) ?_
                        rw [d115]
                        first | refine ah_iast d_Mo_unpacks_182 hH hF 0 rfl rfl (by omega) (by omega) (by omega) (by omega) (fun h hH hF => ?_) | refine ah_iast d_Mo_unpacks_182 hH hF 1 rfl rfl (by omega) (by omega) (by omega) (by omega) (fun h hH hF => ?_) | refine ah_iast d_Mo_unpacks_182 hH hF 2 rfl rfl (by omega) (by omega) (by omega) (by omega) (fun h hH hF => ?_) | refine ah_iast d_Mo_unpacks_182 hH hF 3 rfl rfl (by omega) (by omega) (by omega) (by omega) (fun h hH hF => ?_) | refine ah_iast d_Mo_unpacks_182 hH hF 4 rfl rfl (by omega) (by omega) (by omega) (by omega) (fun h hH hF => ?_) | refine ah_iast d_Mo_unpacks_182 hH hF 5 rfl rfl (by omega) (by omega) (by omega) (by omega) (fun h hH hF => ?_) | refine ah_iast d_Mo_unpacks_182 hH hF 6 rfl rfl (by omega) (by omega) (by omega) (by omega) (fun h hH hF => ?_) | refine ah_iast d_Mo_unpacks_182 hH hF 7 rfl rfl (by omega) (by omega) (by omega) (by omega) (fun h hH hF => ?_) | refine ah_iast d_Mo_unpacks_182 hH hF 8 rfl rfl (by omega) (by omega) (by omega) (by omega) (fun h hH hF => ?_) | refine ah_iast d_Mo_unpacks_182 hH hF 9 rfl rfl (by omega) (by omega) (by omega) (by omega) (fun h hH hF => ?_) | refine ah_iast d_Mo_unpacks_182 hH hF 10 rfl rfl (by omega) (by omega) (by omega) (by omega) (fun h hH hF => ?_) | refine ah_iast d_Mo_unpacks_182 hH hF 11 rfl rfl (by omega) (by omega) (by omega) (by omega) (fun h hH hF => ?_) | refine ah_iast d_Mo_unpacks_182 hH hF 12 rfl rfl (by omega) (by omega) (by omega) (by omega) (fun h hH hF => ?_) | refine ah_iast d_Mo_unpacks_182 hH hF 13 rfl rfl (by omega) (by omega) (by omega) (by omega) (fun h hH hF => ?_) | refine ah_iast d_Mo_unpacks_182 hH hF 14 rfl rfl (by omega) (by omega) (by omega) (by omega) (fun h hH hF => ?_) | refine ah_iast d_Mo_unpacks_182 hH hF 15 rfl rfl (by omega) (by omega) (by omega) (by omega) (fun h hH hF => ?_) | refine ah_iast d_Mo_unpacks_182 hH hF 16 rfl rfl (by omega) (by omega) (by omega) (by omega) (fun h hH hF => ?_) | refine ah_iast d_Mo_unpacks_182 hH hF 17 rfl rfl (by omega) (by omega) (by omega) (by omega) (fun h hH hF => ?_) | refine ah_iast d_Mo_unpacks_182 hH hF 18 rfl rfl (by omega) (by omega) (by omega) (by omega) (fun h hH hF => ?_)
                        refine az_iinc d_Mo_unpacks_183 rfl (by decide) rfl ?_
                        refine ax_goto 148 d_Mo_unpacks_186 (by decide) ?_
                        refine ih2 (k + 1) (up iz5 0 (iz5 0 + 1)) (upA ar5 1 (up (ar5 1) (iz5 0).toNat (gx ys i))) h (by omega) hH hF (ki.up 0 _ rfl) (ka.up 1 _ rfl) ?_ ?_ h115
                        · show iz5 0 + 1 = _
                          rw [List.length_append, List.length_replicate, hal2]
                          omega
                        · rw [List.replicate_succ', ← List.append_assoc]
                          exact la_take_succ h1 (by omega) _
                  refine more (gx ys (i + 1)).toNat 0 iz4 ar4 h (by omega) hH hF ki2 ka2 ?_ ?_ rfl
                  · rw [List.replicate_zero, List.append_nil]; exact e02
                  · rw [List.replicate_zero, List.append_nil]; exact h12
                · rw [if_neg (by omega)] at hs
                  refine az_iconst d_Mo_unpacks_143 ?_
                  refine ax_zret d_Mo_unpacks_144 rfl (by decide) ?_
                  refine UnQ_n ?_ hH ki2 ka2 hF
                  unfold upT
                  rw [← hs]
            · refine ax_goto 191 d_Mo_unpacks_115 (by decide) ?_
              refine az_iinc d_Mo_unpacks_191 rfl (by decide) rfl ?_
              refine ax_goto 39 d_Mo_unpacks_194 (by decide) ?_
              have ei : (i : Int) + 1 = ((i + 1 : Nat) : Int) := by omega
              exact ih (i + 1) a (gx ys i) _ iz4 ar4 h (by omega) (by omega) (by omega) (fun _ => ⟨by omega, hgl⟩) (by omega) hba2 hH hF ki2 ka2 e02 h12 h112 hs hen _
          refine ax_iload_n d_Mo_unpacks_56 rfl ?_
          refine az_if_le 86 d_Mo_unpacks_57 (by decide) (by first | exact bz_in _ | omega) (fun hal0 => ?_) (fun hal0 => ?_)
          · refine az_iconst d_Mo_unpacks_86 ?_
            exact rest 1 (by rw [if_neg (by omega)])
          · have hpl := hpv (by omega)
            have bp : ar3 1 (iz3 0 - 1).toNat = pv := by
              rw [e0, show ((acc.length : Int) - 1).toNat = acc.length - 1 by omega, h1 _ (by omega)]
              exact hpl.2
            have bpb := gx_Bs hba (acc.length - 1)
            rw [hpl.2] at bpb
            refine ax_aload_n d_Mo_unpacks_60 rfl ?_
            refine ax_get d_Mo_unpacks_61 fg_Mo_28 (by first | assumption | exact hH.g 0 rfl | exact hH.g 1 rfl | exact hH.g 2 rfl | exact hH.g 3 rfl | exact hH.g 4 rfl | exact hH.g 5 rfl | exact hH.g 6 rfl | exact hH.g 7 rfl | exact hH.g 8 rfl | exact hH.g 9 rfl | exact hH.g 10 rfl | exact hH.g 11 rfl | exact hH.g 12 rfl | exact hH.g 13 rfl | exact hH.g 14 rfl | exact hH.g 15 rfl | exact hH.g 16 rfl | exact hH.g 17 rfl | exact hH.g 18 rfl) (by rfl) ?_
            refine ax_iload_n d_Mo_unpacks_64 rfl ?_
            refine az_iald d_Mo_unpacks_65 (by first | assumption | exact hH.g 0 rfl | exact hH.g 1 rfl | exact hH.g 2 rfl | exact hH.g 3 rfl | exact hH.g 4 rfl | exact hH.g 5 rfl | exact hH.g 6 rfl | exact hH.g 7 rfl | exact hH.g 8 rfl | exact hH.g 9 rfl | exact hH.g 10 rfl | exact hH.g 11 rfl | exact hH.g 12 rfl | exact hH.g 13 rfl | exact hH.g 14 rfl | exact hH.g 15 rfl | exact hH.g 16 rfl | exact hH.g 17 rfl | exact hH.g 18 rfl) (by omega) (by omega) (by omega) ?_
            rw [a11]
            refine ax_aload_n d_Mo_unpacks_66 rfl ?_
            refine ax_get d_Mo_unpacks_67 fg_Mo_7 (by first | assumption | exact hH.g 0 rfl | exact hH.g 1 rfl | exact hH.g 2 rfl | exact hH.g 3 rfl | exact hH.g 4 rfl | exact hH.g 5 rfl | exact hH.g 6 rfl | exact hH.g 7 rfl | exact hH.g 8 rfl | exact hH.g 9 rfl | exact hH.g 10 rfl | exact hH.g 11 rfl | exact hH.g 12 rfl | exact hH.g 13 rfl | exact hH.g 14 rfl | exact hH.g 15 rfl | exact hH.g 16 rfl | exact hH.g 17 rfl | exact hH.g 18 rfl) (by rfl) ?_
            refine ax_aload_n d_Mo_unpacks_70 rfl ?_
            refine ax_get d_Mo_unpacks_71 fg_Mo_76 (by first | assumption | exact hH.g 0 rfl | exact hH.g 1 rfl | exact hH.g 2 rfl | exact hH.g 3 rfl | exact hH.g 4 rfl | exact hH.g 5 rfl | exact hH.g 6 rfl | exact hH.g 7 rfl | exact hH.g 8 rfl | exact hH.g 9 rfl | exact hH.g 10 rfl | exact hH.g 11 rfl | exact hH.g 12 rfl | exact hH.g 13 rfl | exact hH.g 14 rfl | exact hH.g 15 rfl | exact hH.g 16 rfl | exact hH.g 17 rfl | exact hH.g 18 rfl) (by rfl) ?_
            refine az_iconst d_Mo_unpacks_74 ?_
            refine az_isub d_Mo_unpacks_75 ?_
            refine az_iald d_Mo_unpacks_76 (by first | assumption | exact hH.g 0 rfl | exact hH.g 1 rfl | exact hH.g 2 rfl | exact hH.g 3 rfl | exact hH.g 4 rfl | exact hH.g 5 rfl | exact hH.g 6 rfl | exact hH.g 7 rfl | exact hH.g 8 rfl | exact hH.g 9 rfl | exact hH.g 10 rfl | exact hH.g 11 rfl | exact hH.g 12 rfl | exact hH.g 13 rfl | exact hH.g 14 rfl | exact hH.g 15 rfl | exact hH.g 16 rfl | exact hH.g 17 rfl | exact hH.g 18 rfl) (by omega) (by omega) (by omega) ?_
            rw [bp]
            refine az_icmp_ne 86 d_Mo_unpacks_77 (by decide) (by omega) (by omega) (fun hne => ?_) (fun hne => ?_)
            · refine az_iconst d_Mo_unpacks_86 ?_
              exact rest 1 (by rw [if_neg (fun q => hne q.2)])
            · refine ax_iload_n d_Mo_unpacks_80 rfl ?_
              refine az_iconst d_Mo_unpacks_81 ?_
              refine az_iadd d_Mo_unpacks_82 ?_
              refine ax_goto 87 d_Mo_unpacks_83 (by decide) ?_
              exact rest (al + 1) (by rw [if_pos ⟨by omega, hne⟩])
        · rw [if_neg (by omega)] at hs
          refine az_iconst d_Mo_unpacks_54 ?_
          refine ax_zret d_Mo_unpacks_55 rfl (by decide) ?_
          refine UnQ_n ?_ hH ki ka hF
          unfold upT
          rw [← hs]
  have copy : ∀ (f k : Nat) (ar1 : Nat → Nat → Int) (h : ax_H), k + f = ys.length → MoH h iz ar1 → Fr MOS h0 h → KA [1, 3, 11] ar ar1 → ar1 3 = ar 3 → (∀ j : Nat, j < k → ar1 11 j = gx ys j) →
      ax_W m_Mo_unpacks 1 7 [some (.ref 47), some (.int (iv (ys.length : Int))), some (.int (iv k)), none, none] [] h (UnQ h0 iz ar ys) := by
    intro f
    induction f with
    | zero =>
      intro k ar1 h he hH hF ka h3 h11
      refine ax_iload_n d_Mo_unpacks_7 rfl ?_
      refine ax_iload_n d_Mo_unpacks_8 rfl ?_
      refine az_icmp_ge 30 d_Mo_unpacks_9 (by decide) (by omega) (by omega) (fun hc => ?_) (fun hc => ?_)
      · refine ax_aload_n d_Mo_unpacks_30 rfl ?_
        refine az_iconst d_Mo_unpacks_31 ?_
        first | refine ah_put d_Mo_unpacks_32 fp_Mo_76 hH hF 0 rfl rfl rfl (by first | rfl | decide) (Nat.le_of_ble_eq_true rfl) (fun h hH hF => ?_) | refine ah_put d_Mo_unpacks_32 fp_Mo_76 hH hF 1 rfl rfl rfl (by first | rfl | decide) (Nat.le_of_ble_eq_true rfl) (fun h hH hF => ?_) | refine ah_put d_Mo_unpacks_32 fp_Mo_76 hH hF 2 rfl rfl rfl (by first | rfl | decide) (Nat.le_of_ble_eq_true rfl) (fun h hH hF => ?_) | refine ah_put d_Mo_unpacks_32 fp_Mo_76 hH hF 3 rfl rfl rfl (by first | rfl | decide) (Nat.le_of_ble_eq_true rfl) (fun h hH hF => ?_) | refine ah_put d_Mo_unpacks_32 fp_Mo_76 hH hF 4 rfl rfl rfl (by first | rfl | decide) (Nat.le_of_ble_eq_true rfl) (fun h hH hF => ?_) | refine ah_put d_Mo_unpacks_32 fp_Mo_76 hH hF 5 rfl rfl rfl (by first | rfl | decide) (Nat.le_of_ble_eq_true rfl) (fun h hH hF => ?_) | refine ah_put d_Mo_unpacks_32 fp_Mo_76 hH hF 6 rfl rfl rfl (by first | rfl | decide) (Nat.le_of_ble_eq_true rfl) (fun h hH hF => ?_) | refine ah_put d_Mo_unpacks_32 fp_Mo_76 hH hF 7 rfl rfl rfl (by first | rfl | decide) (Nat.le_of_ble_eq_true rfl) (fun h hH hF => ?_) | refine ah_put d_Mo_unpacks_32 fp_Mo_76 hH hF 8 rfl rfl rfl (by first | rfl | decide) (Nat.le_of_ble_eq_true rfl) (fun h hH hF => ?_) | refine ah_put d_Mo_unpacks_32 fp_Mo_76 hH hF 9 rfl rfl rfl (by first | rfl | decide) (Nat.le_of_ble_eq_true rfl) (fun h hH hF => ?_) | refine ah_put d_Mo_unpacks_32 fp_Mo_76 hH hF 10 rfl rfl rfl (by first | rfl | decide) (Nat.le_of_ble_eq_true rfl) (fun h hH hF => ?_) | refine ah_put d_Mo_unpacks_32 fp_Mo_76 hH hF 11 rfl rfl rfl (by first | rfl | decide) (Nat.le_of_ble_eq_true rfl) (fun h hH hF => ?_) | refine ah_put d_Mo_unpacks_32 fp_Mo_76 hH hF 12 rfl rfl rfl (by first | rfl | decide) (Nat.le_of_ble_eq_true rfl) (fun h hH hF => ?_) | refine ah_put d_Mo_unpacks_32 fp_Mo_76 hH hF 13 rfl rfl rfl (by first | rfl | decide) (Nat.le_of_ble_eq_true rfl) (fun h hH hF => ?_) | refine ah_put d_Mo_unpacks_32 fp_Mo_76 hH hF 14 rfl rfl rfl (by first | rfl | decide) (Nat.le_of_ble_eq_true rfl) (fun h hH hF => ?_) | refine ah_put d_Mo_unpacks_32 fp_Mo_76 hH hF 15 rfl rfl rfl (by first | rfl | decide) (Nat.le_of_ble_eq_true rfl) (fun h hH hF => ?_) | refine ah_put d_Mo_unpacks_32 fp_Mo_76 hH hF 16 rfl rfl rfl (by first | rfl | decide) (Nat.le_of_ble_eq_true rfl) (fun h hH hF => ?_) | refine ah_put d_Mo_unpacks_32 fp_Mo_76 hH hF 17 rfl rfl rfl (by first | rfl | decide) (Nat.le_of_ble_eq_true rfl) (fun h hH hF => ?_) | refine ah_put d_Mo_unpacks_32 fp_Mo_76 hH hF 18 rfl rfl rfl (by first | rfl | decide) (Nat.le_of_ble_eq_true rfl) (fun h hH hF => ?_)
        refine az_iconst d_Mo_unpacks_35 ?_
        refine ax_istore_n d_Mo_unpacks_36 (by decide) rfl ?_
        refine az_iconst d_Mo_unpacks_37 ?_
        refine ax_istore_n d_Mo_unpacks_38 (by decide) rfl ?_
        exact main ys.length 0 0 0 [] (up iz 0 0) ar1 h (by omega) (by omega) (by omega) (fun q => by omega) (by simp) Bs_nil hH hF (KI.rf.up 0 _ rfl) ka rfl (fun i hi => by simp at hi) (fun j hj => h11 j (by omega)) rfl rfl _
      · exfalso
        omega
    | succ f ih =>
      intro k ar1 h he hH hF ka h3 h11
      refine ax_iload_n d_Mo_unpacks_7 rfl ?_
      refine ax_iload_n d_Mo_unpacks_8 rfl ?_
      refine az_icmp_ge 30 d_Mo_unpacks_9 (by decide) (by omega) (by omega) (fun hc => ?_) (fun hc => ?_)
      · exfalso
        omega
      · refine ax_aload_n d_Mo_unpacks_12 rfl ?_
        refine ax_get d_Mo_unpacks_13 fg_Mo_28 (by first | assumption | exact hH.g 0 rfl | exact hH.g 1 rfl | exact hH.g 2 rfl | exact hH.g 3 rfl | exact hH.g 4 rfl | exact hH.g 5 rfl | exact hH.g 6 rfl | exact hH.g 7 rfl | exact hH.g 8 rfl | exact hH.g 9 rfl | exact hH.g 10 rfl | exact hH.g 11 rfl | exact hH.g 12 rfl | exact hH.g 13 rfl | exact hH.g 14 rfl | exact hH.g 15 rfl | exact hH.g 16 rfl | exact hH.g 17 rfl | exact hH.g 18 rfl) (by rfl) ?_
        refine ax_iload_n d_Mo_unpacks_16 rfl ?_
        refine ax_aload_n d_Mo_unpacks_17 rfl ?_
        refine ax_get d_Mo_unpacks_18 fg_Mo_13 (by first | assumption | exact hH.g 0 rfl | exact hH.g 1 rfl | exact hH.g 2 rfl | exact hH.g 3 rfl | exact hH.g 4 rfl | exact hH.g 5 rfl | exact hH.g 6 rfl | exact hH.g 7 rfl | exact hH.g 8 rfl | exact hH.g 9 rfl | exact hH.g 10 rfl | exact hH.g 11 rfl | exact hH.g 12 rfl | exact hH.g 13 rfl | exact hH.g 14 rfl | exact hH.g 15 rfl | exact hH.g 16 rfl | exact hH.g 17 rfl | exact hH.g 18 rfl) (by rfl) ?_
        refine ax_iload_n d_Mo_unpacks_21 rfl ?_
        refine az_iald d_Mo_unpacks_22 (by first | assumption | exact hH.g 0 rfl | exact hH.g 1 rfl | exact hH.g 2 rfl | exact hH.g 3 rfl | exact hH.g 4 rfl | exact hH.g 5 rfl | exact hH.g 6 rfl | exact hH.g 7 rfl | exact hH.g 8 rfl | exact hH.g 9 rfl | exact hH.g 10 rfl | exact hH.g 11 rfl | exact hH.g 12 rfl | exact hH.g 13 rfl | exact hH.g 14 rfl | exact hH.g 15 rfl | exact hH.g 16 rfl | exact hH.g 17 rfl | exact hH.g 18 rfl) (by omega) (by omega) (by omega) ?_
        first | refine ah_iast d_Mo_unpacks_23 hH hF 0 rfl rfl (by omega) (by omega) (by omega) (by omega) (fun h hH hF => ?_) | refine ah_iast d_Mo_unpacks_23 hH hF 1 rfl rfl (by omega) (by omega) (by omega) (by omega) (fun h hH hF => ?_) | refine ah_iast d_Mo_unpacks_23 hH hF 2 rfl rfl (by omega) (by omega) (by omega) (by omega) (fun h hH hF => ?_) | refine ah_iast d_Mo_unpacks_23 hH hF 3 rfl rfl (by omega) (by omega) (by omega) (by omega) (fun h hH hF => ?_) | refine ah_iast d_Mo_unpacks_23 hH hF 4 rfl rfl (by omega) (by omega) (by omega) (by omega) (fun h hH hF => ?_) | refine ah_iast d_Mo_unpacks_23 hH hF 5 rfl rfl (by omega) (by omega) (by omega) (by omega) (fun h hH hF => ?_) | refine ah_iast d_Mo_unpacks_23 hH hF 6 rfl rfl (by omega) (by omega) (by omega) (by omega) (fun h hH hF => ?_) | refine ah_iast d_Mo_unpacks_23 hH hF 7 rfl rfl (by omega) (by omega) (by omega) (by omega) (fun h hH hF => ?_) | refine ah_iast d_Mo_unpacks_23 hH hF 8 rfl rfl (by omega) (by omega) (by omega) (by omega) (fun h hH hF => ?_) | refine ah_iast d_Mo_unpacks_23 hH hF 9 rfl rfl (by omega) (by omega) (by omega) (by omega) (fun h hH hF => ?_) | refine ah_iast d_Mo_unpacks_23 hH hF 10 rfl rfl (by omega) (by omega) (by omega) (by omega) (fun h hH hF => ?_) | refine ah_iast d_Mo_unpacks_23 hH hF 11 rfl rfl (by omega) (by omega) (by omega) (by omega) (fun h hH hF => ?_) | refine ah_iast d_Mo_unpacks_23 hH hF 12 rfl rfl (by omega) (by omega) (by omega) (by omega) (fun h hH hF => ?_) | refine ah_iast d_Mo_unpacks_23 hH hF 13 rfl rfl (by omega) (by omega) (by omega) (by omega) (fun h hH hF => ?_) | refine ah_iast d_Mo_unpacks_23 hH hF 14 rfl rfl (by omega) (by omega) (by omega) (by omega) (fun h hH hF => ?_) | refine ah_iast d_Mo_unpacks_23 hH hF 15 rfl rfl (by omega) (by omega) (by omega) (by omega) (fun h hH hF => ?_) | refine ah_iast d_Mo_unpacks_23 hH hF 16 rfl rfl (by omega) (by omega) (by omega) (by omega) (fun h hH hF => ?_) | refine ah_iast d_Mo_unpacks_23 hH hF 17 rfl rfl (by omega) (by omega) (by omega) (by omega) (fun h hH hF => ?_) | refine ah_iast d_Mo_unpacks_23 hH hF 18 rfl rfl (by omega) (by omega) (by omega) (by omega) (fun h hH hF => ?_)
        refine az_iinc d_Mo_unpacks_24 rfl (by decide) rfl ?_
        refine ax_goto 7 d_Mo_unpacks_27 (by decide) ?_
        refine ih (k + 1) (upA ar1 11 (up (ar1 11) k (ar1 3 k))) h (by omega) hH hF (ka.up 11 _ rfl) h3 (fun j hj => ?_)
        show up (ar1 11) k (ar1 3 k) j = _
        by_cases e : j = k
        · rw [e, up_at, h3]
          exact hl k (by omega)
        · rw [up_ne e]; exact h11 j (by omega)
  exact copy ys.length 0 ar h0 (by omega) hH hF KA.rf rfl (fun j hj => by omega)
