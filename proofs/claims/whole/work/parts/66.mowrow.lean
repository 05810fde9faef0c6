/-! the reference: writeRow -/
abbrev WKI : List Nat := [12, 14, 23]
abbrev WKA : List Nat := [13, 15, 16, 17, 18, 19, 20, 21, 22]
def WRQ (h0 : ax_H) (iz : Nat → Int) (ar : Nat → Nat → Int) (B : List Nat) (ls : List Int) (r0 : Option Value) (h1 : ax_H) : Prop := r0 = none ∧ (∃ iz1 ar1, MoH h1 iz1 ar1 ∧ KI WKI iz iz1 ∧ KA WKA ar ar1 ∧ MoB iz1 ar1 (B ++ rowB ls)) ∧ Fr MOS h0 h1
theorem CodS.fr {iz iz1 : Nat → Int} {ar ar1 : Nat → Nat → Int} {xs : List Int} {K K' : List Nat} (k : CodS iz ar xs) (hi : KI K iz iz1) (ha : KA K' ar ar1) (h1 : ([12, 14].all fun a => !K.contains a) = true) (h2 : ([15, 16, 17].all fun a => !K'.contains a) = true) : CodS iz1 ar1 xs := by
  have hm : ∀ a ∈ [12, 14], iz1 a = iz a := fun a h => hi a (by have := List.all_eq_true.mp h1 a h; simpa using this)
  have hn : ∀ a ∈ [15, 16, 17], ar1 a = ar a := fun a h => ha a (by have := List.all_eq_true.mp h2 a h; simpa using this)
  unfold CodS at k ⊢
  rw [hm 12 (by decide), hm 14 (by decide), hn 15 (by decide), hn 16 (by decide), hn 17 (by decide)]
  exact k
theorem codeV_le {lg : Nat → Int} {n s : Nat} (hn : n ≤ 258) (hok : okLg lg n) (hs : s < n) : codeV lg n s ≤ 3000000 := by
  have h0 := hok s hs
  have h1 := vb_le lg n hn (lg s).toNat
  have h2 : 2 ^ (lg s).toNat ≤ 2 ^ 12 := Nat.pow_le_pow_right (by decide) (by omega)
  have h3 : (2 : Nat) ^ 12 = 4096 := by decide
  have h4 : 516 * 2 ^ (lg s).toNat ≤ 516 * 4096 := by omega
  have h5 : nlc lg s (lg s) ≤ s := cnt_le _ _
  unfold codeV
  omega
section WROW
variable {h0 : ax_H} {iz : Nat → Int} {ar : Nat → Nat → Int} {B : List Nat} {ls : List Int}
set_option maxRecDepth 100000 in
set_option maxHeartbeats 8000000 in
theorem w_Mo_wcodes (hbs : Bs ls) (mp hd : Int) : ∀ (f i : Nat) (C : List Nat) (iz1 : Nat → Int) (ar1 : Nat → Nat → Int) (h : ax_H), i + f = (sy ls).length → (sy ls).length ≤ 901 → MoH h iz1 ar1 → Fr MOS h0 h → KI WKI iz iz1 → KA WKA ar ar1 → CodS iz1 ar1 ls → MoB iz1 ar1 C → C.length + 12 * f ≤ 20000 → C ++ codB (lgR ls) (vlR ls) ((sy ls).drop i) = B ++ rowB ls →
    ax_W m_Mo_writeRow 3 214 [some (.ref 47), some (.long (lz mp)), none, some (.int (iv hd)), some (.int (iv i))] [] h (WRQ h0 iz ar B ls) := by
  intro f
  induction f with
  | zero =>
    intro i C iz1 ar1 h he hsl hH hF ki ka hcd hC hcap hs
    obtain ⟨k12, k14, k15, k16, k17, hok⟩ := id hcd
    refine ax_iload d_Mo_writeRow_214 rfl ?_
    refine ax_aload_n d_Mo_writeRow_216 rfl ?_
    refine ax_get d_Mo_writeRow_217 fg_Mo_135 (by first | assumption | exact hH.g 0 rfl | exact hH.g 1 rfl | exact hH.g 2 rfl | exact hH.g 3 rfl | exact hH.g 4 rfl | exact hH.g 5 rfl | exact hH.g 6 rfl | exact hH.g 7 rfl | exact hH.g 8 rfl | exact hH.g 9 rfl | exact hH.g 10 rfl | exact hH.g 11 rfl | exact hH.g 12 rfl | exact hH.g 13 rfl | exact hH.g 14 rfl | exact hH.g 15 rfl | exact hH.g 16 rfl | exact hH.g 17 rfl | exact hH.g 18 rfl) (by rfl) ?_
    refine az_icmp_ge 258 d_Mo_writeRow_220 (by decide) (by omega) (by omega) (fun hc => ?_) (fun hc => ?_)
    · refine ax_vret d_Mo_writeRow_258 rfl ?_
      rw [List.drop_of_length_le (by omega), codB, List.append_nil] at hs
      rw [hs] at hC
      exact ⟨rfl, ⟨iz1, ar1, hH, ki, ka, hC⟩, hF⟩
    · exfalso
      omega
  | succ f ih =>
    intro i C iz1 ar1 h he hsl hH hF ki ka hcd hC hcap hs
    obtain ⟨k12, k14, k15, k16, k17, hok⟩ := id hcd
    have hn := nT_le ls
    have hg := sy_in hbs (gx (sy ls) i) (inL_mem ⟨i, by omega, rfl⟩)
    have hg : 0 ≤ gx (sy ls) i ∧ gx (sy ls) i < ((nT ls : Nat) : Int) := hg
    obtain ⟨c, hcc⟩ := Int.eq_ofNat_of_zero_le hg.1
    have hls := hok c (by omega)
    have hcv := codeV_le hn.1 hok (show c < nT ls by omega)
    have es : ar1 15 ((i : Int).toNat) = (c : Int) := (k15 i (by omega)).trans hcc
    have ev : ar1 17 ((c : Int).toNat) = ((codeV (lgR ls) (nT ls) c : Nat) : Int) := k17 c (by omega)
    have el : ar1 16 ((c : Int).toNat) = (((lgR ls c).toNat : Nat) : Int) := by
      have := k16 c (by omega)
      show ar1 16 c = _
      rw [this]
      omega
    rw [drop_gx (show i < (sy ls).length by omega), codB, hcc, show ((c : Nat) : Int).toNat = c by omega, show vlR ls c = ((codeV (lgR ls) (nT ls) c : Nat) : Int) from rfl] at hs
    refine ax_iload d_Mo_writeRow_214 rfl ?_
    refine ax_aload_n d_Mo_writeRow_216 rfl ?_
    refine ax_get d_Mo_writeRow_217 fg_Mo_135 (by first | assumption | exact hH.g 0 rfl | exact hH.g 1 rfl | exact hH.g 2 rfl | exact hH.g 3 rfl | exact hH.g 4 rfl | exact hH.g 5 rfl | exact hH.g 6 rfl | exact hH.g 7 rfl | exact hH.g 8 rfl | exact hH.g 9 rfl | exact hH.g 10 rfl | exact hH.g 11 rfl | exact hH.g 12 rfl | exact hH.g 13 rfl | exact hH.g 14 rfl | exact hH.g 15 rfl | exact hH.g 16 rfl | exact hH.g 17 rfl | exact hH.g 18 rfl) (by rfl) ?_
    refine az_icmp_ge 258 d_Mo_writeRow_220 (by decide) (by omega) (by omega) (fun hc => ?_) (fun hc => ?_)
    · exfalso
      omega
    · refine ax_aload_n d_Mo_writeRow_223 rfl ?_
      refine ax_aload_n d_Mo_writeRow_224 rfl ?_
      refine ax_get d_Mo_writeRow_225 fg_Mo_40 (by first | assumption | exact hH.g 0 rfl | exact hH.g 1 rfl | exact hH.g 2 rfl | exact hH.g 3 rfl | exact hH.g 4 rfl | exact hH.g 5 rfl | exact hH.g 6 rfl | exact hH.g 7 rfl | exact hH.g 8 rfl | exact hH.g 9 rfl | exact hH.g 10 rfl | exact hH.g 11 rfl | exact hH.g 12 rfl | exact hH.g 13 rfl | exact hH.g 14 rfl | exact hH.g 15 rfl | exact hH.g 16 rfl | exact hH.g 17 rfl | exact hH.g 18 rfl) (by rfl) ?_
      refine ax_aload_n d_Mo_writeRow_228 rfl ?_
      refine ax_get d_Mo_writeRow_229 fg_Mo_34 (by first | assumption | exact hH.g 0 rfl | exact hH.g 1 rfl | exact hH.g 2 rfl | exact hH.g 3 rfl | exact hH.g 4 rfl | exact hH.g 5 rfl | exact hH.g 6 rfl | exact hH.g 7 rfl | exact hH.g 8 rfl | exact hH.g 9 rfl | exact hH.g 10 rfl | exact hH.g 11 rfl | exact hH.g 12 rfl | exact hH.g 13 rfl | exact hH.g 14 rfl | exact hH.g 15 rfl | exact hH.g 16 rfl | exact hH.g 17 rfl | exact hH.g 18 rfl) (by rfl) ?_
      refine ax_iload d_Mo_writeRow_232 rfl ?_
      refine az_iald d_Mo_writeRow_234 (by first | assumption | exact hH.g 0 rfl | exact hH.g 1 rfl | exact hH.g 2 rfl | exact hH.g 3 rfl | exact hH.g 4 rfl | exact hH.g 5 rfl | exact hH.g 6 rfl | exact hH.g 7 rfl | exact hH.g 8 rfl | exact hH.g 9 rfl | exact hH.g 10 rfl | exact hH.g 11 rfl | exact hH.g 12 rfl | exact hH.g 13 rfl | exact hH.g 14 rfl | exact hH.g 15 rfl | exact hH.g 16 rfl | exact hH.g 17 rfl | exact hH.g 18 rfl) (by omega) (by omega) (by omega) ?_
      rw [es]
      refine az_iald d_Mo_writeRow_235 (by first | assumption | exact hH.g 0 rfl | exact hH.g 1 rfl | exact hH.g 2 rfl | exact hH.g 3 rfl | exact hH.g 4 rfl | exact hH.g 5 rfl | exact hH.g 6 rfl | exact hH.g 7 rfl | exact hH.g 8 rfl | exact hH.g 9 rfl | exact hH.g 10 rfl | exact hH.g 11 rfl | exact hH.g 12 rfl | exact hH.g 13 rfl | exact hH.g 14 rfl | exact hH.g 15 rfl | exact hH.g 16 rfl | exact hH.g 17 rfl | exact hH.g 18 rfl) (by omega) (by omega) (by omega) ?_
      rw [ev]
      refine aj_i2l d_Mo_writeRow_236 (by omega) ?_
      refine ax_aload_n d_Mo_writeRow_237 rfl ?_
      refine ax_get d_Mo_writeRow_238 fg_Mo_37 (by first | assumption | exact hH.g 0 rfl | exact hH.g 1 rfl | exact hH.g 2 rfl | exact hH.g 3 rfl | exact hH.g 4 rfl | exact hH.g 5 rfl | exact hH.g 6 rfl | exact hH.g 7 rfl | exact hH.g 8 rfl | exact hH.g 9 rfl | exact hH.g 10 rfl | exact hH.g 11 rfl | exact hH.g 12 rfl | exact hH.g 13 rfl | exact hH.g 14 rfl | exact hH.g 15 rfl | exact hH.g 16 rfl | exact hH.g 17 rfl | exact hH.g 18 rfl) (by rfl) ?_
      refine ax_aload_n d_Mo_writeRow_241 rfl ?_
      refine ax_get d_Mo_writeRow_242 fg_Mo_34 (by first | assumption | exact hH.g 0 rfl | exact hH.g 1 rfl | exact hH.g 2 rfl | exact hH.g 3 rfl | exact hH.g 4 rfl | exact hH.g 5 rfl | exact hH.g 6 rfl | exact hH.g 7 rfl | exact hH.g 8 rfl | exact hH.g 9 rfl | exact hH.g 10 rfl | exact hH.g 11 rfl | exact hH.g 12 rfl | exact hH.g 13 rfl | exact hH.g 14 rfl | exact hH.g 15 rfl | exact hH.g 16 rfl | exact hH.g 17 rfl | exact hH.g 18 rfl) (by rfl) ?_
      refine ax_iload d_Mo_writeRow_245 rfl ?_
      refine az_iald d_Mo_writeRow_247 (by first | assumption | exact hH.g 0 rfl | exact hH.g 1 rfl | exact hH.g 2 rfl | exact hH.g 3 rfl | exact hH.g 4 rfl | exact hH.g 5 rfl | exact hH.g 6 rfl | exact hH.g 7 rfl | exact hH.g 8 rfl | exact hH.g 9 rfl | exact hH.g 10 rfl | exact hH.g 11 rfl | exact hH.g 12 rfl | exact hH.g 13 rfl | exact hH.g 14 rfl | exact hH.g 15 rfl | exact hH.g 16 rfl | exact hH.g 17 rfl | exact hH.g 18 rfl) (by omega) (by omega) (by omega) ?_
      rw [es]
      refine az_iald d_Mo_writeRow_248 (by first | assumption | exact hH.g 0 rfl | exact hH.g 1 rfl | exact hH.g 2 rfl | exact hH.g 3 rfl | exact hH.g 4 rfl | exact hH.g 5 rfl | exact hH.g 6 rfl | exact hH.g 7 rfl | exact hH.g 8 rfl | exact hH.g 9 rfl | exact hH.g 10 rfl | exact hH.g 11 rfl | exact hH.g 12 rfl | exact hH.g 13 rfl | exact hH.g 14 rfl | exact hH.g 15 rfl | exact hH.g 16 rfl | exact hH.g 17 rfl | exact hH.g 18 rfl) (by omega) (by omega) (by omega) ?_
      rw [el]
      refine ax_cV2 d_Mo_writeRow_249 v_Mo_put lk_Mo_172 (by first | assumption | exact hH.g 0 rfl | exact hH.g 1 rfl | exact hH.g 2 rfl | exact hH.g 3 rfl | exact hH.g 4 rfl | exact hH.g 5 rfl | exact hH.g 6 rfl | exact hH.g 7 rfl | exact hH.g 8 rfl | exact hH.g 9 rfl | exact hH.g 10 rfl | exact hH.g 11 rfl | exact hH.g 12 rfl | exact hH.g 13 rfl | exact hH.g 14 rfl | exact hH.g 15 rfl | exact hH.g 16 rfl | exact hH.g 17 rfl | exact hH.g 18 rfl) (by decide) (Nat.le_of_ble_eq_true rfl) (cm_v (c_Mo_put hH hC (v := codeV (lgR ls) (nT ls) c) (n := (lgR ls c).toNat) (by omega) (by omega) (by omega)) (fun h5 hq => ?_))
      obtain ⟨⟨iz2, ar2, hH2, ki2, ka2, hC2⟩, hF2⟩ := hq
      have hH := hH2
      refine az_iinc d_Mo_writeRow_252 rfl (by decide) rfl ?_
      refine ax_goto 214 d_Mo_writeRow_255 (by decide) ?_
      refine ih (i + 1) _ iz2 ar2 h5 (by omega) hsl hH2 (hF.tr hF2) (ki.tr (ki2.wide rfl)) (ka.tr (ka2.wide rfl)) (hcd.fr ki2 ka2 rfl rfl) hC2 (by rw [List.length_append, bitsF_len]; omega) ?_
      rw [List.append_assoc]
      exact hs
set_option maxRecDepth 100000 in
set_option maxHeartbeats 16000000 in
theorem w_Mo_wlens (hbs : Bs ls) (hsl : (sy ls).length ≤ 901) (mp : Int) : ∀ (f s : Nat) (hd : Int) (C : List Nat) (iz1 : Nat → Int) (ar1 : Nat → Nat → Int) (h : ax_H), s + f = nT ls → (1 ≤ hd ∧ hd ≤ 12) → MoH h iz1 ar1 → Fr MOS h0 h → KI WKI iz iz1 → KA WKA ar ar1 → CodS iz1 ar1 ls → MoB iz1 ar1 C → C.length + 23 * f + 12 * (sy ls).length ≤ 20000 → C ++ (lenR (lgR ls) f s hd ++ codB (lgR ls) (vlR ls) (sy ls)) = B ++ rowB ls →
    ax_W m_Mo_writeRow 3 138 [some (.ref 47), some (.long (lz mp)), none, some (.int (iv hd)), some (.int (iv s))] [] h (WRQ h0 iz ar B ls) := by
  have hn := nT_le ls
  have enT : ((lst ls).length : Int) + 2 = ((nT ls : Nat) : Int) := by unfold nT; omega
  intro f
  induction f with
  | zero =>
    intro s hd C iz1 ar1 h he hh hH hF ki ka hcd hC hcap hs
    obtain ⟨k12, k14, k15, k16, k17, hok⟩ := id hcd
    refine ax_iload d_Mo_writeRow_138 rfl ?_
    refine ax_aload_n d_Mo_writeRow_140 rfl ?_
    refine ax_get d_Mo_writeRow_141 fg_Mo_138 (by first | assumption | exact hH.g 0 rfl | exact hH.g 1 rfl | exact hH.g 2 rfl | exact hH.g 3 rfl | exact hH.g 4 rfl | exact hH.g 5 rfl | exact hH.g 6 rfl | exact hH.g 7 rfl | exact hH.g 8 rfl | exact hH.g 9 rfl | exact hH.g 10 rfl | exact hH.g 11 rfl | exact hH.g 12 rfl | exact hH.g 13 rfl | exact hH.g 14 rfl | exact hH.g 15 rfl | exact hH.g 16 rfl | exact hH.g 17 rfl | exact hH.g 18 rfl) (by rfl) ?_
    refine az_iconst d_Mo_writeRow_144 ?_
    refine az_iadd d_Mo_writeRow_145 ?_
    refine az_icmp_ge 211 d_Mo_writeRow_146 (by decide) (by omega) (by omega) (fun hc => ?_) (fun hc => ?_)
    · refine az_iconst d_Mo_writeRow_211 ?_
      refine ax_istore d_Mo_writeRow_212 (by decide) rfl ?_
      rw [lenR, List.nil_append] at hs
      exact w_Mo_wcodes hbs mp hd (sy ls).length 0 C iz1 ar1 h (by omega) hsl hH hF ki ka hcd hC (by omega) hs
    · exfalso
      omega
  | succ f ih =>
    intro s hd C iz1 ar1 h he hh hH hF ki ka hcd hC hcap hs
    have hls := hcd.2.2.2.2.2 s (by omega)
    have k12 := hcd.1
    rw [lenR] at hs
    -- lower and lower
    have down : ∀ (k : Nat) (hd2 : Int) (C2 : List Nat) (iz1 : Nat → Int) (ar1 : Nat → Nat → Int) (h : ax_H), hd2 = lgR ls s + k → (1 ≤ hd2 ∧ hd2 ≤ 12) → MoH h iz1 ar1 → Fr MOS h0 h → KI WKI iz iz1 → KA WKA ar ar1 → CodS iz1 ar1 ls → MoB iz1 ar1 C2 → C2.length + 2 * k + 1 + 23 * f + 12 * (sy ls).length ≤ 20000 → C2 ++ (dnB k ++ ([0] ++ (lenR (lgR ls) f (s + 1) (lgR ls s) ++ codB (lgR ls) (vlR ls) (sy ls)))) = B ++ rowB ls →
        ax_W m_Mo_writeRow 3 174 [some (.ref 47), some (.long (lz mp)), none, some (.int (iv hd2)), some (.int (iv s))] [] h (WRQ h0 iz ar B ls) := by
      intro k
      induction k with
      | zero =>
        intro hd2 C2 iz1 ar1 h e2 hh2 hH hF ki ka hcd hC hcap hs
        have er : ar1 16 ((s : Int).toNat) = lgR ls s := hcd.2.2.2.1 s (by omega)
        refine ax_aload_n d_Mo_writeRow_174 rfl ?_
        refine ax_get d_Mo_writeRow_175 fg_Mo_37 (by first | assumption | exact hH.g 0 rfl | exact hH.g 1 rfl | exact hH.g 2 rfl | exact hH.g 3 rfl | exact hH.g 4 rfl | exact hH.g 5 rfl | exact hH.g 6 rfl | exact hH.g 7 rfl | exact hH.g 8 rfl | exact hH.g 9 rfl | exact hH.g 10 rfl | exact hH.g 11 rfl | exact hH.g 12 rfl | exact hH.g 13 rfl | exact hH.g 14 rfl | exact hH.g 15 rfl | exact hH.g 16 rfl | exact hH.g 17 rfl | exact hH.g 18 rfl) (by rfl) ?_
        refine ax_iload d_Mo_writeRow_178 rfl ?_
        refine az_iald d_Mo_writeRow_180 (by first | assumption | exact hH.g 0 rfl | exact hH.g 1 rfl | exact hH.g 2 rfl | exact hH.g 3 rfl | exact hH.g 4 rfl | exact hH.g 5 rfl | exact hH.g 6 rfl | exact hH.g 7 rfl | exact hH.g 8 rfl | exact hH.g 9 rfl | exact hH.g 10 rfl | exact hH.g 11 rfl | exact hH.g 12 rfl | exact hH.g 13 rfl | exact hH.g 14 rfl | exact hH.g 15 rfl | exact hH.g 16 rfl | exact hH.g 17 rfl | exact hH.g 18 rfl) (by omega) (by omega) (by omega) ?_
        rw [er]
        refine ax_iload_n d_Mo_writeRow_181 rfl ?_
        refine az_icmp_ge 199 d_Mo_writeRow_182 (by decide) (by omega) (by omega) (fun hc => ?_) (fun hc => ?_)
        · refine ax_aload_n d_Mo_writeRow_199 rfl ?_
          refine aj_lconst 0 d_Mo_writeRow_200 rfl ?_
          refine az_iconst d_Mo_writeRow_201 ?_
          refine ax_cV2 d_Mo_writeRow_202 v_Mo_put lk_Mo_172 (by first | assumption | exact hH.g 0 rfl | exact hH.g 1 rfl | exact hH.g 2 rfl | exact hH.g 3 rfl | exact hH.g 4 rfl | exact hH.g 5 rfl | exact hH.g 6 rfl | exact hH.g 7 rfl | exact hH.g 8 rfl | exact hH.g 9 rfl | exact hH.g 10 rfl | exact hH.g 11 rfl | exact hH.g 12 rfl | exact hH.g 13 rfl | exact hH.g 14 rfl | exact hH.g 15 rfl | exact hH.g 16 rfl | exact hH.g 17 rfl | exact hH.g 18 rfl) (by decide) (Nat.le_of_ble_eq_true rfl) (cm_v (c_Mo_put hH hC (v := 0) (n := 1) (by omega) (by omega) (by omega)) (fun h5 hq => ?_))
          obtain ⟨⟨iz2, ar2, hH2, ki2, ka2, hC2⟩, hF2⟩ := hq
          refine az_iinc d_Mo_writeRow_205 rfl (by decide) rfl ?_
          refine ax_goto 138 d_Mo_writeRow_208 (by decide) ?_
          have eh : hd2 = lgR ls s := by omega
          subst eh
          refine ih (s + 1) _ _ iz2 ar2 h5 (by omega) hh2 hH2 (hF.tr hF2) (ki.tr (ki2.wide rfl)) (ka.tr (ka2.wide rfl)) (hcd.fr ki2 ka2 rfl rfl) hC2 (by rw [List.length_append, bitsF_len]; omega) ?_
          rw [List.append_assoc]
          exact hs
        · exfalso
          omega
      | succ k ih2 =>
        intro hd2 C2 iz1 ar1 h e2 hh2 hH hF ki ka hcd hC hcap hs
        have er : ar1 16 ((s : Int).toNat) = lgR ls s := hcd.2.2.2.1 s (by omega)
        refine ax_aload_n d_Mo_writeRow_174 rfl ?_
        refine ax_get d_Mo_writeRow_175 fg_Mo_37 (by first | assumption | exact hH.g 0 rfl | exact hH.g 1 rfl | exact hH.g 2 rfl | exact hH.g 3 rfl | exact hH.g 4 rfl | exact hH.g 5 rfl | exact hH.g 6 rfl | exact hH.g 7 rfl | exact hH.g 8 rfl | exact hH.g 9 rfl | exact hH.g 10 rfl | exact hH.g 11 rfl | exact hH.g 12 rfl | exact hH.g 13 rfl | exact hH.g 14 rfl | exact hH.g 15 rfl | exact hH.g 16 rfl | exact hH.g 17 rfl | exact hH.g 18 rfl) (by rfl) ?_
        refine ax_iload d_Mo_writeRow_178 rfl ?_
        refine az_iald d_Mo_writeRow_180 (by first | assumption | exact hH.g 0 rfl | exact hH.g 1 rfl | exact hH.g 2 rfl | exact hH.g 3 rfl | exact hH.g 4 rfl | exact hH.g 5 rfl | exact hH.g 6 rfl | exact hH.g 7 rfl | exact hH.g 8 rfl | exact hH.g 9 rfl | exact hH.g 10 rfl | exact hH.g 11 rfl | exact hH.g 12 rfl | exact hH.g 13 rfl | exact hH.g 14 rfl | exact hH.g 15 rfl | exact hH.g 16 rfl | exact hH.g 17 rfl | exact hH.g 18 rfl) (by omega) (by omega) (by omega) ?_
        rw [er]
        refine ax_iload_n d_Mo_writeRow_181 rfl ?_
        refine az_icmp_ge 199 d_Mo_writeRow_182 (by decide) (by omega) (by omega) (fun hc => ?_) (fun hc => ?_)
        · exfalso
          omega
        · refine ax_aload_n d_Mo_writeRow_185 rfl ?_
          refine aj_ldc2 3 d_Mo_writeRow_186 cn_Mo_189 ?_
          refine az_iconst d_Mo_writeRow_189 ?_
          refine ax_cV2 d_Mo_writeRow_190 v_Mo_put lk_Mo_172 (by first | assumption | exact hH.g 0 rfl | exact hH.g 1 rfl | exact hH.g 2 rfl | exact hH.g 3 rfl | exact hH.g 4 rfl | exact hH.g 5 rfl | exact hH.g 6 rfl | exact hH.g 7 rfl | exact hH.g 8 rfl | exact hH.g 9 rfl | exact hH.g 10 rfl | exact hH.g 11 rfl | exact hH.g 12 rfl | exact hH.g 13 rfl | exact hH.g 14 rfl | exact hH.g 15 rfl | exact hH.g 16 rfl | exact hH.g 17 rfl | exact hH.g 18 rfl) (by decide) (Nat.le_of_ble_eq_true rfl) (cm_v (c_Mo_put hH hC (v := 3) (n := 2) (by omega) (by omega) (by omega)) (fun h5 hq => ?_))
          obtain ⟨⟨iz2, ar2, hH2, ki2, ka2, hC2⟩, hF2⟩ := hq
          refine az_iinc d_Mo_writeRow_193 rfl (by decide) rfl ?_
          refine ax_goto 174 d_Mo_writeRow_196 (by decide) ?_
          refine ih2 (hd2 + -1) _ iz2 ar2 h5 (by omega) (by omega) hH2 (hF.tr hF2) (ki.tr (ki2.wide rfl)) (ka.tr (ka2.wide rfl)) (hcd.fr ki2 ka2 rfl rfl) hC2 (by rw [List.length_append, bitsF_len]; omega) ?_
          rw [List.append_assoc]
          exact hs
    have uph : ∀ (k : Nat) (hd2 : Int) (C2 : List Nat) (iz1 : Nat → Int) (ar1 : Nat → Nat → Int) (h : ax_H), k = (lgR ls s - hd2).toNat → (1 ≤ hd2 ∧ hd2 ≤ 12) → MoH h iz1 ar1 → Fr MOS h0 h → KI WKI iz iz1 → KA WKA ar ar1 → CodS iz1 ar1 ls → MoB iz1 ar1 C2 → C2.length + 2 * k + 2 * (hd2 - lgR ls s).toNat + 1 + 23 * f + 12 * (sy ls).length ≤ 20000 → C2 ++ (upB k ++ (dnB (hd2 - lgR ls s).toNat ++ ([0] ++ (lenR (lgR ls) f (s + 1) (lgR ls s) ++ codB (lgR ls) (vlR ls) (sy ls))))) = B ++ rowB ls →
        ax_W m_Mo_writeRow 3 149 [some (.ref 47), some (.long (lz mp)), none, some (.int (iv hd2)), some (.int (iv s))] [] h (WRQ h0 iz ar B ls) := by
      intro k
      induction k with
      | zero =>
        intro hd2 C2 iz1 ar1 h e2 hh2 hH hF ki ka hcd hC hcap hs
        have er : ar1 16 ((s : Int).toNat) = lgR ls s := hcd.2.2.2.1 s (by omega)
        refine ax_aload_n d_Mo_writeRow_149 rfl ?_
        refine ax_get d_Mo_writeRow_150 fg_Mo_37 (by first | assumption | exact hH.g 0 rfl | exact hH.g 1 rfl | exact hH.g 2 rfl | exact hH.g 3 rfl | exact hH.g 4 rfl | exact hH.g 5 rfl | exact hH.g 6 rfl | exact hH.g 7 rfl | exact hH.g 8 rfl | exact hH.g 9 rfl | exact hH.g 10 rfl | exact hH.g 11 rfl | exact hH.g 12 rfl | exact hH.g 13 rfl | exact hH.g 14 rfl | exact hH.g 15 rfl | exact hH.g 16 rfl | exact hH.g 17 rfl | exact hH.g 18 rfl) (by rfl) ?_
        refine ax_iload d_Mo_writeRow_153 rfl ?_
        refine az_iald d_Mo_writeRow_155 (by first | assumption | exact hH.g 0 rfl | exact hH.g 1 rfl | exact hH.g 2 rfl | exact hH.g 3 rfl | exact hH.g 4 rfl | exact hH.g 5 rfl | exact hH.g 6 rfl | exact hH.g 7 rfl | exact hH.g 8 rfl | exact hH.g 9 rfl | exact hH.g 10 rfl | exact hH.g 11 rfl | exact hH.g 12 rfl | exact hH.g 13 rfl | exact hH.g 14 rfl | exact hH.g 15 rfl | exact hH.g 16 rfl | exact hH.g 17 rfl | exact hH.g 18 rfl) (by omega) (by omega) (by omega) ?_
        rw [er]
        refine ax_iload_n d_Mo_writeRow_156 rfl ?_
        refine az_icmp_le 174 d_Mo_writeRow_157 (by decide) (by omega) (by omega) (fun hc => ?_) (fun hc => ?_)
        · exact down (hd2 - lgR ls s).toNat hd2 C2 iz1 ar1 h (by omega) hh2 hH hF ki ka hcd hC (by omega) hs
        · exfalso
          omega
      | succ k ih2 =>
        intro hd2 C2 iz1 ar1 h e2 hh2 hH hF ki ka hcd hC hcap hs
        have er : ar1 16 ((s : Int).toNat) = lgR ls s := hcd.2.2.2.1 s (by omega)
        refine ax_aload_n d_Mo_writeRow_149 rfl ?_
        refine ax_get d_Mo_writeRow_150 fg_Mo_37 (by first | assumption | exact hH.g 0 rfl | exact hH.g 1 rfl | exact hH.g 2 rfl | exact hH.g 3 rfl | exact hH.g 4 rfl | exact hH.g 5 rfl | exact hH.g 6 rfl | exact hH.g 7 rfl | exact hH.g 8 rfl | exact hH.g 9 rfl | exact hH.g 10 rfl | exact hH.g 11 rfl | exact hH.g 12 rfl | exact hH.g 13 rfl | exact hH.g 14 rfl | exact hH.g 15 rfl | exact hH.g 16 rfl | exact hH.g 17 rfl | exact hH.g 18 rfl) (by rfl) ?_
        refine ax_iload d_Mo_writeRow_153 rfl ?_
        refine az_iald d_Mo_writeRow_155 (by first | assumption | exact hH.g 0 rfl | exact hH.g 1 rfl | exact hH.g 2 rfl | exact hH.g 3 rfl | exact hH.g 4 rfl | exact hH.g 5 rfl | exact hH.g 6 rfl | exact hH.g 7 rfl | exact hH.g 8 rfl | exact hH.g 9 rfl | exact hH.g 10 rfl | exact hH.g 11 rfl | exact hH.g 12 rfl | exact hH.g 13 rfl | exact hH.g 14 rfl | exact hH.g 15 rfl | exact hH.g 16 rfl | exact hH.g 17 rfl | exact hH.g 18 rfl) (by omega) (by omega) (by omega) ?_
        rw [er]
        refine ax_iload_n d_Mo_writeRow_156 rfl ?_
        refine az_icmp_le 174 d_Mo_writeRow_157 (by decide) (by omega) (by omega) (fun hc => ?_) (fun hc => ?_)
        · exfalso
          omega
        · refine ax_aload_n d_Mo_writeRow_160 rfl ?_
          refine aj_ldc2 2 d_Mo_writeRow_161 cn_Mo_122 ?_
          refine az_iconst d_Mo_writeRow_164 ?_
          refine ax_cV2 d_Mo_writeRow_165 v_Mo_put lk_Mo_172 (by first | assumption | exact hH.g 0 rfl | exact hH.g 1 rfl | exact hH.g 2 rfl | exact hH.g 3 rfl | exact hH.g 4 rfl | exact hH.g 5 rfl | exact hH.g 6 rfl | exact hH.g 7 rfl | exact hH.g 8 rfl | exact hH.g 9 rfl | exact hH.g 10 rfl | exact hH.g 11 rfl | exact hH.g 12 rfl | exact hH.g 13 rfl | exact hH.g 14 rfl | exact hH.g 15 rfl | exact hH.g 16 rfl | exact hH.g 17 rfl | exact hH.g 18 rfl) (by decide) (Nat.le_of_ble_eq_true rfl) (cm_v (c_Mo_put hH hC (v := 2) (n := 2) (by omega) (by omega) (by omega)) (fun h5 hq => ?_))
          obtain ⟨⟨iz2, ar2, hH2, ki2, ka2, hC2⟩, hF2⟩ := hq
          refine az_iinc d_Mo_writeRow_168 rfl (by decide) rfl ?_
          refine ax_goto 149 d_Mo_writeRow_171 (by decide) ?_
          have ed : (hd2 + 1 - lgR ls s).toNat = (hd2 - lgR ls s).toNat := by omega
          refine ih2 (hd2 + 1) _ iz2 ar2 h5 (by omega) (by omega) hH2 (hF.tr hF2) (ki.tr (ki2.wide rfl)) (ka.tr (ka2.wide rfl)) (hcd.fr ki2 ka2 rfl rfl) hC2 (by rw [List.length_append, bitsF_len]; omega) ?_
          rw [List.append_assoc, ed]
          exact hs
    refine ax_iload d_Mo_writeRow_138 rfl ?_
    refine ax_aload_n d_Mo_writeRow_140 rfl ?_
    refine ax_get d_Mo_writeRow_141 fg_Mo_138 (by first | assumption | exact hH.g 0 rfl | exact hH.g 1 rfl | exact hH.g 2 rfl | exact hH.g 3 rfl | exact hH.g 4 rfl | exact hH.g 5 rfl | exact hH.g 6 rfl | exact hH.g 7 rfl | exact hH.g 8 rfl | exact hH.g 9 rfl | exact hH.g 10 rfl | exact hH.g 11 rfl | exact hH.g 12 rfl | exact hH.g 13 rfl | exact hH.g 14 rfl | exact hH.g 15 rfl | exact hH.g 16 rfl | exact hH.g 17 rfl | exact hH.g 18 rfl) (by rfl) ?_
    refine az_iconst d_Mo_writeRow_144 ?_
    refine az_iadd d_Mo_writeRow_145 ?_
    refine az_icmp_ge 211 d_Mo_writeRow_146 (by decide) (by omega) (by omega) (fun hc => ?_) (fun hc => ?_)
    · exfalso
      omega
    · refine uph _ hd C iz1 ar1 h rfl hh hH hF ki ka hcd hC (by omega) ?_
      rw [adjB, List.append_assoc, List.append_assoc, List.append_assoc] at hs
      exact hs
set_option maxRecDepth 100000 in
set_option maxHeartbeats 8000000 in
theorem w_Mo_wmid {iz1 : Nat → Int} {ar1 : Nat → Nat → Int} {h : ax_H} {C : List Nat} (mp g : Int) (v4 : Option Value) (hH : MoH h iz1 ar1) (hF : Fr MOS h0 h) (ki : KI WKI iz iz1) (ka : KA WKA ar ar1) (hR : RwS iz1 ar1 ls) (hC : MoB iz1 ar1 C) (hcap : C.length + 4 + 23 * nT ls + 12 * (sy ls).length ≤ 20000) (hs : C ++ (lenB (lgR ls) (nT ls) ++ codB (lgR ls) (vlR ls) (sy ls)) = B ++ rowB ls) :
    ax_W m_Mo_writeRow 3 113 [some (.ref 47), some (.long (lz mp)), none, some (.int (iv g)), v4] [] h (WRQ h0 iz ar B ls) := by
  have hn := nT_le ls
  have enT : ((lst ls).length : Int) + 2 = ((nT ls : Nat) : Int) := by unfold nT; omega
  have hsl := sy_len ls
  have hl9 := hR.2.1
  refine ax_aload_n d_Mo_writeRow_113 rfl ?_
  refine ax_cV0 d_Mo_writeRow_114 v_Mo_makeSymbols lk_Mo_160 (by first | assumption | exact hH.g 0 rfl | exact hH.g 1 rfl | exact hH.g 2 rfl | exact hH.g 3 rfl | exact hH.g 4 rfl | exact hH.g 5 rfl | exact hH.g 6 rfl | exact hH.g 7 rfl | exact hH.g 8 rfl | exact hH.g 9 rfl | exact hH.g 10 rfl | exact hH.g 11 rfl | exact hH.g 12 rfl | exact hH.g 13 rfl | exact hH.g 14 rfl | exact hH.g 15 rfl | exact hH.g 16 rfl | exact hH.g 17 rfl | exact hH.g 18 rfl) (by decide) (Nat.le_of_ble_eq_true rfl) (cm_v (c_Mo_makeSymbols hH hR) (fun h1 hq => ?_))
  obtain ⟨⟨iz2, ar2, hH2, ki2, ka2, e12, e14, hss⟩, hF2⟩ := hq
  have hH := hH2
  refine ax_aload_n d_Mo_writeRow_117 rfl ?_
  refine ax_cV0 d_Mo_writeRow_118 v_Mo_makeLengths lk_Mo_163 (by first | assumption | exact hH.g 0 rfl | exact hH.g 1 rfl | exact hH.g 2 rfl | exact hH.g 3 rfl | exact hH.g 4 rfl | exact hH.g 5 rfl | exact hH.g 6 rfl | exact hH.g 7 rfl | exact hH.g 8 rfl | exact hH.g 9 rfl | exact hH.g 10 rfl | exact hH.g 11 rfl | exact hH.g 12 rfl | exact hH.g 13 rfl | exact hH.g 14 rfl | exact hH.g 15 rfl | exact hH.g 16 rfl | exact hH.g 17 rfl | exact hH.g 18 rfl) (by decide) (Nat.le_of_ble_eq_true rfl) (cm_v (c_Mo_makeLengths hH (n := nT ls) hn.2 hn.1 (by omega) e14 (by omega) hss (sy_in hR.2.2.2)) (fun h3 hq => ?_))
  obtain ⟨⟨ar3, hH3, ka3, g16, g17, hok⟩, hF3⟩ := hq
  have hH := hH3
  have hc3 : CodS iz2 ar3 ls := ⟨e12, e14, by rw [ka3 15 rfl]; exact hss, g16, g17, hok⟩
  have hC3 : MoB iz2 ar3 C := (hC.fr ki2 ka2 rfl rfl).fr (KI.rf (K := [])) ka3 rfl rfl
  have ki3 : KI WKI iz iz2 := ki.tr (ki2.wide rfl)
  have ka3' : KA WKA ar ar3 := (ka.tr (ka2.wide rfl)).tr (ka3.wide rfl)
  have hl0 := hok 0 (by omega)
  have hl0 : 1 ≤ lgR ls 0 ∧ lgR ls 0 ≤ 12 := hl0
  have er : ar3 16 (Int.toNat 0) = (((lgR ls 0).toNat : Nat) : Int) := by
    have := g16 0 (by omega)
    show ar3 16 0 = _
    rw [this]
    show lgR ls 0 = _
    omega
  refine ax_aload_n d_Mo_writeRow_121 rfl ?_
  refine ax_get d_Mo_writeRow_122 fg_Mo_37 (by first | assumption | exact hH.g 0 rfl | exact hH.g 1 rfl | exact hH.g 2 rfl | exact hH.g 3 rfl | exact hH.g 4 rfl | exact hH.g 5 rfl | exact hH.g 6 rfl | exact hH.g 7 rfl | exact hH.g 8 rfl | exact hH.g 9 rfl | exact hH.g 10 rfl | exact hH.g 11 rfl | exact hH.g 12 rfl | exact hH.g 13 rfl | exact hH.g 14 rfl | exact hH.g 15 rfl | exact hH.g 16 rfl | exact hH.g 17 rfl | exact hH.g 18 rfl) (by rfl) ?_
  refine az_iconst d_Mo_writeRow_125 ?_
  refine az_iald d_Mo_writeRow_126 (by first | assumption | exact hH.g 0 rfl | exact hH.g 1 rfl | exact hH.g 2 rfl | exact hH.g 3 rfl | exact hH.g 4 rfl | exact hH.g 5 rfl | exact hH.g 6 rfl | exact hH.g 7 rfl | exact hH.g 8 rfl | exact hH.g 9 rfl | exact hH.g 10 rfl | exact hH.g 11 rfl | exact hH.g 12 rfl | exact hH.g 13 rfl | exact hH.g 14 rfl | exact hH.g 15 rfl | exact hH.g 16 rfl | exact hH.g 17 rfl | exact hH.g 18 rfl) (by omega) (by omega) (by omega) ?_
  rw [er]
  refine ax_istore_n d_Mo_writeRow_127 (by decide) rfl ?_
  refine ax_aload_n d_Mo_writeRow_128 rfl ?_
  refine ax_iload_n d_Mo_writeRow_129 rfl ?_
  refine aj_i2l d_Mo_writeRow_130 (by omega) ?_
  refine az_iconst d_Mo_writeRow_131 ?_
  refine ax_cV2 d_Mo_writeRow_132 v_Mo_put lk_Mo_172 (by first | assumption | exact hH.g 0 rfl | exact hH.g 1 rfl | exact hH.g 2 rfl | exact hH.g 3 rfl | exact hH.g 4 rfl | exact hH.g 5 rfl | exact hH.g 6 rfl | exact hH.g 7 rfl | exact hH.g 8 rfl | exact hH.g 9 rfl | exact hH.g 10 rfl | exact hH.g 11 rfl | exact hH.g 12 rfl | exact hH.g 13 rfl | exact hH.g 14 rfl | exact hH.g 15 rfl | exact hH.g 16 rfl | exact hH.g 17 rfl | exact hH.g 18 rfl) (by decide) (Nat.le_of_ble_eq_true rfl) (cm_v (c_Mo_put hH hC3 (v := (lgR ls 0).toNat) (n := 4) (by omega) (by omega) (by omega)) (fun h5 hq => ?_))
  obtain ⟨⟨iz4, ar4, hH4, ki4, ka4, hC4⟩, hF4⟩ := hq
  refine az_iconst d_Mo_writeRow_135 ?_
  refine ax_istore d_Mo_writeRow_136 (by decide) rfl ?_
  refine w_Mo_wlens hR.2.2.2 (by omega) mp (nT ls) 0 _ _ iz4 ar4 h5 (by omega) (by omega) hH4 (((hF.tr hF2).tr hF3).tr hF4) (ki3.tr (ki4.wide rfl)) (ka3'.tr (ka4.wide rfl)) (hc3.fr ki4 ka4 rfl rfl) hC4 (by rw [List.length_append, bitsF_len]; omega) ?_
  rw [show (((lgR ls 0).toNat : Nat) : Int) = lgR ls 0 by omega, List.append_assoc, ← List.append_assoc (bs := lenR _ _ _ _)]
  exact hs
set_option maxRecDepth 100000 in
set_option maxHeartbeats 8000000 in
theorem w_Mo_wgroups {m : Nat} (hm : m < 65536) (hbt : ∀ p : Nat, p < 16 → bt (m : Int) p = anyG ls (15 - p)) : ∀ (f g : Nat) (C : List Nat) (iz1 : Nat → Int) (ar1 : Nat → Nat → Int) (h : ax_H), g + f = 16 → MoH h iz1 ar1 → Fr MOS h0 h → KI WKI iz iz1 → KA WKA ar ar1 → RwS iz1 ar1 ls → MoB iz1 ar1 C → C.length + 16 * f + 4 + 23 * nT ls + 12 * (sy ls).length ≤ 20000 → C ++ (gB ls f g ++ (lenB (lgR ls) (nT ls) ++ codB (lgR ls) (vlR ls) (sy ls))) = B ++ rowB ls → ∀ v4 : Option Value,
    ax_W m_Mo_writeRow 3 45 [some (.ref 47), some (.long (lz (m : Int))), none, some (.int (iv g)), v4] [] h (WRQ h0 iz ar B ls) := by
  intro f
  induction f with
  | zero =>
    intro g C iz1 ar1 h he hH hF ki ka hR hC hcap hs v4
    rw [gB, List.nil_append] at hs
    refine ax_iload_n d_Mo_writeRow_45 rfl ?_
    refine az_bipush _ d_Mo_writeRow_46 (by decide) ?_
    refine az_icmp_ge 113 d_Mo_writeRow_48 (by decide) (by omega) (by omega) (fun hc => ?_) (fun hc => ?_)
    · exact w_Mo_wmid m g v4 hH hF ki ka hR hC (by omega) hs
    · exfalso
      omega
  | succ f ih =>
    intro g C iz1 ar1 h he hH hF ki ka hR hC hcap hs v4
    have hag := anyG_lt ls g
    have hcm := cmp3_sp (anyG ls g : Int) 0
    have e15 : (15 : Int) - (g : Int) = ((15 - g : Nat) : Int) := by omega
    have hbit : lzand (lzshr (m : Int) ((15 - g : Nat) : Int)) 1 = (anyG ls g : Int) := by
      rw [lz_bit (by omega) (by omega), hbt (15 - g) (by omega), show 15 - (15 - g) = g by omega]
    rw [gB] at hs
    refine ax_iload_n d_Mo_writeRow_45 rfl ?_
    refine az_bipush _ d_Mo_writeRow_46 (by decide) ?_
    refine az_icmp_ge 113 d_Mo_writeRow_48 (by decide) (by omega) (by omega) (fun hc => ?_) (fun hc => ?_)
    · exfalso
      omega
    · refine ax_lload_n d_Mo_writeRow_51 rfl ?_
      refine az_bipush _ d_Mo_writeRow_52 (by decide) ?_
      refine ax_iload_n d_Mo_writeRow_54 rfl ?_
      refine az_isub d_Mo_writeRow_55 ?_
      rw [e15]
      refine aj_lshr d_Mo_writeRow_56 ?_
      refine aj_lconst 1 d_Mo_writeRow_57 rfl ?_
      refine aj_land d_Mo_writeRow_58 ?_
      rw [hbit]
      refine aj_lconst 0 d_Mo_writeRow_59 rfl ?_
      refine aj_lcmp d_Mo_writeRow_60 (by omega) (by omega) ?_
      refine az_if_ne 67 d_Mo_writeRow_61 (by decide) (by first | exact bz_in _ | omega) (fun hz => ?_) (fun hz => ?_)
      · have ha1 : anyG ls g = 1 := by omega
        rw [if_pos ha1] at hs
        refine az_iconst d_Mo_writeRow_67 ?_
        refine ax_istore d_Mo_writeRow_68 (by decide) rfl ?_
        have inner : ∀ (r b : Nat) (C : List Nat) (iz1 : Nat → Int) (ar1 : Nat → Nat → Int) (h : ax_H), b + r = 16 → MoH h iz1 ar1 → Fr MOS h0 h → KI WKI iz iz1 → KA WKA ar ar1 → RwS iz1 ar1 ls → MoB iz1 ar1 C → C.length + r + 16 * f + 4 + 23 * nT ls + 12 * (sy ls).length ≤ 20000 → C ++ (bitsF (fun p => mkN ls (16 * g + (15 - p))) r ++ (gB ls f (g + 1) ++ (lenB (lgR ls) (nT ls) ++ codB (lgR ls) (vlR ls) (sy ls)))) = B ++ rowB ls →
            ax_W m_Mo_writeRow 3 70 [some (.ref 47), some (.long (lz (m : Int))), none, some (.int (iv g)), some (.int (iv b))] [] h (WRQ h0 iz ar B ls) := by
          intro r
          induction r with
          | zero =>
            intro b C iz1 ar1 h he2 hH hF ki ka hR hC hcap hs
            rw [bitsF, List.nil_append] at hs
            refine ax_iload d_Mo_writeRow_70 rfl ?_
            refine az_bipush _ d_Mo_writeRow_72 (by decide) ?_
            refine az_icmp_ge 107 d_Mo_writeRow_74 (by decide) (by omega) (by omega) (fun hc => ?_) (fun hc => ?_)
            · refine az_iinc d_Mo_writeRow_107 rfl (by decide) rfl ?_
              refine ax_goto 45 d_Mo_writeRow_110 (by decide) ?_
              exact ih (g + 1) C iz1 ar1 h (by omega) hH hF ki ka hR hC (by omega) hs _
            · exfalso
              omega
          | succ r ih2 =>
            intro b C iz1 ar1 h he2 hH hF ki ka hR hC hcap hs
            have hs : C ++ (mkN ls (16 * g + (15 - r)) :: bitsF (fun p => mkN ls (16 * g + (15 - p))) r ++ (gB ls f (g + 1) ++ (lenB (lgR ls) (nT ls) ++ codB (lgR ls) (vlR ls) (sy ls)))) = B ++ rowB ls := hs
            have eb : 16 * g + (15 - r) = 16 * g + b := by omega
            rw [eb] at hs
            have ei : (16 : Int) * (g : Int) + (b : Int) = ((16 * g + b : Nat) : Int) := by omega
            have fin : ∀ v : Nat, v = mkN ls (16 * g + b) → ax_W m_Mo_writeRow 3 97 [some (.ref 47), some (.long (lz (m : Int))), none, some (.int (iv g)), some (.int (iv b))] [.long (lz (v : Int)), .ref 47] h (WRQ h0 iz ar B ls) := by
              intro v hv
              have hv2 := mkN_lt ls (16 * g + b)
              refine az_iconst d_Mo_writeRow_97 ?_
              refine ax_cV2 d_Mo_writeRow_98 v_Mo_put lk_Mo_172 (by first | assumption | exact hH.g 0 rfl | exact hH.g 1 rfl | exact hH.g 2 rfl | exact hH.g 3 rfl | exact hH.g 4 rfl | exact hH.g 5 rfl | exact hH.g 6 rfl | exact hH.g 7 rfl | exact hH.g 8 rfl | exact hH.g 9 rfl | exact hH.g 10 rfl | exact hH.g 11 rfl | exact hH.g 12 rfl | exact hH.g 13 rfl | exact hH.g 14 rfl | exact hH.g 15 rfl | exact hH.g 16 rfl | exact hH.g 17 rfl | exact hH.g 18 rfl) (by decide) (Nat.le_of_ble_eq_true rfl) (cm_v (c_Mo_put hH hC (v := v) (n := 1) (by omega) (by omega) (by omega)) (fun h5 hq => ?_))
              obtain ⟨⟨iz2, ar2, hH2, ki2, ka2, hC2⟩, hF2⟩ := hq
              have e1 : bitsV (v : Int) 1 = [mkN ls (16 * g + b)] := by
                show [bt (v : Int) 0] = _
                rw [bt_nat, ← hv, Nat.pow_zero, Nat.div_one, Nat.mod_eq_of_lt (by omega)]
              rw [e1] at hC2
              refine az_iinc d_Mo_writeRow_101 rfl (by decide) rfl ?_
              refine ax_goto 70 d_Mo_writeRow_104 (by decide) ?_
              refine ih2 (b + 1) _ iz2 ar2 h5 (by omega) hH2 (hF.tr hF2) (ki.tr (ki2.wide rfl)) (ka.tr (ka2.wide rfl)) (hR.fr ki2 ka2 rfl rfl) hC2 (by rw [List.length_append]; simp; omega) ?_
              rw [List.append_assoc]
              exact hs
            refine ax_iload d_Mo_writeRow_70 rfl ?_
            refine az_bipush _ d_Mo_writeRow_72 (by decide) ?_
            refine az_icmp_ge 107 d_Mo_writeRow_74 (by decide) (by omega) (by omega) (fun hc => ?_) (fun hc => ?_)
            · exfalso
              omega
            · refine ax_aload_n d_Mo_writeRow_77 rfl ?_
              refine ax_aload_n d_Mo_writeRow_78 rfl ?_
              refine az_bipush _ d_Mo_writeRow_79 (by decide) ?_
              refine ax_iload_n d_Mo_writeRow_81 rfl ?_
              refine az_imul d_Mo_writeRow_82 ?_
              refine ax_iload d_Mo_writeRow_83 rfl ?_
              refine az_iadd d_Mo_writeRow_85 ?_
              rw [ei]
              refine ax_cV1 d_Mo_writeRow_86 v_Mo_rowHas lk_Mo_141 (by first | assumption | exact hH.g 0 rfl | exact hH.g 1 rfl | exact hH.g 2 rfl | exact hH.g 3 rfl | exact hH.g 4 rfl | exact hH.g 5 rfl | exact hH.g 6 rfl | exact hH.g 7 rfl | exact hH.g 8 rfl | exact hH.g 9 rfl | exact hH.g 10 rfl | exact hH.g 11 rfl | exact hH.g 12 rfl | exact hH.g 13 rfl | exact hH.g 14 rfl | exact hH.g 15 rfl | exact hH.g 16 rfl | exact hH.g 17 rfl | exact hH.g 18 rfl) (by decide) (Nat.le_of_ble_eq_true rfl) (cm_z (c_Mo_rowHas hH hR (b := ((16 * g + b : Nat) : Int)) (by omega)) (fun z h3 hq => ?_))
              obtain ⟨rfl, rfl⟩ := hq
              refine az_if_eq 96 d_Mo_writeRow_89 (by decide) (bz_in _) (fun hcb => ?_) (fun hcb => ?_)
              · have hn := bz_f hcb
                refine aj_lconst 0 d_Mo_writeRow_96 rfl ?_
                exact fin 0 (by unfold mkN; rw [hn, if_neg (by decide)])
              · have hn := bz_t hcb
                refine aj_lconst 1 d_Mo_writeRow_92 rfl ?_
                refine ax_goto 97 d_Mo_writeRow_93 (by decide) ?_
                exact fin 1 (by unfold mkN; rw [hn, if_pos rfl])
        refine inner 16 0 C iz1 ar1 h (by omega) hH hF ki ka hR hC (by omega) ?_
        rw [List.append_assoc] at hs
        exact hs
      · have ha1 : ¬ anyG ls g = 1 := by omega
        rw [if_neg ha1, List.nil_append] at hs
        refine ax_goto 107 d_Mo_writeRow_64 (by decide) ?_
        refine az_iinc d_Mo_writeRow_107 rfl (by decide) rfl ?_
        refine ax_goto 45 d_Mo_writeRow_110 (by decide) ?_
        exact ih (g + 1) C iz1 ar1 h (by omega) hH hF ki ka hR hC (by omega) hs _
end WROW
set_option maxRecDepth 100000 in
set_option maxHeartbeats 8000000 in
theorem c_Mo_writeRow {h0 : ax_H} {iz : Nat → Int} {ar : Nat → Nat → Int} {B : List Nat} {ls : List Int} (hH : MoH h0 iz ar) (hR : RwS iz ar ls) (hB : MoB iz ar B) (hcap : B.length + 276 + 23 * nT ls + 12 * (sy ls).length ≤ 20000) : ax_Cv m_Mo_writeRow 3 [.ref 47] h0 (fun h1 => (∃ iz1 ar1, MoH h1 iz1 ar1 ∧ KI WKI iz iz1 ∧ KA WKA ar ar1 ∧ MoB iz1 ar1 (B ++ rowB ls)) ∧ Fr MOS h0 h1) := by
  have hF : Fr MOS h0 h0 := Fr.rf
  refine ax_enter [some (.ref 47), none, none, none, none] rfl (Nat.le_of_ble_eq_true rfl) (by decide) ?_
  refine aj_lconst 0 d_Mo_writeRow_0 rfl ?_
  refine ax_lstore_n d_Mo_writeRow_1 (by decide) rfl ?_
  refine az_iconst d_Mo_writeRow_2 ?_
  refine ax_istore_n d_Mo_writeRow_3 (by decide) rfl ?_
  have key : ∀ (f b m : Nat), b + f = 256 → m < 65536 → (∀ p : Nat, p < 16 → (bt (m : Int) p = 1 ↔ ∃ j : Nat, j < b ∧ j / 16 = 15 - p ∧ mkN ls j = 1)) →
      ax_W m_Mo_writeRow 3 4 [some (.ref 47), some (.long (lz (m : Int))), none, some (.int (iv b)), none] [] h0 (WRQ h0 iz ar B ls) := by
    intro f
    induction f with
    | zero =>
      intro b m he hm hbt
      have hb : b = 256 := by omega
      subst hb
      have hbt2 : ∀ p : Nat, p < 16 → bt (m : Int) p = anyG ls (15 - p) := by
        intro p hp
        have h1 := hbt p hp
        have h2 := anyG_iff ls (15 - p)
        have h3 := bt_lt (m : Int) p
        have h4 := anyG_lt ls (15 - p)
        have h5 : bt (m : Int) p = 1 ↔ anyG ls (15 - p) = 1 := by
          rw [h1, h2]
          constructor
          · rintro ⟨j, j1, j2, j3⟩
            exact ⟨j % 16, by omega, by rw [show 16 * (15 - p) + j % 16 = j by omega]; exact j3⟩
          · rintro ⟨i, i1, i2⟩
            exact ⟨16 * (15 - p) + i, by omega, by omega, i2⟩
        omega
      refine ax_iload_n d_Mo_writeRow_4 rfl ?_
      refine az_sipush _ d_Mo_writeRow_5 (by decide) ?_
      refine az_icmp_ge 36 d_Mo_writeRow_8 (by decide) (by omega) (by omega) (fun hc => ?_) (fun hc => ?_)
      · refine ax_aload_n d_Mo_writeRow_36 rfl ?_
        refine ax_lload_n d_Mo_writeRow_37 rfl ?_
        refine az_bipush _ d_Mo_writeRow_38 (by decide) ?_
        refine ax_cV2 d_Mo_writeRow_40 v_Mo_put lk_Mo_172 (by first | assumption | exact hH.g 0 rfl | exact hH.g 1 rfl | exact hH.g 2 rfl | exact hH.g 3 rfl | exact hH.g 4 rfl | exact hH.g 5 rfl | exact hH.g 6 rfl | exact hH.g 7 rfl | exact hH.g 8 rfl | exact hH.g 9 rfl | exact hH.g 10 rfl | exact hH.g 11 rfl | exact hH.g 12 rfl | exact hH.g 13 rfl | exact hH.g 14 rfl | exact hH.g 15 rfl | exact hH.g 16 rfl | exact hH.g 17 rfl | exact hH.g 18 rfl) (by decide) (Nat.le_of_ble_eq_true rfl) (cm_v (c_Mo_put hH hB (v := m) (n := 16) (by omega) (by omega) (by omega)) (fun h5 hq => ?_))
        obtain ⟨⟨iz2, ar2, hH2, ki2, ka2, hC2⟩, hF2⟩ := hq
        have e : bitsV (m : Int) 16 = bitsF (fun p => anyG ls (15 - p)) 16 := bitsF_cg hbt2
        rw [e] at hC2
        refine az_iconst d_Mo_writeRow_43 ?_
        refine ax_istore_n d_Mo_writeRow_44 (by decide) rfl ?_
        refine w_Mo_wgroups hm hbt2 16 0 _ iz2 ar2 h5 (by omega) hH2 (hF.tr hF2) (ki2.wide rfl) (ka2.wide rfl) (hR.fr ki2 ka2 rfl rfl) hC2 (by rw [List.length_append, bitsF_len]; omega) ?_ _
        rw [rowB, listB, List.append_assoc, List.append_assoc]
      · exfalso
        omega
    | succ f ih =>
      intro b m he hm hbt
      have eb : (b : Int) / 16 = ((b / 16 : Nat) : Int) := by omega
      have hp9 : 32768 / 2 ^ (b / 16) = 2 ^ (15 - b / 16) := by
        rw [show 32768 = 2 ^ 15 from rfl, Nat.pow_div (by omega) (by decide)]
      have hp8 : 2 ^ (15 - b / 16) ≤ 2 ^ 15 := Nat.pow_le_pow_right (by decide) (by omega)
      have hor : m ||| 2 ^ (15 - b / 16) < 2 ^ 16 := Nat.or_lt_two_pow hm (Nat.pow_lt_pow_right (by decide) (by omega))
      have ez : lzor (m : Int) (lzshr 32768 ((b / 16 : Nat) : Int)) = ((m ||| 2 ^ (15 - b / 16) : Nat) : Int) := by
        rw [show (32768 : Int) = ((32768 : Nat) : Int) from rfl, lzshr_nat (by omega) (by omega), hp9, lzor_nat (by omega) (by omega)]
      refine ax_iload_n d_Mo_writeRow_4 rfl ?_
      refine az_sipush _ d_Mo_writeRow_5 (by decide) ?_
      refine az_icmp_ge 36 d_Mo_writeRow_8 (by decide) (by omega) (by omega) (fun hc => ?_) (fun hc => ?_)
      · exfalso
        omega
      · refine ax_aload_n d_Mo_writeRow_11 rfl ?_
        refine ax_iload_n d_Mo_writeRow_12 rfl ?_
        refine ax_cV1 d_Mo_writeRow_13 v_Mo_rowHas lk_Mo_141 (by first | assumption | exact hH.g 0 rfl | exact hH.g 1 rfl | exact hH.g 2 rfl | exact hH.g 3 rfl | exact hH.g 4 rfl | exact hH.g 5 rfl | exact hH.g 6 rfl | exact hH.g 7 rfl | exact hH.g 8 rfl | exact hH.g 9 rfl | exact hH.g 10 rfl | exact hH.g 11 rfl | exact hH.g 12 rfl | exact hH.g 13 rfl | exact hH.g 14 rfl | exact hH.g 15 rfl | exact hH.g 16 rfl | exact hH.g 17 rfl | exact hH.g 18 rfl) (by decide) (Nat.le_of_ble_eq_true rfl) (cm_z (c_Mo_rowHas hH hR (b := (b : Int)) (by omega)) (fun z h3 hq => ?_))
        obtain ⟨rfl, rfl⟩ := hq
        refine az_if_eq 30 d_Mo_writeRow_16 (by decide) (bz_in _) (fun hcb => ?_) (fun hcb => ?_)
        · have hn := bz_f hcb
          have hmk : mkN ls b = 0 := by unfold mkN; rw [hn, if_neg (by decide)]
          refine az_iinc d_Mo_writeRow_30 rfl (by decide) rfl ?_
          refine ax_goto 4 d_Mo_writeRow_33 (by decide) ?_
          refine ih (b + 1) m (by omega) hm (fun p hp => ?_)
          rw [hbt p hp]
          constructor
          · rintro ⟨j, j1, j2, j3⟩
            exact ⟨j, by omega, j2, j3⟩
          · rintro ⟨j, j1, j2, j3⟩
            have : j ≠ b := fun w => by rw [w, hmk] at j3; cases j3
            exact ⟨j, by omega, j2, j3⟩
        · have hn := bz_t hcb
          have hmk : mkN ls b = 1 := by unfold mkN; rw [hn, if_pos rfl]
          refine ax_lload_n d_Mo_writeRow_19 rfl ?_
          refine aj_ldc2 32768 d_Mo_writeRow_20 cn_Mo_187 ?_
          refine ax_iload_n d_Mo_writeRow_23 rfl ?_
          refine az_bipush _ d_Mo_writeRow_24 (by decide) ?_
          refine az_idiv d_Mo_writeRow_26 (by omega) (by omega) ?_
          rw [eb]
          refine aj_lshr d_Mo_writeRow_27 ?_
          refine aj_lor d_Mo_writeRow_28 ?_
          rw [ez]
          refine ax_lstore_n d_Mo_writeRow_29 (by decide) rfl ?_
          refine az_iinc d_Mo_writeRow_30 rfl (by decide) rfl ?_
          refine ax_goto 4 d_Mo_writeRow_33 (by decide) ?_
          refine ih (b + 1) (m ||| 2 ^ (15 - b / 16)) (by omega) hor (fun p hp => ?_)
          rw [bt_or2]
          by_cases q : p = 15 - b / 16
          · rw [if_pos q]
            exact ⟨fun _ => ⟨b, by omega, by omega, hmk⟩, fun _ => rfl⟩
          · rw [if_neg q, hbt p hp]
            constructor
            · rintro ⟨j, j1, j2, j3⟩
              exact ⟨j, by omega, j2, j3⟩
            · rintro ⟨j, j1, j2, j3⟩
              have : j ≠ b := fun w => by rw [w] at j2; omega
              exact ⟨j, by omega, j2, j3⟩
  refine key 256 0 0 (by omega) (by omega) (fun p hp => ?_)
  rw [bt_nat, Nat.zero_div]
  constructor
  · intro q
    exact absurd q (by decide)
  · rintro ⟨j, j1, -⟩
    omega
