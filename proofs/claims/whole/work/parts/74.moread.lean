/-! the reference: reads, read -/
theorem crc_wr {c : Int} (hc : -2147483648 ≤ c ∧ c < 2147483648) {k : Nat} (hk : k < 4294967296) : c % 4294967296 = (k : Int) ↔ c = wr k := by
  have h1 := wr_in (k : Int)
  have h2 : wr (k : Int) % 4294967296 = (k : Int) := by
    have h3 : wr (k : Int) = (k : Int).bmod (2 ^ 32) := Int32.toInt_ofInt
    have h4 := Int.bmod_emod (x := (k : Int)) (m := 2 ^ 32)
    have h5 : (((2 ^ 32 : Nat)) : Int) = 4294967296 := by decide
    rw [h3]
    rw [h5] at h4
    omega
  constructor
  · intro h
    omega
  · intro h
    rw [h]
    exact h2
theorem tvA_pos (T : List Int) : ∀ (n p a : Nat), 0 < a → 0 < tvA T n p a
  | 0, _, a, h => h
  | n + 1, p, a, h => tvA_pos T n (p + 1) _ (by omega)
def RdQ (h0 : ax_H) (iz : Nat → Int) (ar : Nat → Nat → Int) (T : List Int) (r0 : Option Value) (h1 : ax_H) : Prop := ∃ b : Bool, r0 = some (.int (iv (bz b))) ∧ (match rdT T with
    | .inl e => RdE h1 iz ar e
    | .inr u => u.length ≤ 600 ∧ Bs u ∧ ∃ iz1 ar1, MoH h1 iz1 ar1 ∧ KI [0, 2, 12, 27] iz iz1 ∧ KA RKA ar ar1 ∧ iz1 0 = u.length ∧ la (ar1 1) u) ∧ Fr MOS h0 h1
theorem RdQ_e {h0 h1 : ax_H} {iz : Nat → Int} {ar : Nat → Nat → Int} {T : List Int} {e : RF} (he : (.inl e : Sum RF (List Int)) = rdT T) (hE : RdE h1 iz ar e) (hF : Fr MOS h0 h1) : RdQ h0 iz ar T (some (.int (iv (bz false)))) h1 := by
  unfold RdQ
  rw [← he]
  exact ⟨false, rfl, hE, hF⟩
section RRDS
variable {h0 : ax_H} {iz : Nat → Int} {ar : Nat → Nat → Int} {T : List Int}
set_option maxRecDepth 100000 in
set_option maxHeartbeats 16000000 in
theorem w_Mo_rfin {n o : Int} {k p : Nat} {u : List Int} {iz1 : Nat → Int} {ar1 : Nat → Nat → Int} {h : ax_H} (hk : k < 4294967296) (hul : u.length ≤ 600) (hbu : Bs u) (hH : MoH h iz1 ar1) (hF : Fr MOS h0 h) (ki : KI [0, 2, 12, 27] iz iz1) (ka : KA RKA ar ar1) (hR : MoR iz1 ar1 T p) (e0 : iz1 0 = u.length) (h1 : la (ar1 1) u)
    (hs : (if crc u ≠ wr k then .inl (11, 6) else if tv T (fillN p) p ≠ 0 then .inl (12, ((p / 8 : Nat) : Int)) else if (p + fillN p) / 8 = T.length then .inr u else .inl (12, (((p + fillN p) / 8 : Nat) : Int)) : Sum RF (List Int)) = rdT T) (v5 : Option Value) :
    ax_W m_Mo_reads 4 171 [some (.ref 47), some (.int (iv n)), some (.int (iv o)), some (.long (lz (k : Int))), none, v5] [] h (RdQ h0 iz ar T) := by
  obtain ⟨s1, s2, s3, s4, s5, s6, s7⟩ := id hR
  have ep : iz1 27 / 8 = ((p / 8 : Nat) : Int) := by omega
  have hcr := crc_in u
  have hcw := crc_wr hcr hk
  have hcm := cmp3_sp (crc u % 4294967296) (k : Int)
  have hf8 : fillN p < 8 := by unfold fillN; omega
  have hfe : (p + fillN p) % 8 = 0 := by unfold fillN; omega
  have hpe : p + fillN p ≤ 8 * T.length := by unfold fillN; omega
  refine ax_aload_n d_Mo_reads_171 rfl ?_
  refine ax_cV0 d_Mo_reads_172 v_Mo_check lk_Mo_176 (by first | assumption | exact hH.g 0 rfl | exact hH.g 1 rfl | exact hH.g 2 rfl | exact hH.g 3 rfl | exact hH.g 4 rfl | exact hH.g 5 rfl | exact hH.g 6 rfl | exact hH.g 7 rfl | exact hH.g 8 rfl | exact hH.g 9 rfl | exact hH.g 10 rfl | exact hH.g 11 rfl | exact hH.g 12 rfl | exact hH.g 13 rfl | exact hH.g 14 rfl | exact hH.g 15 rfl | exact hH.g 16 rfl | exact hH.g 17 rfl | exact hH.g 18 rfl) (by decide) (Nat.le_of_ble_eq_true rfl) (cm_i (c_Mo_checkQ hH e0 hul h1) (fun z h2 hq => ?_))
  obtain ⟨rfl, rfl⟩ := hq
  refine aj_i2l d_Mo_reads_175 (by omega) ?_
  refine aj_ldc2 4294967295 d_Mo_reads_176 cn_Mo_179 ?_
  refine aj_land d_Mo_reads_179 ?_
  rw [lzand_ff hcr]
  refine ax_lload_n d_Mo_reads_180 rfl ?_
  refine aj_lcmp d_Mo_reads_181 (by omega) (by omega) ?_
  refine az_if_eq 194 d_Mo_reads_182 (by decide) (by first | exact bz_in _ | omega) (fun heq => ?_) (fun heq => ?_)
  · have hc1 : crc u = wr k := hcw.mp (by omega)
    rw [if_neg (fun q => q hc1)] at hs
    refine ax_aload_n d_Mo_reads_194 rfl ?_
    refine ax_get d_Mo_reads_195 fg_Mo_197 (by first | assumption | exact hH.g 0 rfl | exact hH.g 1 rfl | exact hH.g 2 rfl | exact hH.g 3 rfl | exact hH.g 4 rfl | exact hH.g 5 rfl | exact hH.g 6 rfl | exact hH.g 7 rfl | exact hH.g 8 rfl | exact hH.g 9 rfl | exact hH.g 10 rfl | exact hH.g 11 rfl | exact hH.g 12 rfl | exact hH.g 13 rfl | exact hH.g 14 rfl | exact hH.g 15 rfl | exact hH.g 16 rfl | exact hH.g 17 rfl | exact hH.g 18 rfl) (by rfl) ?_
    refine az_bipush _ d_Mo_reads_198 (by decide) ?_
    refine az_idiv d_Mo_reads_200 (by omega) (by omega) ?_
    rw [ep]
    refine ax_istore d_Mo_reads_201 (by decide) rfl ?_
    have loop : ∀ (r p2 : Nat) (iz3 : Nat → Int) (h : ax_H), p2 + r = p + fillN p → r < 8 → tvA T r p2 0 = tv T (fillN p) p → MoH h iz3 ar1 → Fr MOS h0 h → KI [0, 2, 12, 27] iz iz3 → MoR iz3 ar1 T p2 → iz3 0 = u.length →
        ax_W m_Mo_reads 4 203 [some (.ref 47), some (.int (iv n)), some (.int (iv o)), some (.long (lz (k : Int))), none, some (.int (iv ((p / 8 : Nat) : Int)))] [] h (RdQ h0 iz ar T) := by
      intro r
      induction r with
      | zero =>
        intro p2 iz3 h hpr hr8 ht hH hF ki hR e0
        obtain ⟨t1, t2, t3, t4, t5, t6, t7⟩ := id hR
        have em : iz3 27 % 8 = 0 := by omega
        have ed : iz3 27 / 8 = (((p + fillN p) / 8 : Nat) : Int) := by omega
        have ht : 0 = tv T (fillN p) p := ht
        rw [if_neg (fun q => q ht.symm)] at hs
        refine ax_aload_n d_Mo_reads_203 rfl ?_
        refine ax_get d_Mo_reads_204 fg_Mo_197 (by first | assumption | exact hH.g 0 rfl | exact hH.g 1 rfl | exact hH.g 2 rfl | exact hH.g 3 rfl | exact hH.g 4 rfl | exact hH.g 5 rfl | exact hH.g 6 rfl | exact hH.g 7 rfl | exact hH.g 8 rfl | exact hH.g 9 rfl | exact hH.g 10 rfl | exact hH.g 11 rfl | exact hH.g 12 rfl | exact hH.g 13 rfl | exact hH.g 14 rfl | exact hH.g 15 rfl | exact hH.g 16 rfl | exact hH.g 17 rfl | exact hH.g 18 rfl) (by rfl) ?_
        refine az_bipush _ d_Mo_reads_207 (by decide) ?_
        refine az_irem d_Mo_reads_209 (by omega) (by omega) ?_
        rw [em]
        refine az_if_eq 232 d_Mo_reads_210 (by decide) (by first | exact bz_in _ | omega) (fun hc => ?_) (fun hc => ?_)
        · refine ax_aload_n d_Mo_reads_232 rfl ?_
          refine ax_get d_Mo_reads_233 fg_Mo_197 (by first | assumption | exact hH.g 0 rfl | exact hH.g 1 rfl | exact hH.g 2 rfl | exact hH.g 3 rfl | exact hH.g 4 rfl | exact hH.g 5 rfl | exact hH.g 6 rfl | exact hH.g 7 rfl | exact hH.g 8 rfl | exact hH.g 9 rfl | exact hH.g 10 rfl | exact hH.g 11 rfl | exact hH.g 12 rfl | exact hH.g 13 rfl | exact hH.g 14 rfl | exact hH.g 15 rfl | exact hH.g 16 rfl | exact hH.g 17 rfl | exact hH.g 18 rfl) (by rfl) ?_
          refine az_bipush _ d_Mo_reads_236 (by decide) ?_
          refine az_idiv d_Mo_reads_238 (by omega) (by omega) ?_
          rw [ed]
          refine ax_aload_n d_Mo_reads_239 rfl ?_
          refine ax_get d_Mo_reads_240 fg_Mo_191 (by first | assumption | exact hH.g 0 rfl | exact hH.g 1 rfl | exact hH.g 2 rfl | exact hH.g 3 rfl | exact hH.g 4 rfl | exact hH.g 5 rfl | exact hH.g 6 rfl | exact hH.g 7 rfl | exact hH.g 8 rfl | exact hH.g 9 rfl | exact hH.g 10 rfl | exact hH.g 11 rfl | exact hH.g 12 rfl | exact hH.g 13 rfl | exact hH.g 14 rfl | exact hH.g 15 rfl | exact hH.g 16 rfl | exact hH.g 17 rfl | exact hH.g 18 rfl) (by rfl) ?_
          refine az_icmp_eq 262 d_Mo_reads_243 (by decide) (by omega) (by omega) (fun hne => ?_) (fun hne => ?_)
          · rw [if_pos (by omega)] at hs
            refine az_iconst d_Mo_reads_262 ?_
            refine ax_goto 267 d_Mo_reads_263 (by decide) ?_
            refine ax_zret d_Mo_reads_267 rfl (by decide) ?_
            unfold RdQ
            rw [← hs]
            exact ⟨true, rfl, ⟨hul, hbu, iz3, ar1, hH, ki, ka, e0, h1⟩, hF⟩
          · rw [if_neg (by omega)] at hs
            refine ax_aload_n d_Mo_reads_246 rfl ?_
            refine az_bipush _ d_Mo_reads_247 (by decide) ?_
            refine ax_aload_n d_Mo_reads_249 rfl ?_
            refine ax_get d_Mo_reads_250 fg_Mo_197 (by first | assumption | exact hH.g 0 rfl | exact hH.g 1 rfl | exact hH.g 2 rfl | exact hH.g 3 rfl | exact hH.g 4 rfl | exact hH.g 5 rfl | exact hH.g 6 rfl | exact hH.g 7 rfl | exact hH.g 8 rfl | exact hH.g 9 rfl | exact hH.g 10 rfl | exact hH.g 11 rfl | exact hH.g 12 rfl | exact hH.g 13 rfl | exact hH.g 14 rfl | exact hH.g 15 rfl | exact hH.g 16 rfl | exact hH.g 17 rfl | exact hH.g 18 rfl) (by rfl) ?_
            refine az_bipush _ d_Mo_reads_253 (by decide) ?_
            refine az_idiv d_Mo_reads_255 (by omega) (by omega) ?_
            rw [ed]
            refine ax_cV2 d_Mo_reads_256 v_Mo_wrong lk_Mo_200 (by first | assumption | exact hH.g 0 rfl | exact hH.g 1 rfl | exact hH.g 2 rfl | exact hH.g 3 rfl | exact hH.g 4 rfl | exact hH.g 5 rfl | exact hH.g 6 rfl | exact hH.g 7 rfl | exact hH.g 8 rfl | exact hH.g 9 rfl | exact hH.g 10 rfl | exact hH.g 11 rfl | exact hH.g 12 rfl | exact hH.g 13 rfl | exact hH.g 14 rfl | exact hH.g 15 rfl | exact hH.g 16 rfl | exact hH.g 17 rfl | exact hH.g 18 rfl) (by decide) (Nat.le_of_ble_eq_true rfl) (cm_z (c_Mo_wrong hH t7 (f := 12) (pl := (((p + fillN p) / 8 : Nat) : Int)) (by omega)) (fun b h7 hq => ?_))
            obtain ⟨rfl, hE, hF7⟩ := hq
            refine az_if_eq 266 d_Mo_reads_259 (by decide) (bz_in _) (fun hcb => ?_) (fun hcb => ?_)
            · refine az_iconst d_Mo_reads_266 ?_
              refine ax_zret d_Mo_reads_267 rfl (by decide) ?_
              exact RdQ_e hs (hE.tr ki ka rfl rfl) (hF.tr hF7)
            · exact absurd (bz_t hcb) (by decide)
        · exfalso
          omega
      | succ r ih =>
        intro p2 iz3 h hpr hr8 ht hH hF ki hR e0
        obtain ⟨t1, t2, t3, t4, t5, t6, t7⟩ := id hR
        have htb := tb_lt T p2
        have hcb := cmp3_sp (tb T p2 : Int) 0
        have ht : tvA T r (p2 + 1) (2 * 0 + tb T p2) = tv T (fillN p) p := ht
        refine ax_aload_n d_Mo_reads_203 rfl ?_
        refine ax_get d_Mo_reads_204 fg_Mo_197 (by first | assumption | exact hH.g 0 rfl | exact hH.g 1 rfl | exact hH.g 2 rfl | exact hH.g 3 rfl | exact hH.g 4 rfl | exact hH.g 5 rfl | exact hH.g 6 rfl | exact hH.g 7 rfl | exact hH.g 8 rfl | exact hH.g 9 rfl | exact hH.g 10 rfl | exact hH.g 11 rfl | exact hH.g 12 rfl | exact hH.g 13 rfl | exact hH.g 14 rfl | exact hH.g 15 rfl | exact hH.g 16 rfl | exact hH.g 17 rfl | exact hH.g 18 rfl) (by rfl) ?_
        refine az_bipush _ d_Mo_reads_207 (by decide) ?_
        refine az_irem d_Mo_reads_209 (by omega) (by omega) ?_
        refine az_if_eq 232 d_Mo_reads_210 (by decide) (by first | exact bz_in _ | omega) (fun hm0 => ?_) (fun hm0 => ?_)
        · exfalso
          omega
        · refine ax_aload_n d_Mo_reads_213 rfl ?_
          refine az_iconst d_Mo_reads_214 ?_
          refine ax_cV1 d_Mo_reads_215 v_Mo_get lk_Mo_203 (by first | assumption | exact hH.g 0 rfl | exact hH.g 1 rfl | exact hH.g 2 rfl | exact hH.g 3 rfl | exact hH.g 4 rfl | exact hH.g 5 rfl | exact hH.g 6 rfl | exact hH.g 7 rfl | exact hH.g 8 rfl | exact hH.g 9 rfl | exact hH.g 10 rfl | exact hH.g 11 rfl | exact hH.g 12 rfl | exact hH.g 13 rfl | exact hH.g 14 rfl | exact hH.g 15 rfl | exact hH.g 16 rfl | exact hH.g 17 rfl | exact hH.g 18 rfl) (by decide) (Nat.le_of_ble_eq_true rfl) (cm_j (c_Mo_get hH hR (n := 1) (by omega)) (fun z h5 hq => ?_))
          obtain ⟨hq, hF5⟩ := hq
          rw [if_neg (by omega)] at hq
          obtain ⟨rfl, iz4, hH4, ki4, hR4⟩ := hq
          have hH := hH4
          rw [tv1]
          refine aj_lconst 0 d_Mo_reads_218 rfl ?_
          refine aj_lcmp d_Mo_reads_219 (by omega) (by omega) ?_
          refine az_if_eq 203 d_Mo_reads_220 (by decide) (by first | exact bz_in _ | omega) (fun hbz => ?_) (fun hbz => ?_)
          · have hb0 : tb T p2 = 0 := by omega
            rw [hb0] at ht
            exact ih (p2 + 1) iz4 h5 (by omega) (by omega) ht hH (hF.tr hF5) (ki.tr (ki4.wide rfl)) hR4 ((ki4 0 rfl).trans e0)
          · have hpos := tvA_pos T r (p2 + 1) (2 * 0 + tb T p2) (by omega)
            rw [ht] at hpos
            rw [if_pos (show tv T (fillN p) p ≠ 0 by omega)] at hs
            refine ax_aload_n d_Mo_reads_223 rfl ?_
            refine az_bipush _ d_Mo_reads_224 (by decide) ?_
            refine ax_iload d_Mo_reads_226 rfl ?_
            refine ax_cV2 d_Mo_reads_228 v_Mo_wrong lk_Mo_200 (by first | assumption | exact hH.g 0 rfl | exact hH.g 1 rfl | exact hH.g 2 rfl | exact hH.g 3 rfl | exact hH.g 4 rfl | exact hH.g 5 rfl | exact hH.g 6 rfl | exact hH.g 7 rfl | exact hH.g 8 rfl | exact hH.g 9 rfl | exact hH.g 10 rfl | exact hH.g 11 rfl | exact hH.g 12 rfl | exact hH.g 13 rfl | exact hH.g 14 rfl | exact hH.g 15 rfl | exact hH.g 16 rfl | exact hH.g 17 rfl | exact hH.g 18 rfl) (by decide) (Nat.le_of_ble_eq_true rfl) (cm_z (c_Mo_wrong hH hR4.2.2.2.2.2.2 (f := 12) (pl := ((p / 8 : Nat) : Int)) (by omega)) (fun b h7 hq => ?_))
            obtain ⟨rfl, hE, hF7⟩ := hq
            refine ax_zret d_Mo_reads_231 rfl (by decide) ?_
            exact RdQ_e hs (hE.tr (ki.tr (ki4.wide rfl)) ka rfl rfl) ((hF.tr hF5).tr hF7)
    exact loop (fillN p) p iz1 h2 rfl hf8 rfl hH hF ki hR e0
  · have hc1 : ¬ crc u = wr k := fun q => by have := hcw.mpr q; omega
    rw [if_pos hc1] at hs
    refine ax_aload_n d_Mo_reads_185 rfl ?_
    refine az_bipush _ d_Mo_reads_186 (by decide) ?_
    refine az_bipush _ d_Mo_reads_188 (by decide) ?_
    refine ax_cV2 d_Mo_reads_190 v_Mo_wrong lk_Mo_200 (by first | assumption | exact hH.g 0 rfl | exact hH.g 1 rfl | exact hH.g 2 rfl | exact hH.g 3 rfl | exact hH.g 4 rfl | exact hH.g 5 rfl | exact hH.g 6 rfl | exact hH.g 7 rfl | exact hH.g 8 rfl | exact hH.g 9 rfl | exact hH.g 10 rfl | exact hH.g 11 rfl | exact hH.g 12 rfl | exact hH.g 13 rfl | exact hH.g 14 rfl | exact hH.g 15 rfl | exact hH.g 16 rfl | exact hH.g 17 rfl | exact hH.g 18 rfl) (by decide) (Nat.le_of_ble_eq_true rfl) (cm_z (c_Mo_wrong hH s7 (f := 11) (pl := 6) (by omega)) (fun b h7 hq => ?_))
    obtain ⟨rfl, hE, hF7⟩ := hq
    refine ax_zret d_Mo_reads_193 rfl (by decide) ?_
    exact RdQ_e hs (hE.tr ki ka rfl rfl) (hF.tr hF7)
set_option maxRecDepth 100000 in
set_option maxHeartbeats 16000000 in
theorem w_Mo_rbody {n o k : Nat} {iz1 : Nat → Int} {h : ax_H} (hk : k < 4294967296) (hn9 : n ≤ 900) (ho : ¬ (o ≠ 0 ∧ n ≤ o)) (hH : MoH h iz1 ar) (hF : Fr MOS h0 h) (ki : KI [27] iz iz1) (hR : MoR iz1 ar T 80) (hT : rdHead T = .inr (n, o, k)) (v5 : Option Value) :
    ax_W m_Mo_reads 4 107 [some (.ref 47), some (.int (iv (n : Int))), some (.int (iv (o : Int))), some (.long (lz (k : Int))), none, v5] [] h (RdQ h0 iz ar T) := by
  have hs : (if n = 0 then rdFin T o k [] 80 else match rdList T 80 with
    | .inl e => .inl e
    | .inr l => match rdLens T (l.1.length + 2) l.2 with
      | .inl e => .inl e
      | .inr s => match rdR T (gx s.1) n (n + 1) s.2 l.1 1 [] with
        | .inl e => .inl e
        | .inr r => rdFin T o k r.1 r.2) = rdT T := by
    rw [rdT, hT]
  have hF0 := hF
  refine ax_aload_n d_Mo_reads_107 rfl ?_
  refine az_iconst d_Mo_reads_108 ?_
  first | refine ah_put d_Mo_reads_109 fp_Mo_76 hH hF 0 rfl rfl rfl (by first | rfl | decide) (Nat.le_of_ble_eq_true rfl) (fun h hH hF => ?_) | refine ah_put d_Mo_reads_109 fp_Mo_76 hH hF 1 rfl rfl rfl (by first | rfl | decide) (Nat.le_of_ble_eq_true rfl) (fun h hH hF => ?_) | refine ah_put d_Mo_reads_109 fp_Mo_76 hH hF 2 rfl rfl rfl (by first | rfl | decide) (Nat.le_of_ble_eq_true rfl) (fun h hH hF => ?_) | refine ah_put d_Mo_reads_109 fp_Mo_76 hH hF 3 rfl rfl rfl (by first | rfl | decide) (Nat.le_of_ble_eq_true rfl) (fun h hH hF => ?_) | refine ah_put d_Mo_reads_109 fp_Mo_76 hH hF 4 rfl rfl rfl (by first | rfl | decide) (Nat.le_of_ble_eq_true rfl) (fun h hH hF => ?_) | refine ah_put d_Mo_reads_109 fp_Mo_76 hH hF 5 rfl rfl rfl (by first | rfl | decide) (Nat.le_of_ble_eq_true rfl) (fun h hH hF => ?_) | refine ah_put d_Mo_reads_109 fp_Mo_76 hH hF 6 rfl rfl rfl (by first | rfl | decide) (Nat.le_of_ble_eq_true rfl) (fun h hH hF => ?_) | refine ah_put d_Mo_reads_109 fp_Mo_76 hH hF 7 rfl rfl rfl (by first | rfl | decide) (Nat.le_of_ble_eq_true rfl) (fun h hH hF => ?_) | refine ah_put d_Mo_reads_109 fp_Mo_76 hH hF 8 rfl rfl rfl (by first | rfl | decide) (Nat.le_of_ble_eq_true rfl) (fun h hH hF => ?_) | refine ah_put d_Mo_reads_109 fp_Mo_76 hH hF 9 rfl rfl rfl (by first | rfl | decide) (Nat.le_of_ble_eq_true rfl) (fun h hH hF => ?_) | refine ah_put d_Mo_reads_109 fp_Mo_76 hH hF 10 rfl rfl rfl (by first | rfl | decide) (Nat.le_of_ble_eq_true rfl) (fun h hH hF => ?_) | refine ah_put d_Mo_reads_109 fp_Mo_76 hH hF 11 rfl rfl rfl (by first | rfl | decide) (Nat.le_of_ble_eq_true rfl) (fun h hH hF => ?_) | refine ah_put d_Mo_reads_109 fp_Mo_76 hH hF 12 rfl rfl rfl (by first | rfl | decide) (Nat.le_of_ble_eq_true rfl) (fun h hH hF => ?_) | refine ah_put d_Mo_reads_109 fp_Mo_76 hH hF 13 rfl rfl rfl (by first | rfl | decide) (Nat.le_of_ble_eq_true rfl) (fun h hH hF => ?_) | refine ah_put d_Mo_reads_109 fp_Mo_76 hH hF 14 rfl rfl rfl (by first | rfl | decide) (Nat.le_of_ble_eq_true rfl) (fun h hH hF => ?_) | refine ah_put d_Mo_reads_109 fp_Mo_76 hH hF 15 rfl rfl rfl (by first | rfl | decide) (Nat.le_of_ble_eq_true rfl) (fun h hH hF => ?_) | refine ah_put d_Mo_reads_109 fp_Mo_76 hH hF 16 rfl rfl rfl (by first | rfl | decide) (Nat.le_of_ble_eq_true rfl) (fun h hH hF => ?_) | refine ah_put d_Mo_reads_109 fp_Mo_76 hH hF 17 rfl rfl rfl (by first | rfl | decide) (Nat.le_of_ble_eq_true rfl) (fun h hH hF => ?_) | refine ah_put d_Mo_reads_109 fp_Mo_76 hH hF 18 rfl rfl rfl (by first | rfl | decide) (Nat.le_of_ble_eq_true rfl) (fun h hH hF => ?_)
  have hH : MoH h (up iz1 0 0) ar := hH
  have ki1 : KI [0, 2, 12, 27] iz (up iz1 0 0) := (ki.wide rfl).up 0 _ rfl
  have hR1 : MoR (up iz1 0 0) ar T 80 := hR.fr (K := [0]) (KI.rf.up 0 _ rfl) (KA.rf (K := [])) rfl rfl
  have e00 : (up iz1 0 0) 0 = 0 := rfl
  generalize up iz1 0 0 = iz2 at hH ki1 hR1 e00
  have s7 := hR1.2.2.2.2.2.2
  refine ax_iload_n d_Mo_reads_112 rfl ?_
  refine az_if_le 171 d_Mo_reads_113 (by decide) (by first | exact bz_in _ | omega) (fun hn0 => ?_) (fun hn0 => ?_)
  · rw [if_pos (show n = 0 by omega)] at hs
    have ho0 : o = 0 := by omega
    subst ho0
    have hr0 : rightB [] 0 = true := decide_eq_true ⟨rfl, Or.inl rfl⟩
    have hu0 : upT (gbT [] 0) = some [] := by decide
    unfold rdFin at hs
    rw [if_neg (by rw [hr0]; decide), hu0] at hs
    exact w_Mo_rfin hk (u := []) (by simp) Bs_nil hH hF ki1 KA.rf hR1 e00 (fun i hi => by simp at hi) hs _
  · rw [if_neg (show ¬ n = 0 by omega)] at hs
    refine ax_aload_n d_Mo_reads_116 rfl ?_
    refine ax_cV0 d_Mo_reads_117 v_Mo_readsList lk_Mo_218 (by first | assumption | exact hH.g 0 rfl | exact hH.g 1 rfl | exact hH.g 2 rfl | exact hH.g 3 rfl | exact hH.g 4 rfl | exact hH.g 5 rfl | exact hH.g 6 rfl | exact hH.g 7 rfl | exact hH.g 8 rfl | exact hH.g 9 rfl | exact hH.g 10 rfl | exact hH.g 11 rfl | exact hH.g 12 rfl | exact hH.g 13 rfl | exact hH.g 14 rfl | exact hH.g 15 rfl | exact hH.g 16 rfl | exact hH.g 17 rfl | exact hH.g 18 rfl) (by decide) (Nat.le_of_ble_eq_true rfl) (cm_z (c_Mo_readsList hH hR1) (fun b h1 hq => ?_))
    obtain ⟨hq, hF1⟩ := hq
    cases hL : rdList T 80 with
    | inl e =>
      rw [hL] at hq hs
      obtain ⟨rfl, hE⟩ := hq
      have hE0 := hE.tr ki1 (KA.rf (K := [])) rfl rfl
      refine az_if_eq 138 d_Mo_reads_120 (by decide) (bz_in _) (fun hcb => ?_) (fun hcb => ?_)
      · refine az_iconst d_Mo_reads_138 ?_
        refine ax_zret d_Mo_reads_139 rfl (by decide) ?_
        exact RdQ_e hs hE0 (hF.tr hF1)
      · exact absurd (bz_t hcb) (by decide)
    | inr l =>
      rw [hL] at hq hs
      obtain ⟨l, p3⟩ := l
      obtain ⟨rfl, iz3, ar3, hH3, ki3, ka3, hR3, e12, h13⟩ := hq
      have hs : (match rdLens T (l.length + 2) p3 with
        | .inl e => .inl e
        | .inr s => match rdR T (gx s.1) n (n + 1) s.2 l 1 [] with
          | .inl e => .inl e
          | .inr r => rdFin T o k r.1 r.2) = rdT T := hs
      have hR3 : MoR iz3 ar3 T p3 := hR3
      have e12 : iz3 12 = (l.length : Int) := e12
      have h13 : la (ar3 13) l := h13
      obtain ⟨hokL, -, hlne⟩ := rdList_ok hL
      have hl2 : l.length ≤ 256 := hokL.1
      have hl1 : 1 ≤ l.length := by
        cases l with
        | nil => exact absurd rfl hlne
        | cons a t => simp
      have ki13 := ki1.tr (ki3.wide (K' := [0, 2, 12, 27]) rfl)
      have ka13 : KA RKA ar ar3 := ka3.wide rfl
      have hH := hH3
      have hF := hF.tr hF1
      refine az_if_eq 138 d_Mo_reads_120 (by decide) (bz_in _) (fun hcb => ?_) (fun hcb => ?_)
      · exact absurd (bz_f hcb) (by decide)
      · refine ax_aload_n d_Mo_reads_123 rfl ?_
        refine ax_cV0 d_Mo_reads_124 v_Mo_readsLengths lk_Mo_221 (by first | assumption | exact hH.g 0 rfl | exact hH.g 1 rfl | exact hH.g 2 rfl | exact hH.g 3 rfl | exact hH.g 4 rfl | exact hH.g 5 rfl | exact hH.g 6 rfl | exact hH.g 7 rfl | exact hH.g 8 rfl | exact hH.g 9 rfl | exact hH.g 10 rfl | exact hH.g 11 rfl | exact hH.g 12 rfl | exact hH.g 13 rfl | exact hH.g 14 rfl | exact hH.g 15 rfl | exact hH.g 16 rfl | exact hH.g 17 rfl | exact hH.g 18 rfl) (by decide) (Nat.le_of_ble_eq_true rfl) (cm_z (c_Mo_readsLengths hH hR3 (n := l.length + 2) (by omega) (by omega)) (fun b h4 hq => ?_))
        obtain ⟨hq, hF4⟩ := hq
        cases hG : rdLens T (l.length + 2) p3 with
        | inl e =>
          rw [hG] at hq hs
          obtain ⟨rfl, hE⟩ := hq
          have hE0 := hE.tr ki13 ka13 rfl rfl
          refine az_if_eq 138 d_Mo_reads_127 (by decide) (bz_in _) (fun hcb => ?_) (fun hcb => ?_)
          · refine az_iconst d_Mo_reads_138 ?_
            refine ax_zret d_Mo_reads_139 rfl (by decide) ?_
            exact RdQ_e hs hE0 (hF.tr hF4)
          · exact absurd (bz_t hcb) (by decide)
        | inr s =>
          rw [hG] at hq hs
          obtain ⟨ls, p4⟩ := s
          obtain ⟨rfl, iz4, ar4, hH4, ki4, ka4, hR4, h16, h17⟩ := hq
          have hs : (match rdR T (gx ls) n (n + 1) p4 l 1 [] with
            | .inl e => .inl e
            | .inr r => rdFin T o k r.1 r.2) = rdT T := hs
          have hR4 : MoR iz4 ar4 T p4 := hR4
          obtain ⟨hok, -, hkr, -, -⟩ := rdLens_ok hG
          have hC4 : CodR iz4 ar4 (gx ls) (l.length + 2) := ⟨by rw [ki4 12 rfl]; omega, by omega, h16, h17, hok, hkr⟩
          have h134 : la (ar4 13) l := by rw [ka4 13 rfl]; exact h13
          have ki14 := ki13.tr (ki4.wide (K' := [0, 2, 12, 27]) rfl)
          have ka14 : KA RKA ar ar4 := ka13.tr (ka4.wide rfl)
          have hH := hH4
          have hF := hF.tr hF4
          refine az_if_eq 138 d_Mo_reads_127 (by decide) (bz_in _) (fun hcb => ?_) (fun hcb => ?_)
          · exact absurd (bz_f hcb) (by decide)
          · refine ax_aload_n d_Mo_reads_130 rfl ?_
            refine ax_iload_n d_Mo_reads_131 rfl ?_
            refine ax_cV1 d_Mo_reads_132 v_Mo_readsRow lk_Mo_224 (by first | assumption | exact hH.g 0 rfl | exact hH.g 1 rfl | exact hH.g 2 rfl | exact hH.g 3 rfl | exact hH.g 4 rfl | exact hH.g 5 rfl | exact hH.g 6 rfl | exact hH.g 7 rfl | exact hH.g 8 rfl | exact hH.g 9 rfl | exact hH.g 10 rfl | exact hH.g 11 rfl | exact hH.g 12 rfl | exact hH.g 13 rfl | exact hH.g 14 rfl | exact hH.g 15 rfl | exact hH.g 16 rfl | exact hH.g 17 rfl | exact hH.g 18 rfl) (by decide) (Nat.le_of_ble_eq_true rfl) (cm_z (c_Mo_readsRow hH hR4 hn9 hl1 hl2 (okL_Bs hokL (Nat.le_refl _)) (ndp_of hokL.2.2) hC4 h134) (fun b h5 hq => ?_))
            obtain ⟨hq, hF5⟩ := hq
            cases hW : rdR T (gx ls) n (n + 1) p4 l 1 [] with
            | inl e =>
              rw [hW] at hq hs
              obtain ⟨rfl, hE⟩ := hq
              have hE0 := hE.tr ki14 ka14 rfl rfl
              refine az_if_ne 140 d_Mo_reads_135 (by decide) (bz_in _) (fun hcb => ?_) (fun hcb => ?_)
              · exact absurd (bz_t hcb) (by decide)
              · refine az_iconst d_Mo_reads_138 ?_
                refine ax_zret d_Mo_reads_139 rfl (by decide) ?_
                exact RdQ_e hs hE0 (hF.tr hF5)
            | inr r =>
              rw [hW] at hq hs
              obtain ⟨row, p5⟩ := r
              obtain ⟨rfl, iz5, ar5, hH5, ki5, ka5, hR5, e25, h35⟩ := hq
              have hs : rdFin T o k row p5 = rdT T := hs
              have hR5 : MoR iz5 ar5 T p5 := hR5
              have e25 : iz5 2 = (row.length : Int) := e25
              have h35 : la (ar5 3) row := h35
              obtain ⟨hbr, hrl, -, -⟩ := rdR_ok _ _ _ _ _ _ (okL_Bs hokL (Nat.le_refl _)) (by omega) Bs_nil (by omega) (by simp) hW
              have hbr : Bs row := hbr
              have hrl : row.length = n := hrl
              have ki15 := ki14.tr (ki5.wide (K' := [0, 2, 12, 27]) rfl)
              have ka15 : KA RKA ar ar5 := ka14.tr (ka5.wide rfl)
              have hH := hH5
              have hF := hF.tr hF5
              have hRw5 : RwS iz5 ar5 row := ⟨e25, by omega, h35, hbr⟩
              refine az_if_ne 140 d_Mo_reads_135 (by decide) (bz_in _) (fun hcb => ?_) (fun hcb => ?_)
              · refine ax_aload_n d_Mo_reads_140 rfl ?_
                refine ax_iload_n d_Mo_reads_141 rfl ?_
                refine ax_cV1 d_Mo_reads_142 v_Mo_givesBack lk_Mo_131 (by first | assumption | exact hH.g 0 rfl | exact hH.g 1 rfl | exact hH.g 2 rfl | exact hH.g 3 rfl | exact hH.g 4 rfl | exact hH.g 5 rfl | exact hH.g 6 rfl | exact hH.g 7 rfl | exact hH.g 8 rfl | exact hH.g 9 rfl | exact hH.g 10 rfl | exact hH.g 11 rfl | exact hH.g 12 rfl | exact hH.g 13 rfl | exact hH.g 14 rfl | exact hH.g 15 rfl | exact hH.g 16 rfl | exact hH.g 17 rfl | exact hH.g 18 rfl) (by decide) (Nat.le_of_ble_eq_true rfl) (cm_z (c_Mo_givesBack hH hRw5 (o := o) (by omega)) (fun b h6 hq => ?_))
                obtain ⟨rfl, ⟨ar6, hH6, ka6, hRw6⟩, hF6⟩ := hq
                have hH := hH6
                have hR6 : MoR iz5 ar6 T p5 := hR5.fr (KI.rf (K := [])) ka6 rfl rfl
                have ka16 : KA RKA ar ar6 := ka15.tr (ka6.wide rfl)
                have hF := hF.tr hF6
                unfold rdFin at hs
                refine az_if_ne 156 d_Mo_reads_145 (by decide) (bz_in _) (fun hcb => ?_) (fun hcb => ?_)
                · have hrb := bz_t hcb
                  rw [if_neg (by rw [hrb]; decide)] at hs
                  refine ax_aload_n d_Mo_reads_156 rfl ?_
                  refine ax_cV0 d_Mo_reads_157 v_Mo_unpacks lk_Mo_227 (by first | assumption | exact hH.g 0 rfl | exact hH.g 1 rfl | exact hH.g 2 rfl | exact hH.g 3 rfl | exact hH.g 4 rfl | exact hH.g 5 rfl | exact hH.g 6 rfl | exact hH.g 7 rfl | exact hH.g 8 rfl | exact hH.g 9 rfl | exact hH.g 10 rfl | exact hH.g 11 rfl | exact hH.g 12 rfl | exact hH.g 13 rfl | exact hH.g 14 rfl | exact hH.g 15 rfl | exact hH.g 16 rfl | exact hH.g 17 rfl | exact hH.g 18 rfl) (by decide) (Nat.le_of_ble_eq_true rfl) (cm_z (c_Mo_unpacks hH hRw6) (fun b h7 hq => ?_))
                  obtain ⟨hb, ⟨iz7, ar7, hH7, ki7, ka7, hu7⟩, hF7⟩ := hq
                  have hH := hH7
                  have hR7 : MoR iz7 ar7 T p5 := hR6.fr ki7 ka7 rfl rfl
                  have ki17 := ki15.tr (ki7.wide (K' := [0, 2, 12, 27]) rfl)
                  have ka17 : KA RKA ar ar7 := ka16.tr (ka7.wide rfl)
                  have hF := hF.tr hF7
                  cases hU : upT (gbT row o) with
                  | none =>
                    rw [hU] at hb hs
                    subst hb
                    refine az_if_ne 171 d_Mo_reads_160 (by decide) (bz_in _) (fun hcb => ?_) (fun hcb => ?_)
                    · exact absurd (bz_t hcb) (by decide)
                    · refine ax_aload_n d_Mo_reads_163 rfl ?_
                      refine az_bipush _ d_Mo_reads_164 (by decide) ?_
                      refine az_iconst d_Mo_reads_166 ?_
                      refine ax_cV2 d_Mo_reads_167 v_Mo_wrong lk_Mo_200 (by first | assumption | exact hH.g 0 rfl | exact hH.g 1 rfl | exact hH.g 2 rfl | exact hH.g 3 rfl | exact hH.g 4 rfl | exact hH.g 5 rfl | exact hH.g 6 rfl | exact hH.g 7 rfl | exact hH.g 8 rfl | exact hH.g 9 rfl | exact hH.g 10 rfl | exact hH.g 11 rfl | exact hH.g 12 rfl | exact hH.g 13 rfl | exact hH.g 14 rfl | exact hH.g 15 rfl | exact hH.g 16 rfl | exact hH.g 17 rfl | exact hH.g 18 rfl) (by decide) (Nat.le_of_ble_eq_true rfl) (cm_z (c_Mo_wrong hH hR7.2.2.2.2.2.2 (f := 10) (pl := 2) (by omega)) (fun b h8 hq => ?_))
                      obtain ⟨rfl, hE, hF8⟩ := hq
                      refine ax_zret d_Mo_reads_170 rfl (by decide) ?_
                      exact RdQ_e hs (hE.tr ki17 ka17 rfl rfl) (hF.tr hF8)
                  | some u =>
                    rw [hU] at hb hs
                    obtain ⟨rfl, hul, hbu⟩ := hb
                    have huu := hu7 u hU
                    refine az_if_ne 171 d_Mo_reads_160 (by decide) (bz_in _) (fun hcb => ?_) (fun hcb => ?_)
                    · exact w_Mo_rfin hk hul hbu hH hF ki17 ka17 hR7 huu.1 huu.2 hs _
                    · exact absurd (bz_f hcb) (by decide)
                · have hrb := bz_f hcb
                  rw [if_pos hrb] at hs
                  refine ax_aload_n d_Mo_reads_148 rfl ?_
                  refine az_bipush _ d_Mo_reads_149 (by decide) ?_
                  refine az_iconst d_Mo_reads_151 ?_
                  refine ax_cV2 d_Mo_reads_152 v_Mo_wrong lk_Mo_200 (by first | assumption | exact hH.g 0 rfl | exact hH.g 1 rfl | exact hH.g 2 rfl | exact hH.g 3 rfl | exact hH.g 4 rfl | exact hH.g 5 rfl | exact hH.g 6 rfl | exact hH.g 7 rfl | exact hH.g 8 rfl | exact hH.g 9 rfl | exact hH.g 10 rfl | exact hH.g 11 rfl | exact hH.g 12 rfl | exact hH.g 13 rfl | exact hH.g 14 rfl | exact hH.g 15 rfl | exact hH.g 16 rfl | exact hH.g 17 rfl | exact hH.g 18 rfl) (by decide) (Nat.le_of_ble_eq_true rfl) (cm_z (c_Mo_wrong hH hR6.2.2.2.2.2.2 (f := 9) (pl := 4) (by omega)) (fun b h8 hq => ?_))
                  obtain ⟨rfl, hE, hF8⟩ := hq
                  refine ax_zret d_Mo_reads_155 rfl (by decide) ?_
                  exact RdQ_e hs (hE.tr ki15 ka16 rfl rfl) (hF.tr hF8)
              · exact absurd (bz_f hcb) (by decide)
end RRDS
theorem rdT_e {T : List Int} {e : RF} (h : rdHead T = .inl e) : (.inl e : Sum RF (List Int)) = rdT T := by rw [rdT, h]
set_option maxRecDepth 100000 in
set_option maxHeartbeats 16000000 in
theorem c_Mo_reads {h0 : ax_H} {iz : Nat → Int} {ar : Nat → Nat → Int} {T : List Int} (hH : MoH h0 iz ar) (hR : MoR iz ar T 0) : ax_Cz m_Mo_reads 4 [.ref 47] h0 (fun b h1 => (match rdT T with
    | .inl e => RdE h1 iz ar e
    | .inr u => u.length ≤ 600 ∧ Bs u ∧ ∃ iz1 ar1, MoH h1 iz1 ar1 ∧ KI [0, 2, 12, 27] iz iz1 ∧ KA RKA ar ar1 ∧ iz1 0 = u.length ∧ la (ar1 1) u) ∧ Fr MOS h0 h1) := by
  have hF : Fr MOS h0 h0 := Fr.rf
  refine ax_enter [some (.ref 47), none, none, none, none, none] rfl (Nat.le_of_ble_eq_true rfl) (by decide) ?_
  show ax_W _ _ _ _ _ _ (RdQ h0 iz ar T)
  refine ax_aload_n d_Mo_reads_0 rfl ?_
  refine az_bipush _ d_Mo_reads_1 (by decide) ?_
  refine ax_cV1 d_Mo_reads_3 v_Mo_get lk_Mo_203 (by first | assumption | exact hH.g 0 rfl | exact hH.g 1 rfl | exact hH.g 2 rfl | exact hH.g 3 rfl | exact hH.g 4 rfl | exact hH.g 5 rfl | exact hH.g 6 rfl | exact hH.g 7 rfl | exact hH.g 8 rfl | exact hH.g 9 rfl | exact hH.g 10 rfl | exact hH.g 11 rfl | exact hH.g 12 rfl | exact hH.g 13 rfl | exact hH.g 14 rfl | exact hH.g 15 rfl | exact hH.g 16 rfl | exact hH.g 17 rfl | exact hH.g 18 rfl) (by decide) (Nat.le_of_ble_eq_true rfl) (cm_j (c_Mo_get hH hR (n := 16) (by omega)) (fun z h1 hq => ?_))
  obtain ⟨hq, hF1⟩ := hq
  by_cases hl1 : 8 * T.length < 0 + 16
  · have hd : rdHead T = .inl (1, T.length) := by
      unfold rdHead
      rw [if_pos (by omega)]
    rw [if_pos hl1] at hq
    obtain ⟨rfl, hE⟩ := hq
    have hE0 := hE
    obtain ⟨iz1, ar1, hH, -, -, e28, -, b1, b2⟩ := hE
    have hcm := cmp3_sp 0 21332
    refine aj_ldc2 21332 d_Mo_reads_6 cn_Mo_170 ?_
    refine aj_lcmp d_Mo_reads_9 (by omega) (by omega) ?_
    refine az_if_eq 20 d_Mo_reads_10 (by decide) (by first | exact bz_in _ | omega) (fun heq => ?_) (fun heq => ?_)
    · exfalso
      omega
    · refine ax_aload_n d_Mo_reads_13 rfl ?_
      refine az_iconst d_Mo_reads_14 ?_
      refine az_iconst d_Mo_reads_15 ?_
      refine ax_cV2 d_Mo_reads_16 v_Mo_wrong lk_Mo_200 (by first | assumption | exact hH.g 0 rfl | exact hH.g 1 rfl | exact hH.g 2 rfl | exact hH.g 3 rfl | exact hH.g 4 rfl | exact hH.g 5 rfl | exact hH.g 6 rfl | exact hH.g 7 rfl | exact hH.g 8 rfl | exact hH.g 9 rfl | exact hH.g 10 rfl | exact hH.g 11 rfl | exact hH.g 12 rfl | exact hH.g 13 rfl | exact hH.g 14 rfl | exact hH.g 15 rfl | exact hH.g 16 rfl | exact hH.g 17 rfl | exact hH.g 18 rfl) (by decide) (Nat.le_of_ble_eq_true rfl) (cm_z (c_Mo_wrong2 hH (f := 2) (pl := 0) (by rw [e28]; exact ⟨b1, b2⟩)) (fun b h2 hq => ?_))
      obtain ⟨rfl, rfl⟩ := hq
      refine ax_zret d_Mo_reads_19 rfl (by decide) ?_
      exact RdQ_e (rdT_e hd) hE0 (hF.tr hF1)
  · rw [if_neg hl1] at hq
    obtain ⟨rfl, iz1, hH1, ki1, hR1⟩ := hq
    have hH := hH1
    have htv := tv_lt T 16 0
    have e28 := hR1.2.2.2.2.2.2
    have hcm := cmp3_sp (tv T 16 0 : Int) 21332
    have hF := hF.tr hF1
    refine aj_ldc2 21332 d_Mo_reads_6 cn_Mo_170 ?_
    refine aj_lcmp d_Mo_reads_9 (by omega) (by omega) ?_
    refine az_if_eq 20 d_Mo_reads_10 (by decide) (by first | exact bz_in _ | omega) (fun heq => ?_) (fun heq => ?_)
    · have hm : ¬ tv T 16 0 ≠ 21332 := by omega
      refine ax_aload_n d_Mo_reads_20 rfl ?_
      refine az_bipush _ d_Mo_reads_21 (by decide) ?_
      refine ax_cV1 d_Mo_reads_23 v_Mo_get lk_Mo_203 (by first | assumption | exact hH.g 0 rfl | exact hH.g 1 rfl | exact hH.g 2 rfl | exact hH.g 3 rfl | exact hH.g 4 rfl | exact hH.g 5 rfl | exact hH.g 6 rfl | exact hH.g 7 rfl | exact hH.g 8 rfl | exact hH.g 9 rfl | exact hH.g 10 rfl | exact hH.g 11 rfl | exact hH.g 12 rfl | exact hH.g 13 rfl | exact hH.g 14 rfl | exact hH.g 15 rfl | exact hH.g 16 rfl | exact hH.g 17 rfl | exact hH.g 18 rfl) (by decide) (Nat.le_of_ble_eq_true rfl) (cm_j (c_Mo_get hH hR1 (n := 16) (by omega)) (fun z h2 hq => ?_))
      obtain ⟨hq, hF2⟩ := hq
      by_cases hl2 : 8 * T.length < 0 + 16 + 16
      · have hd : rdHead T = .inl (1, T.length) := by
          unfold rdHead
          rw [if_neg (by omega), if_neg hm, if_pos (by omega)]
        rw [if_pos hl2] at hq
        obtain ⟨rfl, hE⟩ := hq
        have hE0 := hE.tr ki1 (KA.rf (K := [])) rfl rfl
        obtain ⟨iz2, ar2, hH, -, -, f28, -, b1, b2⟩ := hE
        refine aj_l2i d_Mo_reads_26 ?_
        refine ax_istore_n d_Mo_reads_27 (by decide) rfl ?_
        refine ax_aload_n d_Mo_reads_28 rfl ?_
        refine ax_get d_Mo_reads_29 fg_Mo_194 (by first | assumption | exact hH.g 0 rfl | exact hH.g 1 rfl | exact hH.g 2 rfl | exact hH.g 3 rfl | exact hH.g 4 rfl | exact hH.g 5 rfl | exact hH.g 6 rfl | exact hH.g 7 rfl | exact hH.g 8 rfl | exact hH.g 9 rfl | exact hH.g 10 rfl | exact hH.g 11 rfl | exact hH.g 12 rfl | exact hH.g 13 rfl | exact hH.g 14 rfl | exact hH.g 15 rfl | exact hH.g 16 rfl | exact hH.g 17 rfl | exact hH.g 18 rfl) (by rfl) ?_
        refine az_if_eq 37 d_Mo_reads_32 (by decide) (by first | exact bz_in _ | omega) (fun hc => ?_) (fun hc => ?_)
        · exfalso
          omega
        · refine az_iconst d_Mo_reads_35 ?_
          refine ax_zret d_Mo_reads_36 rfl (by decide) ?_
          exact RdQ_e (rdT_e hd) hE0 (hF.tr hF2)
      · rw [if_neg hl2] at hq
        obtain ⟨rfl, iz2, hH2, ki2, hR2⟩ := hq
        have hH := hH2
        have hF := hF.tr hF2
        have f28 := hR2.2.2.2.2.2.2
        have htn := tv_lt T 16 16
        have e16 : tv T 16 (0 + 16) = tv T 16 16 := rfl
        rw [e16]
        refine aj_l2i d_Mo_reads_26 ?_
        refine ax_istore_n d_Mo_reads_27 (by decide) rfl ?_
        refine ax_aload_n d_Mo_reads_28 rfl ?_
        refine ax_get d_Mo_reads_29 fg_Mo_194 (by first | assumption | exact hH.g 0 rfl | exact hH.g 1 rfl | exact hH.g 2 rfl | exact hH.g 3 rfl | exact hH.g 4 rfl | exact hH.g 5 rfl | exact hH.g 6 rfl | exact hH.g 7 rfl | exact hH.g 8 rfl | exact hH.g 9 rfl | exact hH.g 10 rfl | exact hH.g 11 rfl | exact hH.g 12 rfl | exact hH.g 13 rfl | exact hH.g 14 rfl | exact hH.g 15 rfl | exact hH.g 16 rfl | exact hH.g 17 rfl | exact hH.g 18 rfl) (by rfl) ?_
        refine az_if_eq 37 d_Mo_reads_32 (by decide) (by first | exact bz_in _ | omega) (fun hc => ?_) (fun hc => ?_)
        · refine ax_iload_n d_Mo_reads_37 rfl ?_
          refine az_sipush _ d_Mo_reads_38 (by decide) ?_
          refine az_icmp_le 51 d_Mo_reads_41 (by decide) (by omega) (by omega) (fun h9 => ?_) (fun h9 => ?_)
          · refine ax_aload_n d_Mo_reads_51 rfl ?_
            refine az_bipush _ d_Mo_reads_52 (by decide) ?_
            refine ax_cV1 d_Mo_reads_54 v_Mo_get lk_Mo_203 (by first | assumption | exact hH.g 0 rfl | exact hH.g 1 rfl | exact hH.g 2 rfl | exact hH.g 3 rfl | exact hH.g 4 rfl | exact hH.g 5 rfl | exact hH.g 6 rfl | exact hH.g 7 rfl | exact hH.g 8 rfl | exact hH.g 9 rfl | exact hH.g 10 rfl | exact hH.g 11 rfl | exact hH.g 12 rfl | exact hH.g 13 rfl | exact hH.g 14 rfl | exact hH.g 15 rfl | exact hH.g 16 rfl | exact hH.g 17 rfl | exact hH.g 18 rfl) (by decide) (Nat.le_of_ble_eq_true rfl) (cm_j (c_Mo_get hH hR2 (n := 16) (by omega)) (fun z h3 hq => ?_))
            obtain ⟨hq, hF3⟩ := hq
            by_cases hl3 : 8 * T.length < 0 + 16 + 16 + 16
            · have hd : rdHead T = .inl (1, T.length) := by
                unfold rdHead
                rw [if_neg (by omega), if_neg hm, if_neg (by omega), if_neg (by omega), if_pos (by omega)]
              rw [if_pos hl3] at hq
              obtain ⟨rfl, hE⟩ := hq
              have hE0 := hE.tr (ki1.tr ki2) (KA.rf (K := [])) rfl rfl
              obtain ⟨iz3, ar3, hH, -, -, g28, -, b1, b2⟩ := hE
              refine aj_l2i d_Mo_reads_57 ?_
              refine ax_istore_n d_Mo_reads_58 (by decide) rfl ?_
              refine ax_aload_n d_Mo_reads_59 rfl ?_
              refine ax_get d_Mo_reads_60 fg_Mo_194 (by first | assumption | exact hH.g 0 rfl | exact hH.g 1 rfl | exact hH.g 2 rfl | exact hH.g 3 rfl | exact hH.g 4 rfl | exact hH.g 5 rfl | exact hH.g 6 rfl | exact hH.g 7 rfl | exact hH.g 8 rfl | exact hH.g 9 rfl | exact hH.g 10 rfl | exact hH.g 11 rfl | exact hH.g 12 rfl | exact hH.g 13 rfl | exact hH.g 14 rfl | exact hH.g 15 rfl | exact hH.g 16 rfl | exact hH.g 17 rfl | exact hH.g 18 rfl) (by rfl) ?_
              refine az_if_eq 68 d_Mo_reads_63 (by decide) (by first | exact bz_in _ | omega) (fun hc => ?_) (fun hc => ?_)
              · exfalso
                omega
              · refine az_iconst d_Mo_reads_66 ?_
                refine ax_zret d_Mo_reads_67 rfl (by decide) ?_
                exact RdQ_e (rdT_e hd) hE0 (hF.tr hF3)
            · rw [if_neg hl3] at hq
              obtain ⟨rfl, iz3, hH3, ki3, hR3⟩ := hq
              have hH := hH3
              have hF := hF.tr hF3
              have g28 := hR3.2.2.2.2.2.2
              have hto := tv_lt T 16 32
              have e32 : tv T 16 (0 + 16 + 16) = tv T 16 32 := rfl
              rw [e32]
              have ki13 := (ki1.tr ki2).tr ki3
              -- the place of the origin is wrong
              have bad : tv T 16 32 ≠ 0 ∧ tv T 16 16 ≤ tv T 16 32 → ax_W m_Mo_reads 4 84 [some (.ref 47), some (.int (iv ((tv T 16 16 : Nat) : Int))), some (.int (iv ((tv T 16 32 : Nat) : Int))), none, none, none] [] h3 (RdQ h0 iz ar T) := by
                intro hb
                have hd : rdHead T = .inl (4, 4) := by
                  unfold rdHead
                  rw [if_neg (by omega), if_neg hm, if_neg (by omega), if_neg (by omega), if_neg (by omega), if_pos hb]
                refine ax_aload_n d_Mo_reads_84 rfl ?_
                refine az_iconst d_Mo_reads_85 ?_
                refine az_iconst d_Mo_reads_86 ?_
                refine ax_cV2 d_Mo_reads_87 v_Mo_wrong lk_Mo_200 (by first | assumption | exact hH.g 0 rfl | exact hH.g 1 rfl | exact hH.g 2 rfl | exact hH.g 3 rfl | exact hH.g 4 rfl | exact hH.g 5 rfl | exact hH.g 6 rfl | exact hH.g 7 rfl | exact hH.g 8 rfl | exact hH.g 9 rfl | exact hH.g 10 rfl | exact hH.g 11 rfl | exact hH.g 12 rfl | exact hH.g 13 rfl | exact hH.g 14 rfl | exact hH.g 15 rfl | exact hH.g 16 rfl | exact hH.g 17 rfl | exact hH.g 18 rfl) (by decide) (Nat.le_of_ble_eq_true rfl) (cm_z (c_Mo_wrong hH g28 (f := 4) (pl := 4) (by omega)) (fun b h7 hq => ?_))
                obtain ⟨rfl, hE, hF7⟩ := hq
                refine ax_zret d_Mo_reads_90 rfl (by decide) ?_
                exact RdQ_e (rdT_e hd) (hE.tr ki13 (KA.rf (K := [])) rfl rfl) (hF.tr hF7)
              have good : ¬ (tv T 16 32 ≠ 0 ∧ tv T 16 16 ≤ tv T 16 32) → ax_W m_Mo_reads 4 91 [some (.ref 47), some (.int (iv ((tv T 16 16 : Nat) : Int))), some (.int (iv ((tv T 16 32 : Nat) : Int))), none, none, none] [] h3 (RdQ h0 iz ar T) := by
                intro hb
                refine ax_aload_n d_Mo_reads_91 rfl ?_
                refine az_bipush _ d_Mo_reads_92 (by decide) ?_
                refine ax_cV1 d_Mo_reads_94 v_Mo_get lk_Mo_203 (by first | assumption | exact hH.g 0 rfl | exact hH.g 1 rfl | exact hH.g 2 rfl | exact hH.g 3 rfl | exact hH.g 4 rfl | exact hH.g 5 rfl | exact hH.g 6 rfl | exact hH.g 7 rfl | exact hH.g 8 rfl | exact hH.g 9 rfl | exact hH.g 10 rfl | exact hH.g 11 rfl | exact hH.g 12 rfl | exact hH.g 13 rfl | exact hH.g 14 rfl | exact hH.g 15 rfl | exact hH.g 16 rfl | exact hH.g 17 rfl | exact hH.g 18 rfl) (by decide) (Nat.le_of_ble_eq_true rfl) (cm_j (c_Mo_get hH hR3 (n := 32) (by omega)) (fun z h4 hq => ?_))
                obtain ⟨hq, hF4⟩ := hq
                by_cases hl4 : 8 * T.length < 0 + 16 + 16 + 16 + 32
                · have hd : rdHead T = .inl (1, T.length) := by
                    unfold rdHead
                    rw [if_neg (by omega), if_neg hm, if_neg (by omega), if_neg (by omega), if_neg (by omega), if_neg hb, if_pos (by omega)]
                  rw [if_pos hl4] at hq
                  obtain ⟨rfl, hE⟩ := hq
                  have hE0 := hE.tr ki13 (KA.rf (K := [])) rfl rfl
                  obtain ⟨iz4, ar4, hH, -, -, i28, -, b1, b2⟩ := hE
                  refine ax_lstore_n d_Mo_reads_97 (by decide) rfl ?_
                  refine ax_aload_n d_Mo_reads_98 rfl ?_
                  refine ax_get d_Mo_reads_99 fg_Mo_194 (by first | assumption | exact hH.g 0 rfl | exact hH.g 1 rfl | exact hH.g 2 rfl | exact hH.g 3 rfl | exact hH.g 4 rfl | exact hH.g 5 rfl | exact hH.g 6 rfl | exact hH.g 7 rfl | exact hH.g 8 rfl | exact hH.g 9 rfl | exact hH.g 10 rfl | exact hH.g 11 rfl | exact hH.g 12 rfl | exact hH.g 13 rfl | exact hH.g 14 rfl | exact hH.g 15 rfl | exact hH.g 16 rfl | exact hH.g 17 rfl | exact hH.g 18 rfl) (by rfl) ?_
                  refine az_if_eq 107 d_Mo_reads_102 (by decide) (by first | exact bz_in _ | omega) (fun hc => ?_) (fun hc => ?_)
                  · exfalso
                    omega
                  · refine az_iconst d_Mo_reads_105 ?_
                    refine ax_zret d_Mo_reads_106 rfl (by decide) ?_
                    exact RdQ_e (rdT_e hd) hE0 (hF.tr hF4)
                · have hd : rdHead T = .inr (tv T 16 16, tv T 16 32, tv T 32 48) := by
                    unfold rdHead
                    rw [if_neg (by omega), if_neg hm, if_neg (by omega), if_neg (by omega), if_neg (by omega), if_neg hb, if_neg (by omega)]
                  rw [if_neg hl4] at hq
                  obtain ⟨rfl, iz4, hH4, ki4, hR4⟩ := hq
                  have hH := hH4
                  have i28 := hR4.2.2.2.2.2.2
                  have e48 : tv T 32 (0 + 16 + 16 + 16) = tv T 32 48 := rfl
                  rw [e48]
                  have htk := tv_lt T 32 48
                  refine ax_lstore_n d_Mo_reads_97 (by decide) rfl ?_
                  refine ax_aload_n d_Mo_reads_98 rfl ?_
                  refine ax_get d_Mo_reads_99 fg_Mo_194 (by first | assumption | exact hH.g 0 rfl | exact hH.g 1 rfl | exact hH.g 2 rfl | exact hH.g 3 rfl | exact hH.g 4 rfl | exact hH.g 5 rfl | exact hH.g 6 rfl | exact hH.g 7 rfl | exact hH.g 8 rfl | exact hH.g 9 rfl | exact hH.g 10 rfl | exact hH.g 11 rfl | exact hH.g 12 rfl | exact hH.g 13 rfl | exact hH.g 14 rfl | exact hH.g 15 rfl | exact hH.g 16 rfl | exact hH.g 17 rfl | exact hH.g 18 rfl) (by rfl) ?_
                  refine az_if_eq 107 d_Mo_reads_102 (by decide) (by first | exact bz_in _ | omega) (fun hc => ?_) (fun hc => ?_)
                  · exact w_Mo_rbody htk (by omega) hb hH4 (hF.tr hF4) (ki13.tr ki4) hR4 hd _
                  · exfalso
                    omega
              refine aj_l2i d_Mo_reads_57 ?_
              refine ax_istore_n d_Mo_reads_58 (by decide) rfl ?_
              refine ax_aload_n d_Mo_reads_59 rfl ?_
              refine ax_get d_Mo_reads_60 fg_Mo_194 (by first | assumption | exact hH.g 0 rfl | exact hH.g 1 rfl | exact hH.g 2 rfl | exact hH.g 3 rfl | exact hH.g 4 rfl | exact hH.g 5 rfl | exact hH.g 6 rfl | exact hH.g 7 rfl | exact hH.g 8 rfl | exact hH.g 9 rfl | exact hH.g 10 rfl | exact hH.g 11 rfl | exact hH.g 12 rfl | exact hH.g 13 rfl | exact hH.g 14 rfl | exact hH.g 15 rfl | exact hH.g 16 rfl | exact hH.g 17 rfl | exact hH.g 18 rfl) (by rfl) ?_
              refine az_if_eq 68 d_Mo_reads_63 (by decide) (by first | exact bz_in _ | omega) (fun hc => ?_) (fun hc => ?_)
              · refine ax_iload_n d_Mo_reads_68 rfl ?_
                refine az_if_ne 79 d_Mo_reads_69 (by decide) (by first | exact bz_in _ | omega) (fun hn0 => ?_) (fun hn0 => ?_)
                · refine ax_iload_n d_Mo_reads_79 rfl ?_
                  refine ax_iload_n d_Mo_reads_80 rfl ?_
                  refine az_icmp_lt 91 d_Mo_reads_81 (by decide) (by omega) (by omega) (fun hlt => ?_) (fun hlt => ?_)
                  · exact good (by omega)
                  · exact bad (by omega)
                · refine ax_iload_n d_Mo_reads_72 rfl ?_
                  refine az_if_eq 91 d_Mo_reads_73 (by decide) (by first | exact bz_in _ | omega) (fun ho0 => ?_) (fun ho0 => ?_)
                  · exact good (by omega)
                  · refine ax_goto 84 d_Mo_reads_76 (by decide) ?_
                    exact bad (by omega)
              · exfalso
                omega
          · have hd : rdHead T = .inl (3, 2) := by
              unfold rdHead
              rw [if_neg (by omega), if_neg hm, if_neg (by omega), if_pos (by omega)]
            refine ax_aload_n d_Mo_reads_44 rfl ?_
            refine az_iconst d_Mo_reads_45 ?_
            refine az_iconst d_Mo_reads_46 ?_
            refine ax_cV2 d_Mo_reads_47 v_Mo_wrong lk_Mo_200 (by first | assumption | exact hH.g 0 rfl | exact hH.g 1 rfl | exact hH.g 2 rfl | exact hH.g 3 rfl | exact hH.g 4 rfl | exact hH.g 5 rfl | exact hH.g 6 rfl | exact hH.g 7 rfl | exact hH.g 8 rfl | exact hH.g 9 rfl | exact hH.g 10 rfl | exact hH.g 11 rfl | exact hH.g 12 rfl | exact hH.g 13 rfl | exact hH.g 14 rfl | exact hH.g 15 rfl | exact hH.g 16 rfl | exact hH.g 17 rfl | exact hH.g 18 rfl) (by decide) (Nat.le_of_ble_eq_true rfl) (cm_z (c_Mo_wrong hH f28 (f := 3) (pl := 2) (by omega)) (fun b h7 hq => ?_))
            obtain ⟨rfl, hE, hF7⟩ := hq
            refine ax_zret d_Mo_reads_50 rfl (by decide) ?_
            exact RdQ_e (rdT_e hd) (hE.tr (ki1.tr ki2) (KA.rf (K := [])) rfl rfl) (hF.tr hF7)
        · exfalso
          omega
    · have hd : rdHead T = .inl (2, 0) := by
        unfold rdHead
        rw [if_neg (by omega), if_pos (by omega)]
      refine ax_aload_n d_Mo_reads_13 rfl ?_
      refine az_iconst d_Mo_reads_14 ?_
      refine az_iconst d_Mo_reads_15 ?_
      refine ax_cV2 d_Mo_reads_16 v_Mo_wrong lk_Mo_200 (by first | assumption | exact hH.g 0 rfl | exact hH.g 1 rfl | exact hH.g 2 rfl | exact hH.g 3 rfl | exact hH.g 4 rfl | exact hH.g 5 rfl | exact hH.g 6 rfl | exact hH.g 7 rfl | exact hH.g 8 rfl | exact hH.g 9 rfl | exact hH.g 10 rfl | exact hH.g 11 rfl | exact hH.g 12 rfl | exact hH.g 13 rfl | exact hH.g 14 rfl | exact hH.g 15 rfl | exact hH.g 16 rfl | exact hH.g 17 rfl | exact hH.g 18 rfl) (by decide) (Nat.le_of_ble_eq_true rfl) (cm_z (c_Mo_wrong hH e28 (f := 2) (pl := 0) (by omega)) (fun b h7 hq => ?_))
      obtain ⟨rfl, hE, hF7⟩ := hq
      refine ax_zret d_Mo_reads_19 rfl (by decide) ?_
      exact RdQ_e (rdT_e hd) (hE.tr ki1 (KA.rf (K := [])) rfl rfl) (hF.tr hF7)
set_option maxRecDepth 100000 in
set_option maxHeartbeats 16000000 in
theorem c_Mo_read {h0 : ax_H} {xs T out : List Int} {fp : Int} (hM : MoI h0 xs T out fp) : ax_Ci m_Mo_read 5 [.ref 47] h0 (fun z h1 => z = (aRead xs T).1 ∧ MoI h1 (aRead xs T).2.1 [] out (aRead xs T).2.2 ∧ Fr MOS h0 h1) := by
  obtain ⟨iz, ar, hH, hQ⟩ := hM
  obtain ⟨k1, k2, k3, k4, k5, k6, k7, k8, k9, k10, k11, k12, k13, k14⟩ := id hQ
  have hF : Fr MOS h0 h0 := Fr.rf
  refine ax_enter [some (.ref 47), none, none] rfl (Nat.le_of_ble_eq_true rfl) (by decide) ?_
  refine ax_aload_n d_Mo_read_0 rfl ?_
  refine az_iconst d_Mo_read_1 ?_
  first | refine ah_put d_Mo_read_2 fp_Mo_197 hH hF 0 rfl rfl rfl (by first | rfl | decide) (Nat.le_of_ble_eq_true rfl) (fun h hH hF => ?_) | refine ah_put d_Mo_read_2 fp_Mo_197 hH hF 1 rfl rfl rfl (by first | rfl | decide) (Nat.le_of_ble_eq_true rfl) (fun h hH hF => ?_) | refine ah_put d_Mo_read_2 fp_Mo_197 hH hF 2 rfl rfl rfl (by first | rfl | decide) (Nat.le_of_ble_eq_true rfl) (fun h hH hF => ?_) | refine ah_put d_Mo_read_2 fp_Mo_197 hH hF 3 rfl rfl rfl (by first | rfl | decide) (Nat.le_of_ble_eq_true rfl) (fun h hH hF => ?_) | refine ah_put d_Mo_read_2 fp_Mo_197 hH hF 4 rfl rfl rfl (by first | rfl | decide) (Nat.le_of_ble_eq_true rfl) (fun h hH hF => ?_) | refine ah_put d_Mo_read_2 fp_Mo_197 hH hF 5 rfl rfl rfl (by first | rfl | decide) (Nat.le_of_ble_eq_true rfl) (fun h hH hF => ?_) | refine ah_put d_Mo_read_2 fp_Mo_197 hH hF 6 rfl rfl rfl (by first | rfl | decide) (Nat.le_of_ble_eq_true rfl) (fun h hH hF => ?_) | refine ah_put d_Mo_read_2 fp_Mo_197 hH hF 7 rfl rfl rfl (by first | rfl | decide) (Nat.le_of_ble_eq_true rfl) (fun h hH hF => ?_) | refine ah_put d_Mo_read_2 fp_Mo_197 hH hF 8 rfl rfl rfl (by first | rfl | decide) (Nat.le_of_ble_eq_true rfl) (fun h hH hF => ?_) | refine ah_put d_Mo_read_2 fp_Mo_197 hH hF 9 rfl rfl rfl (by first | rfl | decide) (Nat.le_of_ble_eq_true rfl) (fun h hH hF => ?_) | refine ah_put d_Mo_read_2 fp_Mo_197 hH hF 10 rfl rfl rfl (by first | rfl | decide) (Nat.le_of_ble_eq_true rfl) (fun h hH hF => ?_) | refine ah_put d_Mo_read_2 fp_Mo_197 hH hF 11 rfl rfl rfl (by first | rfl | decide) (Nat.le_of_ble_eq_true rfl) (fun h hH hF => ?_) | refine ah_put d_Mo_read_2 fp_Mo_197 hH hF 12 rfl rfl rfl (by first | rfl | decide) (Nat.le_of_ble_eq_true rfl) (fun h hH hF => ?_) | refine ah_put d_Mo_read_2 fp_Mo_197 hH hF 13 rfl rfl rfl (by first | rfl | decide) (Nat.le_of_ble_eq_true rfl) (fun h hH hF => ?_) | refine ah_put d_Mo_read_2 fp_Mo_197 hH hF 14 rfl rfl rfl (by first | rfl | decide) (Nat.le_of_ble_eq_true rfl) (fun h hH hF => ?_) | refine ah_put d_Mo_read_2 fp_Mo_197 hH hF 15 rfl rfl rfl (by first | rfl | decide) (Nat.le_of_ble_eq_true rfl) (fun h hH hF => ?_) | refine ah_put d_Mo_read_2 fp_Mo_197 hH hF 16 rfl rfl rfl (by first | rfl | decide) (Nat.le_of_ble_eq_true rfl) (fun h hH hF => ?_) | refine ah_put d_Mo_read_2 fp_Mo_197 hH hF 17 rfl rfl rfl (by first | rfl | decide) (Nat.le_of_ble_eq_true rfl) (fun h hH hF => ?_) | refine ah_put d_Mo_read_2 fp_Mo_197 hH hF 18 rfl rfl rfl (by first | rfl | decide) (Nat.le_of_ble_eq_true rfl) (fun h hH hF => ?_)
  refine ax_aload_n d_Mo_read_5 rfl ?_
  refine az_iconst d_Mo_read_6 ?_
  first | refine ah_put d_Mo_read_7 fp_Mo_194 hH hF 0 rfl rfl rfl (by first | rfl | decide) (Nat.le_of_ble_eq_true rfl) (fun h hH hF => ?_) | refine ah_put d_Mo_read_7 fp_Mo_194 hH hF 1 rfl rfl rfl (by first | rfl | decide) (Nat.le_of_ble_eq_true rfl) (fun h hH hF => ?_) | refine ah_put d_Mo_read_7 fp_Mo_194 hH hF 2 rfl rfl rfl (by first | rfl | decide) (Nat.le_of_ble_eq_true rfl) (fun h hH hF => ?_) | refine ah_put d_Mo_read_7 fp_Mo_194 hH hF 3 rfl rfl rfl (by first | rfl | decide) (Nat.le_of_ble_eq_true rfl) (fun h hH hF => ?_) | refine ah_put d_Mo_read_7 fp_Mo_194 hH hF 4 rfl rfl rfl (by first | rfl | decide) (Nat.le_of_ble_eq_true rfl) (fun h hH hF => ?_) | refine ah_put d_Mo_read_7 fp_Mo_194 hH hF 5 rfl rfl rfl (by first | rfl | decide) (Nat.le_of_ble_eq_true rfl) (fun h hH hF => ?_) | refine ah_put d_Mo_read_7 fp_Mo_194 hH hF 6 rfl rfl rfl (by first | rfl | decide) (Nat.le_of_ble_eq_true rfl) (fun h hH hF => ?_) | refine ah_put d_Mo_read_7 fp_Mo_194 hH hF 7 rfl rfl rfl (by first | rfl | decide) (Nat.le_of_ble_eq_true rfl) (fun h hH hF => ?_) | refine ah_put d_Mo_read_7 fp_Mo_194 hH hF 8 rfl rfl rfl (by first | rfl | decide) (Nat.le_of_ble_eq_true rfl) (fun h hH hF => ?_) | refine ah_put d_Mo_read_7 fp_Mo_194 hH hF 9 rfl rfl rfl (by first | rfl | decide) (Nat.le_of_ble_eq_true rfl) (fun h hH hF => ?_) | refine ah_put d_Mo_read_7 fp_Mo_194 hH hF 10 rfl rfl rfl (by first | rfl | decide) (Nat.le_of_ble_eq_true rfl) (fun h hH hF => ?_) | refine ah_put d_Mo_read_7 fp_Mo_194 hH hF 11 rfl rfl rfl (by first | rfl | decide) (Nat.le_of_ble_eq_true rfl) (fun h hH hF => ?_) | refine ah_put d_Mo_read_7 fp_Mo_194 hH hF 12 rfl rfl rfl (by first | rfl | decide) (Nat.le_of_ble_eq_true rfl) (fun h hH hF => ?_) | refine ah_put d_Mo_read_7 fp_Mo_194 hH hF 13 rfl rfl rfl (by first | rfl | decide) (Nat.le_of_ble_eq_true rfl) (fun h hH hF => ?_) | refine ah_put d_Mo_read_7 fp_Mo_194 hH hF 14 rfl rfl rfl (by first | rfl | decide) (Nat.le_of_ble_eq_true rfl) (fun h hH hF => ?_) | refine ah_put d_Mo_read_7 fp_Mo_194 hH hF 15 rfl rfl rfl (by first | rfl | decide) (Nat.le_of_ble_eq_true rfl) (fun h hH hF => ?_) | refine ah_put d_Mo_read_7 fp_Mo_194 hH hF 16 rfl rfl rfl (by first | rfl | decide) (Nat.le_of_ble_eq_true rfl) (fun h hH hF => ?_) | refine ah_put d_Mo_read_7 fp_Mo_194 hH hF 17 rfl rfl rfl (by first | rfl | decide) (Nat.le_of_ble_eq_true rfl) (fun h hH hF => ?_) | refine ah_put d_Mo_read_7 fp_Mo_194 hH hF 18 rfl rfl rfl (by first | rfl | decide) (Nat.le_of_ble_eq_true rfl) (fun h hH hF => ?_)
  refine ax_aload_n d_Mo_read_10 rfl ?_
  refine az_bipush _ d_Mo_read_11 (by decide) ?_
  first | refine ah_put d_Mo_read_13 fp_Mo_63 hH hF 0 rfl rfl rfl (by first | rfl | decide) (Nat.le_of_ble_eq_true rfl) (fun h hH hF => ?_) | refine ah_put d_Mo_read_13 fp_Mo_63 hH hF 1 rfl rfl rfl (by first | rfl | decide) (Nat.le_of_ble_eq_true rfl) (fun h hH hF => ?_) | refine ah_put d_Mo_read_13 fp_Mo_63 hH hF 2 rfl rfl rfl (by first | rfl | decide) (Nat.le_of_ble_eq_true rfl) (fun h hH hF => ?_) | refine ah_put d_Mo_read_13 fp_Mo_63 hH hF 3 rfl rfl rfl (by first | rfl | decide) (Nat.le_of_ble_eq_true rfl) (fun h hH hF => ?_) | refine ah_put d_Mo_read_13 fp_Mo_63 hH hF 4 rfl rfl rfl (by first | rfl | decide) (Nat.le_of_ble_eq_true rfl) (fun h hH hF => ?_) | refine ah_put d_Mo_read_13 fp_Mo_63 hH hF 5 rfl rfl rfl (by first | rfl | decide) (Nat.le_of_ble_eq_true rfl) (fun h hH hF => ?_) | refine ah_put d_Mo_read_13 fp_Mo_63 hH hF 6 rfl rfl rfl (by first | rfl | decide) (Nat.le_of_ble_eq_true rfl) (fun h hH hF => ?_) | refine ah_put d_Mo_read_13 fp_Mo_63 hH hF 7 rfl rfl rfl (by first | rfl | decide) (Nat.le_of_ble_eq_true rfl) (fun h hH hF => ?_) | refine ah_put d_Mo_read_13 fp_Mo_63 hH hF 8 rfl rfl rfl (by first | rfl | decide) (Nat.le_of_ble_eq_true rfl) (fun h hH hF => ?_) | refine ah_put d_Mo_read_13 fp_Mo_63 hH hF 9 rfl rfl rfl (by first | rfl | decide) (Nat.le_of_ble_eq_true rfl) (fun h hH hF => ?_) | refine ah_put d_Mo_read_13 fp_Mo_63 hH hF 10 rfl rfl rfl (by first | rfl | decide) (Nat.le_of_ble_eq_true rfl) (fun h hH hF => ?_) | refine ah_put d_Mo_read_13 fp_Mo_63 hH hF 11 rfl rfl rfl (by first | rfl | decide) (Nat.le_of_ble_eq_true rfl) (fun h hH hF => ?_) | refine ah_put d_Mo_read_13 fp_Mo_63 hH hF 12 rfl rfl rfl (by first | rfl | decide) (Nat.le_of_ble_eq_true rfl) (fun h hH hF => ?_) | refine ah_put d_Mo_read_13 fp_Mo_63 hH hF 13 rfl rfl rfl (by first | rfl | decide) (Nat.le_of_ble_eq_true rfl) (fun h hH hF => ?_) | refine ah_put d_Mo_read_13 fp_Mo_63 hH hF 14 rfl rfl rfl (by first | rfl | decide) (Nat.le_of_ble_eq_true rfl) (fun h hH hF => ?_) | refine ah_put d_Mo_read_13 fp_Mo_63 hH hF 15 rfl rfl rfl (by first | rfl | decide) (Nat.le_of_ble_eq_true rfl) (fun h hH hF => ?_) | refine ah_put d_Mo_read_13 fp_Mo_63 hH hF 16 rfl rfl rfl (by first | rfl | decide) (Nat.le_of_ble_eq_true rfl) (fun h hH hF => ?_) | refine ah_put d_Mo_read_13 fp_Mo_63 hH hF 17 rfl rfl rfl (by first | rfl | decide) (Nat.le_of_ble_eq_true rfl) (fun h hH hF => ?_) | refine ah_put d_Mo_read_13 fp_Mo_63 hH hF 18 rfl rfl rfl (by first | rfl | decide) (Nat.le_of_ble_eq_true rfl) (fun h hH hF => ?_)
  have hH : MoH h (up (up (up iz 27 0) 28 0) 29 (-2)) ar := hH
  have ki0 : KI [27, 28, 29] iz (up (up (up iz 27 0) 28 0) 29 (-2)) := ((KI.rf.up 27 _ rfl).up 28 _ rfl).up 29 _ rfl
  have z27 : (up (up (up iz 27 0) 28 0) 29 (-2)) 27 = 0 := rfl
  have z28 : (up (up (up iz 27 0) 28 0) 29 (-2)) 28 = 0 := rfl
  have z29 : (up (up (up iz 27 0) 28 0) 29 (-2)) 29 = -2 := rfl
  generalize up (up (up iz 27 0) 28 0) 29 (-2) = iz1 at hH ki0 z27 z28 z29
  have e0 := ki0 0 rfl
  have e26 := ki0 26 rfl
  refine ax_aload_n d_Mo_read_16 rfl ?_
  refine ax_get d_Mo_read_17 fg_Mo_76 (by first | assumption | exact hH.g 0 rfl | exact hH.g 1 rfl | exact hH.g 2 rfl | exact hH.g 3 rfl | exact hH.g 4 rfl | exact hH.g 5 rfl | exact hH.g 6 rfl | exact hH.g 7 rfl | exact hH.g 8 rfl | exact hH.g 9 rfl | exact hH.g 10 rfl | exact hH.g 11 rfl | exact hH.g 12 rfl | exact hH.g 13 rfl | exact hH.g 14 rfl | exact hH.g 15 rfl | exact hH.g 16 rfl | exact hH.g 17 rfl | exact hH.g 18 rfl) (by rfl) ?_
  rw [e0, k1]
  refine ax_istore_n d_Mo_read_20 (by decide) rfl ?_
  refine az_iconst d_Mo_read_21 ?_
  refine ax_istore_n d_Mo_read_22 (by decide) rfl ?_
  -- the block comes back
  have backK : ∀ (e : RF), aRead xs T = (-10 - e.1, xs, e.2) → ∀ (f k : Nat) (iz5 : Nat → Int) (ar5 : Nat → Nat → Int) (h : ax_H), k + f = xs.length → MoH h iz5 ar5 → Fr MOS h0 h → KI [0, 2, 12, 26, 27, 28, 29] iz iz5 → KA [1, 3, 4, 5, 10, 11, 13, 16, 17, 30] ar ar5 → iz5 0 = xs.length → iz5 26 = 0 → iz5 28 = e.1 → iz5 29 = e.2 → la (ar5 30) xs → (∀ j : Nat, j < k → ar5 1 j = gx xs j) →
      ax_W m_Mo_read 5 73 [some (.ref 47), some (.int (iv (xs.length : Int))), some (.int (iv k))] [] h (fun r0 h1 => ∃ z : Int, r0 = some (.int (iv z)) ∧ z = (aRead xs T).1 ∧ MoI h1 (aRead xs T).2.1 [] out (aRead xs T).2.2 ∧ Fr MOS h0 h1) := by
    intro e he f
    rw [he]
    induction f with
    | zero =>
      intro k iz5 ar5 h hk hH hF ki ka g0 g26 g28 g29 h30 h1
      refine ax_iload_n d_Mo_read_73 rfl ?_
      refine ax_aload_n d_Mo_read_74 rfl ?_
      refine ax_get d_Mo_read_75 fg_Mo_76 (by first | assumption | exact hH.g 0 rfl | exact hH.g 1 rfl | exact hH.g 2 rfl | exact hH.g 3 rfl | exact hH.g 4 rfl | exact hH.g 5 rfl | exact hH.g 6 rfl | exact hH.g 7 rfl | exact hH.g 8 rfl | exact hH.g 9 rfl | exact hH.g 10 rfl | exact hH.g 11 rfl | exact hH.g 12 rfl | exact hH.g 13 rfl | exact hH.g 14 rfl | exact hH.g 15 rfl | exact hH.g 16 rfl | exact hH.g 17 rfl | exact hH.g 18 rfl) (by rfl) ?_
      refine az_icmp_ge 99 d_Mo_read_78 (by decide) (by omega) (by omega) (fun hc => ?_) (fun hc => ?_)
      · refine az_bipush _ d_Mo_read_99 (by decide) ?_
        refine ax_aload_n d_Mo_read_101 rfl ?_
        refine ax_get d_Mo_read_102 fg_Mo_194 (by first | assumption | exact hH.g 0 rfl | exact hH.g 1 rfl | exact hH.g 2 rfl | exact hH.g 3 rfl | exact hH.g 4 rfl | exact hH.g 5 rfl | exact hH.g 6 rfl | exact hH.g 7 rfl | exact hH.g 8 rfl | exact hH.g 9 rfl | exact hH.g 10 rfl | exact hH.g 11 rfl | exact hH.g 12 rfl | exact hH.g 13 rfl | exact hH.g 14 rfl | exact hH.g 15 rfl | exact hH.g 16 rfl | exact hH.g 17 rfl | exact hH.g 18 rfl) (by rfl) ?_
        refine az_isub d_Mo_read_105 ?_
        refine ax_iret d_Mo_read_106 rfl ?_
        refine ⟨_, rfl, by rw [g28], ⟨iz5, ar5, hH, g0, k2, fun j hj => h1 j (by omega), k4, ?_, ?_⟩, hF⟩
        · rw [ki 6 rfl]
          rcases k5 with q | ⟨q, hL⟩
          · exact Or.inl q
          · refine Or.inr ⟨q, ?_⟩
            unfold Laid at hL ⊢
            rw [ka 7 rfl, ki 8 rfl, ki 9 rfl]
            exact hL
        · rw [ki 24 rfl, ka 22 rfl]
          exact ⟨k6, k7, k8, k9, g26, by simp, fun i hi => by simp at hi, Bs_nil, g29⟩
      · exfalso
        omega
    | succ f ih =>
      intro k iz5 ar5 h hk hH hF ki ka g0 g26 g28 g29 h30 h1
      refine ax_iload_n d_Mo_read_73 rfl ?_
      refine ax_aload_n d_Mo_read_74 rfl ?_
      refine ax_get d_Mo_read_75 fg_Mo_76 (by first | assumption | exact hH.g 0 rfl | exact hH.g 1 rfl | exact hH.g 2 rfl | exact hH.g 3 rfl | exact hH.g 4 rfl | exact hH.g 5 rfl | exact hH.g 6 rfl | exact hH.g 7 rfl | exact hH.g 8 rfl | exact hH.g 9 rfl | exact hH.g 10 rfl | exact hH.g 11 rfl | exact hH.g 12 rfl | exact hH.g 13 rfl | exact hH.g 14 rfl | exact hH.g 15 rfl | exact hH.g 16 rfl | exact hH.g 17 rfl | exact hH.g 18 rfl) (by rfl) ?_
      refine az_icmp_ge 99 d_Mo_read_78 (by decide) (by omega) (by omega) (fun hc => ?_) (fun hc => ?_)
      · exfalso
        omega
      · refine ax_aload_n d_Mo_read_81 rfl ?_
        refine ax_get d_Mo_read_82 fg_Mo_7 (by first | assumption | exact hH.g 0 rfl | exact hH.g 1 rfl | exact hH.g 2 rfl | exact hH.g 3 rfl | exact hH.g 4 rfl | exact hH.g 5 rfl | exact hH.g 6 rfl | exact hH.g 7 rfl | exact hH.g 8 rfl | exact hH.g 9 rfl | exact hH.g 10 rfl | exact hH.g 11 rfl | exact hH.g 12 rfl | exact hH.g 13 rfl | exact hH.g 14 rfl | exact hH.g 15 rfl | exact hH.g 16 rfl | exact hH.g 17 rfl | exact hH.g 18 rfl) (by rfl) ?_
        refine ax_iload_n d_Mo_read_85 rfl ?_
        refine ax_aload_n d_Mo_read_86 rfl ?_
        refine ax_get d_Mo_read_87 fg_Mo_67 (by first | assumption | exact hH.g 0 rfl | exact hH.g 1 rfl | exact hH.g 2 rfl | exact hH.g 3 rfl | exact hH.g 4 rfl | exact hH.g 5 rfl | exact hH.g 6 rfl | exact hH.g 7 rfl | exact hH.g 8 rfl | exact hH.g 9 rfl | exact hH.g 10 rfl | exact hH.g 11 rfl | exact hH.g 12 rfl | exact hH.g 13 rfl | exact hH.g 14 rfl | exact hH.g 15 rfl | exact hH.g 16 rfl | exact hH.g 17 rfl | exact hH.g 18 rfl) (by rfl) ?_
        refine ax_iload_n d_Mo_read_90 rfl ?_
        refine az_iald d_Mo_read_91 (by first | assumption | exact hH.g 0 rfl | exact hH.g 1 rfl | exact hH.g 2 rfl | exact hH.g 3 rfl | exact hH.g 4 rfl | exact hH.g 5 rfl | exact hH.g 6 rfl | exact hH.g 7 rfl | exact hH.g 8 rfl | exact hH.g 9 rfl | exact hH.g 10 rfl | exact hH.g 11 rfl | exact hH.g 12 rfl | exact hH.g 13 rfl | exact hH.g 14 rfl | exact hH.g 15 rfl | exact hH.g 16 rfl | exact hH.g 17 rfl | exact hH.g 18 rfl) (by omega) (by omega) (by omega) ?_
        first | refine ah_iast d_Mo_read_92 hH hF 0 rfl rfl (by omega) (by omega) (by omega) (by omega) (fun h hH hF => ?_) | refine ah_iast d_Mo_read_92 hH hF 1 rfl rfl (by omega) (by omega) (by omega) (by omega) (fun h hH hF => ?_) | refine ah_iast d_Mo_read_92 hH hF 2 rfl rfl (by omega) (by omega) (by omega) (by omega) (fun h hH hF => ?_) | refine ah_iast d_Mo_read_92 hH hF 3 rfl rfl (by omega) (by omega) (by omega) (by omega) (fun h hH hF => ?_) | refine ah_iast d_Mo_read_92 hH hF 4 rfl rfl (by omega) (by omega) (by omega) (by omega) (fun h hH hF => ?_) | refine ah_iast d_Mo_read_92 hH hF 5 rfl rfl (by omega) (by omega) (by omega) (by omega) (fun h hH hF => ?_) | refine ah_iast d_Mo_read_92 hH hF 6 rfl rfl (by omega) (by omega) (by omega) (by omega) (fun h hH hF => ?_) | refine ah_iast d_Mo_read_92 hH hF 7 rfl rfl (by omega) (by omega) (by omega) (by omega) (fun h hH hF => ?_) | refine ah_iast d_Mo_read_92 hH hF 8 rfl rfl (by omega) (by omega) (by omega) (by omega) (fun h hH hF => ?_) | refine ah_iast d_Mo_read_92 hH hF 9 rfl rfl (by omega) (by omega) (by omega) (by omega) (fun h hH hF => ?_) | refine ah_iast d_Mo_read_92 hH hF 10 rfl rfl (by omega) (by omega) (by omega) (by omega) (fun h hH hF => ?_) | refine ah_iast d_Mo_read_92 hH hF 11 rfl rfl (by omega) (by omega) (by omega) (by omega) (fun h hH hF => ?_) | refine ah_iast d_Mo_read_92 hH hF 12 rfl rfl (by omega) (by omega) (by omega) (by omega) (fun h hH hF => ?_) | refine ah_iast d_Mo_read_92 hH hF 13 rfl rfl (by omega) (by omega) (by omega) (by omega) (fun h hH hF => ?_) | refine ah_iast d_Mo_read_92 hH hF 14 rfl rfl (by omega) (by omega) (by omega) (by omega) (fun h hH hF => ?_) | refine ah_iast d_Mo_read_92 hH hF 15 rfl rfl (by omega) (by omega) (by omega) (by omega) (fun h hH hF => ?_) | refine ah_iast d_Mo_read_92 hH hF 16 rfl rfl (by omega) (by omega) (by omega) (by omega) (fun h hH hF => ?_) | refine ah_iast d_Mo_read_92 hH hF 17 rfl rfl (by omega) (by omega) (by omega) (by omega) (fun h hH hF => ?_) | refine ah_iast d_Mo_read_92 hH hF 18 rfl rfl (by omega) (by omega) (by omega) (by omega) (fun h hH hF => ?_)
        refine az_iinc d_Mo_read_93 rfl (by decide) rfl ?_
        refine ax_goto 73 d_Mo_read_96 (by decide) ?_
        refine ih (k + 1) iz5 (upA ar5 1 (up (ar5 1) k (ar5 30 k))) h (by omega) hH hF ki (ka.up 1 _ rfl) g0 g26 g28 g29 h30 (fun j hj => ?_)
        show up (ar5 1) k (ar5 30 k) j = _
        by_cases e : j = k
        · rw [e, up_at]
          exact h30 k (by omega)
        · rw [up_ne e]; exact h1 j (by omega)
  have keep : ∀ (f k : Nat) (ar2 : Nat → Nat → Int) (h : ax_H), k + f = xs.length → MoH h iz1 ar2 → Fr MOS h0 h → KA [30] ar ar2 → (∀ j : Nat, j < k → ar2 30 j = gx xs j) →
      ax_W m_Mo_read 5 23 [some (.ref 47), some (.int (iv (xs.length : Int))), some (.int (iv k))] [] h (fun r0 h1 => ∃ z : Int, r0 = some (.int (iv z)) ∧ z = (aRead xs T).1 ∧ MoI h1 (aRead xs T).2.1 [] out (aRead xs T).2.2 ∧ Fr MOS h0 h1) := by
    intro f
    induction f with
    | zero =>
      intro k ar2 h hk hH hF ka h30
      have hR : MoR iz1 ar2 T 0 := ⟨by rw [e26]; exact k10, k11, by rw [ka 25 rfl]; exact k12, k13, z27, by omega, z28⟩
      refine ax_iload_n d_Mo_read_23 rfl ?_
      refine ax_aload_n d_Mo_read_24 rfl ?_
      refine ax_get d_Mo_read_25 fg_Mo_76 (by first | assumption | exact hH.g 0 rfl | exact hH.g 1 rfl | exact hH.g 2 rfl | exact hH.g 3 rfl | exact hH.g 4 rfl | exact hH.g 5 rfl | exact hH.g 6 rfl | exact hH.g 7 rfl | exact hH.g 8 rfl | exact hH.g 9 rfl | exact hH.g 10 rfl | exact hH.g 11 rfl | exact hH.g 12 rfl | exact hH.g 13 rfl | exact hH.g 14 rfl | exact hH.g 15 rfl | exact hH.g 16 rfl | exact hH.g 17 rfl | exact hH.g 18 rfl) (by rfl) ?_
      refine az_icmp_ge 49 d_Mo_read_28 (by decide) (by omega) (by omega) (fun hc => ?_) (fun hc => ?_)
      · refine ax_aload_n d_Mo_read_49 rfl ?_
        refine ax_cV0 d_Mo_read_50 v_Mo_reads lk_Mo_214 (by first | assumption | exact hH.g 0 rfl | exact hH.g 1 rfl | exact hH.g 2 rfl | exact hH.g 3 rfl | exact hH.g 4 rfl | exact hH.g 5 rfl | exact hH.g 6 rfl | exact hH.g 7 rfl | exact hH.g 8 rfl | exact hH.g 9 rfl | exact hH.g 10 rfl | exact hH.g 11 rfl | exact hH.g 12 rfl | exact hH.g 13 rfl | exact hH.g 14 rfl | exact hH.g 15 rfl | exact hH.g 16 rfl | exact hH.g 17 rfl | exact hH.g 18 rfl) (by decide) (Nat.le_of_ble_eq_true rfl) (cm_z (c_Mo_reads hH hR) (fun b h3 hq => ?_))
        obtain ⟨hq, hF3⟩ := hq
        have hF := hF.tr hF3
        cases hT : rdT T with
        | inl e =>
          rw [hT] at hq
          have ha : aRead xs T = (-10 - e.1, xs, e.2) := by
            unfold aRead
            rw [hT]
          obtain ⟨iz4, ar4, hH, ki4, ka4, g28, g29, b1, b2⟩ := hq
          refine ax_pop d_Mo_read_53 rfl ?_
          refine ax_aload_n d_Mo_read_54 rfl ?_
          refine az_iconst d_Mo_read_55 ?_
          first | refine ah_put d_Mo_read_56 fp_Mo_191 hH hF 0 rfl rfl rfl (by first | rfl | decide) (Nat.le_of_ble_eq_true rfl) (fun h hH hF => ?_) | refine ah_put d_Mo_read_56 fp_Mo_191 hH hF 1 rfl rfl rfl (by first | rfl | decide) (Nat.le_of_ble_eq_true rfl) (fun h hH hF => ?_) | refine ah_put d_Mo_read_56 fp_Mo_191 hH hF 2 rfl rfl rfl (by first | rfl | decide) (Nat.le_of_ble_eq_true rfl) (fun h hH hF => ?_) | refine ah_put d_Mo_read_56 fp_Mo_191 hH hF 3 rfl rfl rfl (by first | rfl | decide) (Nat.le_of_ble_eq_true rfl) (fun h hH hF => ?_) | refine ah_put d_Mo_read_56 fp_Mo_191 hH hF 4 rfl rfl rfl (by first | rfl | decide) (Nat.le_of_ble_eq_true rfl) (fun h hH hF => ?_) | refine ah_put d_Mo_read_56 fp_Mo_191 hH hF 5 rfl rfl rfl (by first | rfl | decide) (Nat.le_of_ble_eq_true rfl) (fun h hH hF => ?_) | refine ah_put d_Mo_read_56 fp_Mo_191 hH hF 6 rfl rfl rfl (by first | rfl | decide) (Nat.le_of_ble_eq_true rfl) (fun h hH hF => ?_) | refine ah_put d_Mo_read_56 fp_Mo_191 hH hF 7 rfl rfl rfl (by first | rfl | decide) (Nat.le_of_ble_eq_true rfl) (fun h hH hF => ?_) | refine ah_put d_Mo_read_56 fp_Mo_191 hH hF 8 rfl rfl rfl (by first | rfl | decide) (Nat.le_of_ble_eq_true rfl) (fun h hH hF => ?_) | refine ah_put d_Mo_read_56 fp_Mo_191 hH hF 9 rfl rfl rfl (by first | rfl | decide) (Nat.le_of_ble_eq_true rfl) (fun h hH hF => ?_) | refine ah_put d_Mo_read_56 fp_Mo_191 hH hF 10 rfl rfl rfl (by first | rfl | decide) (Nat.le_of_ble_eq_true rfl) (fun h hH hF => ?_) | refine ah_put d_Mo_read_56 fp_Mo_191 hH hF 11 rfl rfl rfl (by first | rfl | decide) (Nat.le_of_ble_eq_true rfl) (fun h hH hF => ?_) | refine ah_put d_Mo_read_56 fp_Mo_191 hH hF 12 rfl rfl rfl (by first | rfl | decide) (Nat.le_of_ble_eq_true rfl) (fun h hH hF => ?_) | refine ah_put d_Mo_read_56 fp_Mo_191 hH hF 13 rfl rfl rfl (by first | rfl | decide) (Nat.le_of_ble_eq_true rfl) (fun h hH hF => ?_) | refine ah_put d_Mo_read_56 fp_Mo_191 hH hF 14 rfl rfl rfl (by first | rfl | decide) (Nat.le_of_ble_eq_true rfl) (fun h hH hF => ?_) | refine ah_put d_Mo_read_56 fp_Mo_191 hH hF 15 rfl rfl rfl (by first | rfl | decide) (Nat.le_of_ble_eq_true rfl) (fun h hH hF => ?_) | refine ah_put d_Mo_read_56 fp_Mo_191 hH hF 16 rfl rfl rfl (by first | rfl | decide) (Nat.le_of_ble_eq_true rfl) (fun h hH hF => ?_) | refine ah_put d_Mo_read_56 fp_Mo_191 hH hF 17 rfl rfl rfl (by first | rfl | decide) (Nat.le_of_ble_eq_true rfl) (fun h hH hF => ?_) | refine ah_put d_Mo_read_56 fp_Mo_191 hH hF 18 rfl rfl rfl (by first | rfl | decide) (Nat.le_of_ble_eq_true rfl) (fun h hH hF => ?_)
          have hH : MoH h (up iz4 26 0) ar4 := hH
          have g28' : (up iz4 26 0) 28 = e.1 := g28
          refine ax_aload_n d_Mo_read_59 rfl ?_
          refine ax_get d_Mo_read_60 fg_Mo_194 (by first | assumption | exact hH.g 0 rfl | exact hH.g 1 rfl | exact hH.g 2 rfl | exact hH.g 3 rfl | exact hH.g 4 rfl | exact hH.g 5 rfl | exact hH.g 6 rfl | exact hH.g 7 rfl | exact hH.g 8 rfl | exact hH.g 9 rfl | exact hH.g 10 rfl | exact hH.g 11 rfl | exact hH.g 12 rfl | exact hH.g 13 rfl | exact hH.g 14 rfl | exact hH.g 15 rfl | exact hH.g 16 rfl | exact hH.g 17 rfl | exact hH.g 18 rfl) (by rfl) ?_
          refine az_if_eq 107 d_Mo_read_63 (by decide) (by first | exact bz_in _ | omega) (fun hc => ?_) (fun hc => ?_)
          · exfalso
            omega
          · refine ax_aload_n d_Mo_read_66 rfl ?_
            refine ax_iload_n d_Mo_read_67 rfl ?_
            first | refine ah_put d_Mo_read_68 fp_Mo_76 hH hF 0 rfl rfl rfl (by first | rfl | decide) (Nat.le_of_ble_eq_true rfl) (fun h hH hF => ?_) | refine ah_put d_Mo_read_68 fp_Mo_76 hH hF 1 rfl rfl rfl (by first | rfl | decide) (Nat.le_of_ble_eq_true rfl) (fun h hH hF => ?_) | refine ah_put d_Mo_read_68 fp_Mo_76 hH hF 2 rfl rfl rfl (by first | rfl | decide) (Nat.le_of_ble_eq_true rfl) (fun h hH hF => ?_) | refine ah_put d_Mo_read_68 fp_Mo_76 hH hF 3 rfl rfl rfl (by first | rfl | decide) (Nat.le_of_ble_eq_true rfl) (fun h hH hF => ?_) | refine ah_put d_Mo_read_68 fp_Mo_76 hH hF 4 rfl rfl rfl (by first | rfl | decide) (Nat.le_of_ble_eq_true rfl) (fun h hH hF => ?_) | refine ah_put d_Mo_read_68 fp_Mo_76 hH hF 5 rfl rfl rfl (by first | rfl | decide) (Nat.le_of_ble_eq_true rfl) (fun h hH hF => ?_) | refine ah_put d_Mo_read_68 fp_Mo_76 hH hF 6 rfl rfl rfl (by first | rfl | decide) (Nat.le_of_ble_eq_true rfl) (fun h hH hF => ?_) | refine ah_put d_Mo_read_68 fp_Mo_76 hH hF 7 rfl rfl rfl (by first | rfl | decide) (Nat.le_of_ble_eq_true rfl) (fun h hH hF => ?_) | refine ah_put d_Mo_read_68 fp_Mo_76 hH hF 8 rfl rfl rfl (by first | rfl | decide) (Nat.le_of_ble_eq_true rfl) (fun h hH hF => ?_) | refine ah_put d_Mo_read_68 fp_Mo_76 hH hF 9 rfl rfl rfl (by first | rfl | decide) (Nat.le_of_ble_eq_true rfl) (fun h hH hF => ?_) | refine ah_put d_Mo_read_68 fp_Mo_76 hH hF 10 rfl rfl rfl (by first | rfl | decide) (Nat.le_of_ble_eq_true rfl) (fun h hH hF => ?_) | refine ah_put d_Mo_read_68 fp_Mo_76 hH hF 11 rfl rfl rfl (by first | rfl | decide) (Nat.le_of_ble_eq_true rfl) (fun h hH hF => ?_) | refine ah_put d_Mo_read_68 fp_Mo_76 hH hF 12 rfl rfl rfl (by first | rfl | decide) (Nat.le_of_ble_eq_true rfl) (fun h hH hF => ?_) | refine ah_put d_Mo_read_68 fp_Mo_76 hH hF 13 rfl rfl rfl (by first | rfl | decide) (Nat.le_of_ble_eq_true rfl) (fun h hH hF => ?_) | refine ah_put d_Mo_read_68 fp_Mo_76 hH hF 14 rfl rfl rfl (by first | rfl | decide) (Nat.le_of_ble_eq_true rfl) (fun h hH hF => ?_) | refine ah_put d_Mo_read_68 fp_Mo_76 hH hF 15 rfl rfl rfl (by first | rfl | decide) (Nat.le_of_ble_eq_true rfl) (fun h hH hF => ?_) | refine ah_put d_Mo_read_68 fp_Mo_76 hH hF 16 rfl rfl rfl (by first | rfl | decide) (Nat.le_of_ble_eq_true rfl) (fun h hH hF => ?_) | refine ah_put d_Mo_read_68 fp_Mo_76 hH hF 17 rfl rfl rfl (by first | rfl | decide) (Nat.le_of_ble_eq_true rfl) (fun h hH hF => ?_) | refine ah_put d_Mo_read_68 fp_Mo_76 hH hF 18 rfl rfl rfl (by first | rfl | decide) (Nat.le_of_ble_eq_true rfl) (fun h hH hF => ?_)
            refine az_iconst d_Mo_read_71 ?_
            refine ax_istore_n d_Mo_read_72 (by decide) rfl ?_
            refine backK e ha xs.length 0 (up (up iz4 26 0) 0 (xs.length : Int)) ar4 h (by omega) hH hF ((((ki0.wide rfl).tr (ki4.wide rfl)).up 26 _ rfl).up 0 _ rfl) ((ka.wide rfl).tr (ka4.wide rfl)) rfl rfl g28 g29 ?_ (fun j hj => by omega)
            rw [ka4 30 rfl]
            exact fun j hj => h30 j (by omega)
        | inr u =>
          rw [hT] at hq
          have ha : aRead xs T = ((u.length : Int), u, -2) := by
            unfold aRead
            rw [hT]
          obtain ⟨hul, hbu, iz4, ar4, hH, ki4, ka4, g0, g1⟩ := hq
          have g28 : iz4 28 = 0 := (ki4 28 rfl).trans z28
          have g29 : iz4 29 = -2 := (ki4 29 rfl).trans z29
          refine ax_pop d_Mo_read_53 rfl ?_
          refine ax_aload_n d_Mo_read_54 rfl ?_
          refine az_iconst d_Mo_read_55 ?_
          first | refine ah_put d_Mo_read_56 fp_Mo_191 hH hF 0 rfl rfl rfl (by first | rfl | decide) (Nat.le_of_ble_eq_true rfl) (fun h hH hF => ?_) | refine ah_put d_Mo_read_56 fp_Mo_191 hH hF 1 rfl rfl rfl (by first | rfl | decide) (Nat.le_of_ble_eq_true rfl) (fun h hH hF => ?_) | refine ah_put d_Mo_read_56 fp_Mo_191 hH hF 2 rfl rfl rfl (by first | rfl | decide) (Nat.le_of_ble_eq_true rfl) (fun h hH hF => ?_) | refine ah_put d_Mo_read_56 fp_Mo_191 hH hF 3 rfl rfl rfl (by first | rfl | decide) (Nat.le_of_ble_eq_true rfl) (fun h hH hF => ?_) | refine ah_put d_Mo_read_56 fp_Mo_191 hH hF 4 rfl rfl rfl (by first | rfl | decide) (Nat.le_of_ble_eq_true rfl) (fun h hH hF => ?_) | refine ah_put d_Mo_read_56 fp_Mo_191 hH hF 5 rfl rfl rfl (by first | rfl | decide) (Nat.le_of_ble_eq_true rfl) (fun h hH hF => ?_) | refine ah_put d_Mo_read_56 fp_Mo_191 hH hF 6 rfl rfl rfl (by first | rfl | decide) (Nat.le_of_ble_eq_true rfl) (fun h hH hF => ?_) | refine ah_put d_Mo_read_56 fp_Mo_191 hH hF 7 rfl rfl rfl (by first | rfl | decide) (Nat.le_of_ble_eq_true rfl) (fun h hH hF => ?_) | refine ah_put d_Mo_read_56 fp_Mo_191 hH hF 8 rfl rfl rfl (by first | rfl | decide) (Nat.le_of_ble_eq_true rfl) (fun h hH hF => ?_) | refine ah_put d_Mo_read_56 fp_Mo_191 hH hF 9 rfl rfl rfl (by first | rfl | decide) (Nat.le_of_ble_eq_true rfl) (fun h hH hF => ?_) | refine ah_put d_Mo_read_56 fp_Mo_191 hH hF 10 rfl rfl rfl (by first | rfl | decide) (Nat.le_of_ble_eq_true rfl) (fun h hH hF => ?_) | refine ah_put d_Mo_read_56 fp_Mo_191 hH hF 11 rfl rfl rfl (by first | rfl | decide) (Nat.le_of_ble_eq_true rfl) (fun h hH hF => ?_) | refine ah_put d_Mo_read_56 fp_Mo_191 hH hF 12 rfl rfl rfl (by first | rfl | decide) (Nat.le_of_ble_eq_true rfl) (fun h hH hF => ?_) | refine ah_put d_Mo_read_56 fp_Mo_191 hH hF 13 rfl rfl rfl (by first | rfl | decide) (Nat.le_of_ble_eq_true rfl) (fun h hH hF => ?_) | refine ah_put d_Mo_read_56 fp_Mo_191 hH hF 14 rfl rfl rfl (by first | rfl | decide) (Nat.le_of_ble_eq_true rfl) (fun h hH hF => ?_) | refine ah_put d_Mo_read_56 fp_Mo_191 hH hF 15 rfl rfl rfl (by first | rfl | decide) (Nat.le_of_ble_eq_true rfl) (fun h hH hF => ?_) | refine ah_put d_Mo_read_56 fp_Mo_191 hH hF 16 rfl rfl rfl (by first | rfl | decide) (Nat.le_of_ble_eq_true rfl) (fun h hH hF => ?_) | refine ah_put d_Mo_read_56 fp_Mo_191 hH hF 17 rfl rfl rfl (by first | rfl | decide) (Nat.le_of_ble_eq_true rfl) (fun h hH hF => ?_) | refine ah_put d_Mo_read_56 fp_Mo_191 hH hF 18 rfl rfl rfl (by first | rfl | decide) (Nat.le_of_ble_eq_true rfl) (fun h hH hF => ?_)
          have hH : MoH h (up iz4 26 0) ar4 := hH
          have g28' : (up iz4 26 0) 28 = 0 := g28
          refine ax_aload_n d_Mo_read_59 rfl ?_
          refine ax_get d_Mo_read_60 fg_Mo_194 (by first | assumption | exact hH.g 0 rfl | exact hH.g 1 rfl | exact hH.g 2 rfl | exact hH.g 3 rfl | exact hH.g 4 rfl | exact hH.g 5 rfl | exact hH.g 6 rfl | exact hH.g 7 rfl | exact hH.g 8 rfl | exact hH.g 9 rfl | exact hH.g 10 rfl | exact hH.g 11 rfl | exact hH.g 12 rfl | exact hH.g 13 rfl | exact hH.g 14 rfl | exact hH.g 15 rfl | exact hH.g 16 rfl | exact hH.g 17 rfl | exact hH.g 18 rfl) (by rfl) ?_
          refine az_if_eq 107 d_Mo_read_63 (by decide) (by first | exact bz_in _ | omega) (fun hc => ?_) (fun hc => ?_)
          · refine ax_aload_n d_Mo_read_107 rfl ?_
            refine az_iconst d_Mo_read_108 ?_
            first | refine ah_put d_Mo_read_109 fp_Mo_81 hH hF 0 rfl rfl rfl (by first | rfl | decide) (Nat.le_of_ble_eq_true rfl) (fun h hH hF => ?_) | refine ah_put d_Mo_read_109 fp_Mo_81 hH hF 1 rfl rfl rfl (by first | rfl | decide) (Nat.le_of_ble_eq_true rfl) (fun h hH hF => ?_) | refine ah_put d_Mo_read_109 fp_Mo_81 hH hF 2 rfl rfl rfl (by first | rfl | decide) (Nat.le_of_ble_eq_true rfl) (fun h hH hF => ?_) | refine ah_put d_Mo_read_109 fp_Mo_81 hH hF 3 rfl rfl rfl (by first | rfl | decide) (Nat.le_of_ble_eq_true rfl) (fun h hH hF => ?_) | refine ah_put d_Mo_read_109 fp_Mo_81 hH hF 4 rfl rfl rfl (by first | rfl | decide) (Nat.le_of_ble_eq_true rfl) (fun h hH hF => ?_) | refine ah_put d_Mo_read_109 fp_Mo_81 hH hF 5 rfl rfl rfl (by first | rfl | decide) (Nat.le_of_ble_eq_true rfl) (fun h hH hF => ?_) | refine ah_put d_Mo_read_109 fp_Mo_81 hH hF 6 rfl rfl rfl (by first | rfl | decide) (Nat.le_of_ble_eq_true rfl) (fun h hH hF => ?_) | refine ah_put d_Mo_read_109 fp_Mo_81 hH hF 7 rfl rfl rfl (by first | rfl | decide) (Nat.le_of_ble_eq_true rfl) (fun h hH hF => ?_) | refine ah_put d_Mo_read_109 fp_Mo_81 hH hF 8 rfl rfl rfl (by first | rfl | decide) (Nat.le_of_ble_eq_true rfl) (fun h hH hF => ?_) | refine ah_put d_Mo_read_109 fp_Mo_81 hH hF 9 rfl rfl rfl (by first | rfl | decide) (Nat.le_of_ble_eq_true rfl) (fun h hH hF => ?_) | refine ah_put d_Mo_read_109 fp_Mo_81 hH hF 10 rfl rfl rfl (by first | rfl | decide) (Nat.le_of_ble_eq_true rfl) (fun h hH hF => ?_) | refine ah_put d_Mo_read_109 fp_Mo_81 hH hF 11 rfl rfl rfl (by first | rfl | decide) (Nat.le_of_ble_eq_true rfl) (fun h hH hF => ?_) | refine ah_put d_Mo_read_109 fp_Mo_81 hH hF 12 rfl rfl rfl (by first | rfl | decide) (Nat.le_of_ble_eq_true rfl) (fun h hH hF => ?_) | refine ah_put d_Mo_read_109 fp_Mo_81 hH hF 13 rfl rfl rfl (by first | rfl | decide) (Nat.le_of_ble_eq_true rfl) (fun h hH hF => ?_) | refine ah_put d_Mo_read_109 fp_Mo_81 hH hF 14 rfl rfl rfl (by first | rfl | decide) (Nat.le_of_ble_eq_true rfl) (fun h hH hF => ?_) | refine ah_put d_Mo_read_109 fp_Mo_81 hH hF 15 rfl rfl rfl (by first | rfl | decide) (Nat.le_of_ble_eq_true rfl) (fun h hH hF => ?_) | refine ah_put d_Mo_read_109 fp_Mo_81 hH hF 16 rfl rfl rfl (by first | rfl | decide) (Nat.le_of_ble_eq_true rfl) (fun h hH hF => ?_) | refine ah_put d_Mo_read_109 fp_Mo_81 hH hF 17 rfl rfl rfl (by first | rfl | decide) (Nat.le_of_ble_eq_true rfl) (fun h hH hF => ?_) | refine ah_put d_Mo_read_109 fp_Mo_81 hH hF 18 rfl rfl rfl (by first | rfl | decide) (Nat.le_of_ble_eq_true rfl) (fun h hH hF => ?_)
            refine ax_aload_n d_Mo_read_112 rfl ?_
            refine ax_get d_Mo_read_113 fg_Mo_76 (by first | assumption | exact hH.g 0 rfl | exact hH.g 1 rfl | exact hH.g 2 rfl | exact hH.g 3 rfl | exact hH.g 4 rfl | exact hH.g 5 rfl | exact hH.g 6 rfl | exact hH.g 7 rfl | exact hH.g 8 rfl | exact hH.g 9 rfl | exact hH.g 10 rfl | exact hH.g 11 rfl | exact hH.g 12 rfl | exact hH.g 13 rfl | exact hH.g 14 rfl | exact hH.g 15 rfl | exact hH.g 16 rfl | exact hH.g 17 rfl | exact hH.g 18 rfl) (by rfl) ?_
            refine ax_iret d_Mo_read_116 rfl ?_
            rw [ha]
            refine ⟨_, rfl, g0, ⟨up (up iz4 26 0) 6 0, ar4, hH, g0, hul, g1, hbu, Or.inl rfl, ?_⟩, hF⟩
            have hk24 : iz4 24 = iz 24 := (ki4 24 rfl).trans (ki0 24 rfl)
            have hk22 : ar4 22 = ar 22 := (ka4 22 rfl).trans (ka 22 rfl)
            show iz4 24 = _ ∧ _ ∧ lb (ar4 22) out ∧ _
            rw [hk24, hk22]
            exact ⟨k6, k7, k8, k9, rfl, by simp, fun i hi => by simp at hi, Bs_nil, g29⟩
          · exfalso
            omega
      · exfalso
        omega
    | succ f ih =>
      intro k ar2 h hk hH hF ka h30
      refine ax_iload_n d_Mo_read_23 rfl ?_
      refine ax_aload_n d_Mo_read_24 rfl ?_
      refine ax_get d_Mo_read_25 fg_Mo_76 (by first | assumption | exact hH.g 0 rfl | exact hH.g 1 rfl | exact hH.g 2 rfl | exact hH.g 3 rfl | exact hH.g 4 rfl | exact hH.g 5 rfl | exact hH.g 6 rfl | exact hH.g 7 rfl | exact hH.g 8 rfl | exact hH.g 9 rfl | exact hH.g 10 rfl | exact hH.g 11 rfl | exact hH.g 12 rfl | exact hH.g 13 rfl | exact hH.g 14 rfl | exact hH.g 15 rfl | exact hH.g 16 rfl | exact hH.g 17 rfl | exact hH.g 18 rfl) (by rfl) ?_
      refine az_icmp_ge 49 d_Mo_read_28 (by decide) (by omega) (by omega) (fun hc => ?_) (fun hc => ?_)
      · exfalso
        omega
      · refine ax_aload_n d_Mo_read_31 rfl ?_
        refine ax_get d_Mo_read_32 fg_Mo_67 (by first | assumption | exact hH.g 0 rfl | exact hH.g 1 rfl | exact hH.g 2 rfl | exact hH.g 3 rfl | exact hH.g 4 rfl | exact hH.g 5 rfl | exact hH.g 6 rfl | exact hH.g 7 rfl | exact hH.g 8 rfl | exact hH.g 9 rfl | exact hH.g 10 rfl | exact hH.g 11 rfl | exact hH.g 12 rfl | exact hH.g 13 rfl | exact hH.g 14 rfl | exact hH.g 15 rfl | exact hH.g 16 rfl | exact hH.g 17 rfl | exact hH.g 18 rfl) (by rfl) ?_
        refine ax_iload_n d_Mo_read_35 rfl ?_
        refine ax_aload_n d_Mo_read_36 rfl ?_
        refine ax_get d_Mo_read_37 fg_Mo_7 (by first | assumption | exact hH.g 0 rfl | exact hH.g 1 rfl | exact hH.g 2 rfl | exact hH.g 3 rfl | exact hH.g 4 rfl | exact hH.g 5 rfl | exact hH.g 6 rfl | exact hH.g 7 rfl | exact hH.g 8 rfl | exact hH.g 9 rfl | exact hH.g 10 rfl | exact hH.g 11 rfl | exact hH.g 12 rfl | exact hH.g 13 rfl | exact hH.g 14 rfl | exact hH.g 15 rfl | exact hH.g 16 rfl | exact hH.g 17 rfl | exact hH.g 18 rfl) (by rfl) ?_
        refine ax_iload_n d_Mo_read_40 rfl ?_
        refine az_iald d_Mo_read_41 (by first | assumption | exact hH.g 0 rfl | exact hH.g 1 rfl | exact hH.g 2 rfl | exact hH.g 3 rfl | exact hH.g 4 rfl | exact hH.g 5 rfl | exact hH.g 6 rfl | exact hH.g 7 rfl | exact hH.g 8 rfl | exact hH.g 9 rfl | exact hH.g 10 rfl | exact hH.g 11 rfl | exact hH.g 12 rfl | exact hH.g 13 rfl | exact hH.g 14 rfl | exact hH.g 15 rfl | exact hH.g 16 rfl | exact hH.g 17 rfl | exact hH.g 18 rfl) (by omega) (by omega) (by omega) ?_
        first | refine ah_iast d_Mo_read_42 hH hF 0 rfl rfl (by omega) (by omega) (by omega) (by omega) (fun h hH hF => ?_) | refine ah_iast d_Mo_read_42 hH hF 1 rfl rfl (by omega) (by omega) (by omega) (by omega) (fun h hH hF => ?_) | refine ah_iast d_Mo_read_42 hH hF 2 rfl rfl (by omega) (by omega) (by omega) (by omega) (fun h hH hF => ?_) | refine ah_iast d_Mo_read_42 hH hF 3 rfl rfl (by omega) (by omega) (by omega) (by omega) (fun h hH hF => ?_) | refine ah_iast d_Mo_read_42 hH hF 4 rfl rfl (by omega) (by omega) (by omega) (by omega) (fun h hH hF => ?_) | refine ah_iast d_Mo_read_42 hH hF 5 rfl rfl (by omega) (by omega) (by omega) (by omega) (fun h hH hF => ?_) | refine ah_iast d_Mo_read_42 hH hF 6 rfl rfl (by omega) (by omega) (by omega) (by omega) (fun h hH hF => ?_) | refine ah_iast d_Mo_read_42 hH hF 7 rfl rfl (by omega) (by omega) (by omega) (by omega) (fun h hH hF => ?_) | refine ah_iast d_Mo_read_42 hH hF 8 rfl rfl (by omega) (by omega) (by omega) (by omega) (fun h hH hF => ?_) | refine ah_iast d_Mo_read_42 hH hF 9 rfl rfl (by omega) (by omega) (by omega) (by omega) (fun h hH hF => ?_) | refine ah_iast d_Mo_read_42 hH hF 10 rfl rfl (by omega) (by omega) (by omega) (by omega) (fun h hH hF => ?_) | refine ah_iast d_Mo_read_42 hH hF 11 rfl rfl (by omega) (by omega) (by omega) (by omega) (fun h hH hF => ?_) | refine ah_iast d_Mo_read_42 hH hF 12 rfl rfl (by omega) (by omega) (by omega) (by omega) (fun h hH hF => ?_) | refine ah_iast d_Mo_read_42 hH hF 13 rfl rfl (by omega) (by omega) (by omega) (by omega) (fun h hH hF => ?_) | refine ah_iast d_Mo_read_42 hH hF 14 rfl rfl (by omega) (by omega) (by omega) (by omega) (fun h hH hF => ?_) | refine ah_iast d_Mo_read_42 hH hF 15 rfl rfl (by omega) (by omega) (by omega) (by omega) (fun h hH hF => ?_) | refine ah_iast d_Mo_read_42 hH hF 16 rfl rfl (by omega) (by omega) (by omega) (by omega) (fun h hH hF => ?_) | refine ah_iast d_Mo_read_42 hH hF 17 rfl rfl (by omega) (by omega) (by omega) (by omega) (fun h hH hF => ?_) | refine ah_iast d_Mo_read_42 hH hF 18 rfl rfl (by omega) (by omega) (by omega) (by omega) (fun h hH hF => ?_)
        refine az_iinc d_Mo_read_43 rfl (by decide) rfl ?_
        refine ax_goto 23 d_Mo_read_46 (by decide) ?_
        refine ih (k + 1) (upA ar2 30 (up (ar2 30) k (ar2 1 k))) h (by omega) hH hF (ka.up 30 _ rfl) (fun j hj => ?_)
        show up (ar2 30) k (ar2 1 k) j = _
        by_cases e : j = k
        · rw [e, up_at, ka 1 rfl]
          exact k3 k (by omega)
        · rw [up_ne e]; exact h30 j (by omega)
  exact keep xs.length 0 ar h (by omega) hH hF KA.rf (fun j hj => by omega)
