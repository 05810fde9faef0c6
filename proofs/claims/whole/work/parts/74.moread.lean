/-! the reference: reads, read -/
theorem crc_wr {c : Int} (hc : -2147483648 ≤ c ∧ c < 2147483648) {k : Nat} (hk : k < 4294967296) : c % 4294967296 = (k : Int) ↔ c = wr k := by
  have h1 := wr_in (k : Int)
  have h2 : wr (k : Int) % 4294967296 = (k : Int) := by
    have h3 : wr (k : Int) = (k : Int).bmod (2 ^ 32) := Int32.toInt_ofInt
    have h4 := Int.bmod_emod (x := (k : Int)) (m := 2 ^ 32)
    have h5 : (((2 ^ 32 : Nat)) : Int) = 4294967296 := by decide
    rw [h3]
    rw [h5] at h4
    omega
  constructor
  · intro h
    omega
  · intro h
    rw [h]
    exact h2
theorem tvA_pos (T : List Int) : ∀ (n p a : Nat), 0 < a → 0 < tvA T n p a
  | 0, _, a, h => h
  | n + 1, p, a, h => tvA_pos T n (p + 1) _ (by omega)
def RdQ (h0 : ax_H) (iz : Nat → Int) (ar : Nat → Nat → Int) (T : List Int) (r0 : Option Value) (h1 : ax_H) : Prop := ∃ b : Bool, r0 = some (.int (iv (bz b))) ∧ (match rdT T with
    | .inl e => RdE h1 iz ar e
    | .inr u => u.length ≤ 600 ∧ Bs u ∧ ∃ iz1 ar1, MoH h1 iz1 ar1 ∧ KI [0, 2, 12, 27] iz iz1 ∧ KA RKA ar ar1 ∧ iz1 0 = u.length ∧ la (ar1 1) u) ∧ Fr MOS h0 h1
theorem RdQ_e {h0 h1 : ax_H} {iz : Nat → Int} {ar : Nat → Nat → Int} {T : List Int} {e : RF} (he : (.inl e : Sum RF (List Int)) = rdT T) (hE : RdE h1 iz ar e) (hF : Fr MOS h0 h1) : RdQ h0 iz ar T (some (.int (iv (bz false)))) h1 := by
  unfold RdQ
  rw [← he]
  exact ⟨false, rfl, hE, hF⟩
section RRDS
variable {h0 : ax_H} {iz : Nat → Int} {ar : Nat → Nat → Int} {T : List Int}
set_option maxRecDepth 100000 in
set_option maxHeartbeats 16000000 in
theorem w_Mo_rfin {n o : Int} {k p : Nat} {u : List Int} {iz1 : Nat → Int} {ar1 : Nat → Nat → Int} {h : ax_H} (hk : k < 4294967296) (hul : u.length ≤ 600) (hbu : Bs u) (hH : MoH h iz1 ar1) (hF : Fr MOS h0 h) (ki : KI [0, 2, 12, 27] iz iz1) (ka : KA RKA ar ar1) (hR : MoR iz1 ar1 T p) (e0 : iz1 0 = u.length) (h1 : la (ar1 1) u)
    (hs : (if crc u ≠ wr k then .inl (11, 6) else if tv T (fillN p) p ≠ 0 then .inl (12, ((p / 8 : Nat) : Int)) else if (p + fillN p) / 8 = T.length then .inr u else .inl (12, (((p + fillN p) / 8 : Nat) : Int)) : Sum RF (List Int)) = rdT T) (v5 : Option Value) :
    ax_W m_Mo_reads 4 171 [some (.ref 47), some (.int (iv n)), some (.int (iv o)), some (.long (lz (k : Int))), none, v5] [] h (RdQ h0 iz ar T) := by
  obtain ⟨s1, s2, s3, s4, s5, s6, s7⟩ := id hR
  have ep : iz1 27 / 8 = ((p / 8 : Nat) : Int) := by omega
  have hcr := crc_in u
  have hcw := crc_wr hcr hk
  have hcm := cmp3_sp (crc u % 4294967296) (k : Int)
  have hf8 : fillN p < 8 := by unfold fillN; omega
  have hfe : (p + fillN p) % 8 = 0 := by unfold fillN; omega
  have hpe : p + fillN p ≤ 8 * T.length := by unfold fillN; omega
  refine ax_aload_n d_Mo_reads_171 rfl ?_
  refine ax_cV0 d_Mo_reads_172 v_Mo_check lk_Mo_176 (by first | assumption | exact hH.g 0 rfl | exact hH.g 1 rfl | exact hH.g 2 rfl | exact hH.g 3 rfl | exact hH.g 4 rfl | exact hH.g 5 rfl | exact hH.g 6 rfl | exact hH.g 7 rfl | exact hH.g 8 rfl | exact hH.g 9 rfl | exact hH.g 10 rfl | exact hH.g 11 rfl | exact hH.g 12 rfl | exact hH.g 13 rfl | exact hH.g 14 rfl | exact hH.g 15 rfl | exact hH.g 16 rfl | exact hH.g 17 rfl | exact hH.g 18 rfl) (by decide) (Nat.le_of_ble_eq_true rfl) (cm_i (c_Mo_checkQ hH e0 hul h1) (fun z h2 hq => ?_))
  obtain ⟨rfl, rfl⟩ := hq
  refine aj_i2l d_Mo_reads_175 (by omega) ?_
  refine aj_ldc2 4294967295 d_Mo_reads_176 cn_Mo_179 ?_
  refine aj_land d_Mo_reads_179 ?_
  rw [lzand_ff hcr]
  refine ax_lload_n d_Mo_reads_180 rfl ?_
  refine aj_lcmp d_Mo_reads_181 (by omega) (by omega) ?_
  refine az_if_eq 194 d_Mo_reads_182 (by decide) (by first | exact bz_in _ | omega) (fun heq => ?_) (fun heq => ?_)
  · have hc1 : crc u = wr k := hcw.mp (by omega)
    rw [if_neg (fun q => q hc1)] at hs
    refine ax_aload_n d_Mo_reads_194 rfl ?_
    refine ax_get d_Mo_reads_195 fg_Mo_197 (by first | assumption | exact hH.g 0 rfl | exact hH.g 1 rfl | exact hH.g 2 rfl | exact hH.g 3 rfl | exact hH.g 4 rfl | exact hH.g 5 rfl | exact hH.g 6 rfl | exact hH.g 7 rfl | exact hH.g 8 rfl | exact hH.g 9 rfl | exact hH.g 10 rfl | exact hH.g 11 rfl | exact hH.g 12 rfl | exact hH.g 13 rfl | exact hH.g 14 rfl | exact hH.g 15 rfl | exact hH.g 16 rfl | exact hH.g 17 rfl | exact hH.g 18 rfl) (by rfl) ?_
    refine az_bipush _ d_Mo_reads_198 (by decide) ?_
    refine az_idiv d_Mo_reads_200 (by omega) (by omega) ?_
    rw [ep]
    refine ax_istore d_Mo_reads_201 (by decide) rfl ?_
    have loop : ∀ (r p2 : Nat) (iz3 : Nat → Int) (h : ax_H), p2 + r = p + fillN p → r < 8 → tvA T r p2 0 = tv T (fillN p) p → MoH h iz3 ar1 → Fr MOS h0 h → KI [0, 2, 12, 27] iz iz3 → MoR iz3 ar1 T p2 → iz3 0 = u.length →
        ax_W m_Mo_reads 4 203 [some (.ref 47), some (.int (iv n)), some (.int (iv o)), some (.long (lz (k : Int))), none, some (.int (iv ((p / 8 : Nat) : Int)))] [] h (RdQ h0 iz ar T) := by
      intro r
      induction r with
      | zero =>
        intro p2 iz3 h hpr hr8 ht hH hF ki hR e0
        obtain ⟨t1, t2, t3, t4, t5, t6, t7⟩ := id hR
        have em : iz3 27 % 8 = 0 := by omega
        have ed : iz3 27 / 8 = (((p + fillN p) / 8 : Nat) : Int) := by omega
        have ht : 0 = tv T (fillN p) p := ht
        rw [if_neg (fun q => q ht.symm)] at hs
        refine ax_aload_n d_Mo_reads_203 rfl ?_
        refine ax_get d_Mo_reads_204 fg_Mo_197 (by first | assumption | exact hH.g 0 rfl | exact hH.g 1 rfl | exact hH.g 2 rfl | exact hH.g 3 rfl | exact hH.g 4 rfl | exact hH.g 5 rfl | exact hH.g 6 rfl | exact hH.g 7 rfl | exact hH.g 8 rfl | exact hH.g 9 rfl | exact hH.g 10 rfl | exact hH.g 11 rfl | exact hH.g 12 rfl | exact hH.g 13 rfl | exact hH.g 14 rfl | exact hH.g 15 rfl | exact hH.g 16 rfl | exact hH.g 17 rfl | exact hH.g 18 rfl) (by rfl) ?_
        refine az_bipush _ d_Mo_reads_207 (by decide) ?_
        refine az_irem d_Mo_reads_209 (by omega) (by omega) ?_
        rw [em]
        refine az_if_eq 232 d_Mo_reads_210 (by decide) (by first | exact bz_in _ | omega) (fun hc => ?_) (fun hc => ?_)
        · refine ax_aload_n d_Mo_reads_232 rfl ?_
          refine ax_get d_Mo_reads_233 fg_Mo_197 (by first | assumption | exact hH.g 0 rfl | exact hH.g 1 rfl | exact hH.g 2 rfl | exact hH.g 3 rfl | exact hH.g 4 rfl | exact hH.g 5 rfl | exact hH.g 6 rfl | exact hH.g 7 rfl | exact hH.g 8 rfl | exact hH.g 9 rfl | exact hH.g 10 rfl | exact hH.g 11 rfl | exact hH.g 12 rfl | exact hH.g 13 rfl | exact hH.g 14 rfl | exact hH.g 15 rfl | exact hH.g 16 rfl | exact hH.g 17 rfl | exact hH.g 18 rfl) (by rfl) ?_
          refine az_bipush _ d_Mo_reads_236 (by decide) ?_
          refine az_idiv d_Mo_reads_238 (by omega) (by omega) ?_
          rw [ed]
          refine ax_aload_n d_Mo_reads_239 rfl ?_
          refine ax_get d_Mo_reads_240 fg_Mo_191 (by first | assumption | exact hH.g 0 rfl | exact hH.g 1 rfl | exact hH.g 2 rfl | exact hH.g 3 rfl | exact hH.g 4 rfl | exact hH.g 5 rfl | exact hH.g 6 rfl | exact hH.g 7 rfl | exact hH.g 8 rfl | exact hH.g 9 rfl | exact hH.g 10 rfl | exact hH.g 11 rfl | exact hH.g 12 rfl | exact hH.g 13 rfl | exact hH.g 14 rfl | exact hH.g 15 rfl | exact hH.g 16 rfl | exact hH.g 17 rfl | exact hH.g 18 rfl) (by rfl) ?_
          refine az_icmp_eq 262 d_Mo_reads_243 (by decide) (by omega) (by omega) (fun hne => ?_) (fun hne => ?_)
          · rw [if_pos (by omega)] at hs
            refine az_iconst d_Mo_reads_262 ?_
            refine ax_goto 267 d_Mo_reads_263 (by decide) ?_
            refine ax_zret d_Mo_reads_267 rfl (by decide) ?_
            unfold RdQ
            rw [← hs]
            exact ⟨true, rfl, ⟨hul, hbu, iz3, ar1, hH, ki, ka, e0, h1⟩, hF⟩
          · rw [if_neg (by omega)] at hs
            refine ax_aload_n d_Mo_reads_246 rfl ?_
            refine az_bipush _ d_Mo_reads_247 (by decide) ?_
            refine ax_aload_n d_Mo_reads_249 rfl ?_
            refine ax_get d_Mo_reads_250 fg_Mo_197 (by first | assumption | exact hH.g 0 rfl | exact hH.g 1 rfl | exact hH.g 2 rfl | exact hH.g 3 rfl | exact hH.g 4 rfl | exact hH.g 5 rfl | exact hH.g 6 rfl | exact hH.g 7 rfl | exact hH.g 8 rfl | exact hH.g 9 rfl | exact hH.g 10 rfl | exact hH.g 11 rfl | exact hH.g 12 rfl | exact hH.g 13 rfl | exact hH.g 14 rfl | exact hH.g 15 rfl | exact hH.g 16 rfl | exact hH.g 17 rfl | exact hH.g 18 rfl) (by rfl) ?_
            refine az_bipush _ d_Mo_reads_253 (by decide) ?_
            refine az_idiv d_Mo_reads_255 (by omega) (by omega) ?_
            rw [ed]
            refine ax_cV2 d_Mo_reads_256 v_Mo_wrong lk_Mo_200 (by first | assumption | exact hH.g 0 rfl | exact hH.g 1 rfl | exact hH.g 2 rfl | exact hH.g 3 rfl | exact hH.g 4 rfl | exact hH.g 5 rfl | exact hH.g 6 rfl | exact hH.g 7 rfl | exact hH.g 8 rfl | exact hH.g 9 rfl | exact hH.g 10 rfl | exact hH.g 11 rfl | exact hH.g 12 rfl | exact hH.g 13 rfl | exact hH.g 14 rfl | exact hH.g 15 rfl | exact hH.g 16 rfl | exact hH.g 17 rfl | exact hH.g 18 rfl) (by decide) (Nat.le_of_ble_eq_true rfl) (cm_z (c_Mo_wrong hH t7 (f := 12) (pl := (((p + fillN p) / 8 : Nat) : Int)) (by omega)) (fun b h7 hq => ?_))
            obtain ⟨rfl, hE, hF7⟩ := hq
            refine az_if_eq 266 d_Mo_reads_259 (by decide) (bz_in _) (fun hcb => ?_) (fun hcb => ?_)
            · refine az_iconst d_Mo_reads_266 ?_
              refine ax_zret d_Mo_reads_267 rfl (by decide) ?_
              exact RdQ_e hs (hE.tr ki ka rfl rfl) (hF.tr hF7)
            · exact absurd (bz_t hcb) (by decide)
        · exfalso
          omega
      | succ r ih =>
        intro p2 iz3 h hpr hr8 ht hH hF ki hR e0
        obtain ⟨t1, t2, t3, t4, t5, t6, t7⟩ := id hR
        have htb := tb_lt T p2
        have hcb := cmp3_sp (tb T p2 : Int) 0
        have ht : tvA T r (p2 + 1) (2 * 0 + tb T p2) = tv T (fillN p) p := ht
        refine ax_aload_n d_Mo_reads_203 rfl ?_
        refine ax_get d_Mo_reads_204 fg_Mo_197 (by first | assumption | exact hH.g 0 rfl | exact hH.g 1 rfl | exact hH.g 2 rfl | exact hH.g 3 rfl | exact hH.g 4 rfl | exact hH.g 5 rfl | exact hH.g 6 rfl | exact hH.g 7 rfl | exact hH.g 8 rfl | exact hH.g 9 rfl | exact hH.g 10 rfl | exact hH.g 11 rfl | exact hH.g 12 rfl | exact hH.g 13 rfl | exact hH.g 14 rfl | exact hH.g 15 rfl | exact hH.g 16 rfl | exact hH.g 17 rfl | exact hH.g 18 rfl) (by rfl) ?_
        refine az_bipush _ d_Mo_reads_207 (by decide) ?_
        refine az_irem d_Mo_reads_209 (by omega) (by omega) ?_
        refine az_if_eq 232 d_Mo_reads_210 (by decide) (by first | exact bz_in _ | omega) (fun hm0 => ?_) (fun hm0 => ?_)
        · exfalso
          omega
        · refine ax_aload_n d_Mo_reads_213 rfl ?_
          refine az_iconst d_Mo_reads_214 ?_
          refine ax_cV1 d_Mo_reads_215 v_Mo_get lk_Mo_203 (by first | assumption | exact hH.g 0 rfl | exact hH.g 1 rfl | exact hH.g 2 rfl | exact hH.g 3 rfl | exact hH.g 4 rfl | exact hH.g 5 rfl | exact hH.g 6 rfl | exact hH.g 7 rfl | exact hH.g 8 rfl | exact hH.g 9 rfl | exact hH.g 10 rfl | exact hH.g 11 rfl | exact hH.g 12 rfl | exact hH.g 13 rfl | exact hH.g 14 rfl | exact hH.g 15 rfl | exact hH.g 16 rfl | exact hH.g 17 rfl | exact hH.g 18 rfl) (by decide) (Nat.le_of_ble_eq_true rfl) (cm_j (c_Mo_get hH hR (n := 1) (by omega)) (fun z h5 hq => ?_))
          obtain ⟨hq, hF5⟩ := hq
          rw [if_neg (by omega)] at hq
          obtain ⟨rfl, iz4, hH4, ki4, hR4⟩ := hq
          have hH := hH4
          rw [tv1]
          refine aj_lconst 0 d_Mo_reads_218 rfl ?_
          refine aj_lcmp d_Mo_reads_219 (by omega) (by omega) ?_
          refine az_if_eq 203 d_Mo_reads_220 (by decide) (by first | exact bz_in _ | omega) (fun hbz => ?_) (fun hbz => ?_)
          · have hb0 : tb T p2 = 0 := by omega
            rw [hb0] at ht
            exact ih (p2 + 1) iz4 h5 (by omega) (by omega) ht hH (hF.tr hF5) (ki.tr (ki4.wide rfl)) hR4 ((ki4 0 rfl).trans e0)
          · have hpos := tvA_pos T r (p2 + 1) (2 * 0 + tb T p2) (by omega)
            rw [ht] at hpos
            rw [if_pos (show tv T (fillN p) p ≠ 0 by omega)] at hs
            refine ax_aload_n d_Mo_reads_223 rfl ?_
            refine az_bipush _ d_Mo_reads_224 (by decide) ?_
            refine ax_iload d_Mo_reads_226 rfl ?_
            refine ax_cV2 d_Mo_reads_228 v_Mo_wrong lk_Mo_200 (by first | assumption | exact hH.g 0 rfl | exact hH.g 1 rfl | exact hH.g 2 rfl | exact hH.g 3 rfl | exact hH.g 4 rfl | exact hH.g 5 rfl | exact hH.g 6 rfl | exact hH.g 7 rfl | exact hH.g 8 rfl | exact hH.g 9 rfl | exact hH.g 10 rfl | exact hH.g 11 rfl | exact hH.g 12 rfl | exact hH.g 13 rfl | exact hH.g 14 rfl | exact hH.g 15 rfl | exact hH.g 16 rfl | exact hH.g 17 rfl | exact hH.g 18 rfl) (by decide) (Nat.le_of_ble_eq_true rfl) (cm_z (c_Mo_wrong hH hR4.2.2.2.2.2.2 (f := 12) (pl := ((p / 8 : Nat) : Int)) (by omega)) (fun b h7 hq => ?_))
            obtain ⟨rfl, hE, hF7⟩ := hq
            refine ax_zret d_Mo_reads_231 rfl (by decide) ?_
            exact RdQ_e hs (hE.tr (ki.tr (ki4.wide rfl)) ka rfl rfl) ((hF.tr hF5).tr hF7)
    exact loop (fillN p) p iz1 h2 rfl hf8 rfl hH hF ki hR e0
  · have hc1 : ¬ crc u = wr k := fun q => by have := hcw.mpr q; omega
    rw [if_pos hc1] at hs
    refine ax_aload_n d_Mo_reads_185 rfl ?_
    refine az_bipush _ d_Mo_reads_186 (by decide) ?_
    refine az_bipush _ d_Mo_reads_188 (by decide) ?_
    refine ax_cV2 d_Mo_reads_190 v_Mo_wrong lk_Mo_200 (by first | assumption | exact hH.g 0 rfl | exact hH.g 1 rfl | exact hH.g 2 rfl | exact hH.g 3 rfl | exact hH.g 4 rfl | exact hH.g 5 rfl | exact hH.g 6 rfl | exact hH.g 7 rfl | exact hH.g 8 rfl | exact hH.g 9 rfl | exact hH.g 10 rfl | exact hH.g 11 rfl | exact hH.g 12 rfl | exact hH.g 13 rfl | exact hH.g 14 rfl | exact hH.g 15 rfl | exact hH.g 16 rfl | exact hH.g 17 rfl | exact hH.g 18 rfl) (by decide) (Nat.le_of_ble_eq_true rfl) (cm_z (c_Mo_wrong hH s7 (f := 11) (pl := 6) (by omega)) (fun b h7 hq => ?_))
    obtain ⟨rfl, hE, hF7⟩ := hq
    refine ax_zret d_Mo_reads_193 rfl (by decide) ?_
    exact RdQ_e hs (hE.tr ki ka rfl rfl) (hF.tr hF7)
end RRDS
