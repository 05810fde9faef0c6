/-! the reference: reads, the body -/
section RRDT
variable {h0 : ax_H} {iz : Nat → Int} {ar : Nat → Nat → Int} {T : List Int}
set_option maxRecDepth 100000 in
set_option maxHeartbeats 16000000 in
theorem w_Mo_rbody {n o k : Nat} {iz1 : Nat → Int} {h : ax_H} (hk : k < 4294967296) (hn9 : n ≤ 900) (ho : ¬ (o ≠ 0 ∧ n ≤ o)) (hH : MoH h iz1 ar) (hF : Fr MOS h0 h) (ki : KI [27] iz iz1) (hR : MoR iz1 ar T 80) (hT : rdHead T = .inr (n, o, k)) (v5 : Option Value) :
    ax_W m_Mo_reads 4 107 [some (.ref 47), some (.int (iv (n : Int))), some (.int (iv (o : Int))), some (.long (lz (k : Int))), none, v5] [] h (RdQ h0 iz ar T) := by
  have hs : (if n = 0 then rdFin T o k [] 80 else match rdList T 80 with
    | .inl e => .inl e
    | .inr l => match rdLens T (l.1.length + 2) l.2 with
      | .inl e => .inl e
      | .inr s => match rdR T (gx s.1) n (n + 1) s.2 l.1 1 [] with
        | .inl e => .inl e
        | .inr r => rdFin T o k r.1 r.2) = rdT T := by
    rw [rdT, hT]
    rfl
  have hF0 := hF
  refine ax_aload_n d_Mo_reads_107 rfl ?_
  refine az_iconst d_Mo_reads_108 ?_
  first | refine ah_put d_Mo_reads_109 fp_Mo_76 hH hF 0 rfl rfl rfl (by first | rfl | decide) (Nat.le_of_ble_eq_true rfl) (fun h hH hF => ?_) | refine ah_put d_Mo_reads_109 fp_Mo_76 hH hF 1 rfl rfl rfl (by first | rfl | decide) (Nat.le_of_ble_eq_true rfl) (fun h hH hF => ?_) | refine ah_put d_Mo_reads_109 fp_Mo_76 hH hF 2 rfl rfl rfl (by first | rfl | decide) (Nat.le_of_ble_eq_true rfl) (fun h hH hF => ?_) | refine ah_put d_Mo_reads_109 fp_Mo_76 hH hF 3 rfl rfl rfl (by first | rfl | decide) (Nat.le_of_ble_eq_true rfl) (fun h hH hF => ?_) | refine ah_put d_Mo_reads_109 fp_Mo_76 hH hF 4 rfl rfl rfl (by first | rfl | decide) (Nat.le_of_ble_eq_true rfl) (fun h hH hF => ?_) | refine ah_put d_Mo_reads_109 fp_Mo_76 hH hF 5 rfl rfl rfl (by first | rfl | decide) (Nat.le_of_ble_eq_true rfl) (fun h hH hF => ?_) | refine ah_put d_Mo_reads_109 fp_Mo_76 hH hF 6 rfl rfl rfl (by first | rfl | decide) (Nat.le_of_ble_eq_true rfl) (fun h hH hF => ?_) | refine ah_put d_Mo_reads_109 fp_Mo_76 hH hF 7 rfl rfl rfl (by first | rfl | decide) (Nat.le_of_ble_eq_true rfl) (fun h hH hF => ?_) | refine ah_put d_Mo_reads_109 fp_Mo_76 hH hF 8 rfl rfl rfl (by first | rfl | decide) (Nat.le_of_ble_eq_true rfl) (fun h hH hF => ?_) | refine ah_put d_Mo_reads_109 fp_Mo_76 hH hF 9 rfl rfl rfl (by first | rfl | decide) (Nat.le_of_ble_eq_true rfl) (fun h hH hF => ?_) | refine ah_put d_Mo_reads_109 fp_Mo_76 hH hF 10 rfl rfl rfl (by first | rfl | decide) (Nat.le_of_ble_eq_true rfl) (fun h hH hF => ?_) | refine ah_put d_Mo_reads_109 fp_Mo_76 hH hF 11 rfl rfl rfl (by first | rfl | decide) (Nat.le_of_ble_eq_true rfl) (fun h hH hF => ?_) | refine ah_put d_Mo_reads_109 fp_Mo_76 hH hF 12 rfl rfl rfl (by first | rfl | decide) (Nat.le_of_ble_eq_true rfl) (fun h hH hF => ?_) | refine ah_put d_Mo_reads_109 fp_Mo_76 hH hF 13 rfl rfl rfl (by first | rfl | decide) (Nat.le_of_ble_eq_true rfl) (fun h hH hF => ?_) | refine ah_put d_Mo_reads_109 fp_Mo_76 hH hF 14 rfl rfl rfl (by first | rfl | decide) (Nat.le_of_ble_eq_true rfl) (fun h hH hF => ?_) | refine ah_put d_Mo_reads_109 fp_Mo_76 hH hF 15 rfl rfl rfl (by first | rfl | decide) (Nat.le_of_ble_eq_true rfl) (fun h hH hF => ?_) | refine ah_put d_Mo_reads_109 fp_Mo_76 hH hF 16 rfl rfl rfl (by first | rfl | decide) (Nat.le_of_ble_eq_true rfl) (fun h hH hF => ?_) | refine ah_put d_Mo_reads_109 fp_Mo_76 hH hF 17 rfl rfl rfl (by first | rfl | decide) (Nat.le_of_ble_eq_true rfl) (fun h hH hF => ?_) | refine ah_put d_Mo_reads_109 fp_Mo_76 hH hF 18 rfl rfl rfl (by first | rfl | decide) (Nat.le_of_ble_eq_true rfl) (fun h hH hF => ?_)
  have hH : MoH h (up iz1 0 0) ar := hH
  have ki1 : KI [0, 2, 12, 27] iz (up iz1 0 0) := (ki.wide rfl).up 0 _ rfl
  have hR1 : MoR (up iz1 0 0) ar T 80 := hR.fr (K := [0]) (KI.rf.up 0 _ rfl) (KA.rf (K := [])) rfl rfl
  have e00 : (up iz1 0 0) 0 = 0 := rfl
  generalize up iz1 0 0 = iz2 at hH ki1 hR1 e00
  have s7 := hR1.2.2.2.2.2.2
  refine ax_iload_n d_Mo_reads_112 rfl ?_
  refine az_if_le 171 d_Mo_reads_113 (by decide) (by first | exact bz_in _ | omega) (fun hn0 => ?_) (fun hn0 => ?_)
  · rw [if_pos (show n = 0 by omega)] at hs
    have ho0 : o = 0 := by omega
    subst ho0
    have hr0 : rightB [] 0 = true := decide_eq_true ⟨rfl, Or.inl rfl⟩
    have hu0 : upT (gbT [] 0) = some [] := by decide
    unfold rdFin at hs
    rw [if_neg (by rw [hr0]; decide), hu0] at hs
    exact w_Mo_rfin hk (u := []) (by simp) Bs_nil hH hF ki1 KA.rf hR1 e00 (fun i hi => by simp at hi) hs _
  · rw [if_neg (show ¬ n = 0 by omega)] at hs
    refine ax_aload_n d_Mo_reads_116 rfl ?_
    refine ax_cV0 d_Mo_reads_117 v_Mo_readsList lk_Mo_218 (by first | assumption | exact hH.g 0 rfl | exact hH.g 1 rfl | exact hH.g 2 rfl | exact hH.g 3 rfl | exact hH.g 4 rfl | exact hH.g 5 rfl | exact hH.g 6 rfl | exact hH.g 7 rfl | exact hH.g 8 rfl | exact hH.g 9 rfl | exact hH.g 10 rfl | exact hH.g 11 rfl | exact hH.g 12 rfl | exact hH.g 13 rfl | exact hH.g 14 rfl | exact hH.g 15 rfl | exact hH.g 16 rfl | exact hH.g 17 rfl | exact hH.g 18 rfl) (by decide) (Nat.le_of_ble_eq_true rfl) (cm_z (c_Mo_readsList hH hR1) (fun b h1 hq => ?_))
    obtain ⟨hq, hF1⟩ := hq
    cases hL : rdList T 80 with
    | inl e =>
      rw [hL] at hq hs
      obtain ⟨rfl, hE⟩ := hq
      have hE0 := hE.tr ki1 (KA.rf (K := [])) rfl rfl
      refine az_if_eq 138 d_Mo_reads_120 (by decide) (bz_in _) (fun hcb => ?_) (fun hcb => ?_)
      · refine az_iconst d_Mo_reads_138 ?_
        refine ax_zret d_Mo_reads_139 rfl (by decide) ?_
        exact RdQ_e hs hE0 (hF.tr hF1)
      · exact absurd (bz_t hcb) (by decide)
    | inr l =>
      rw [hL] at hq hs
      obtain ⟨l, p3⟩ := l
      obtain ⟨rfl, iz3, ar3, hH3, ki3, ka3, hR3, e12, h13⟩ := hq
      have hs : (match rdLens T (l.length + 2) p3 with
        | .inl e => .inl e
        | .inr s => match rdR T (gx s.1) n (n + 1) s.2 l 1 [] with
          | .inl e => .inl e
          | .inr r => rdFin T o k r.1 r.2) = rdT T := hs
      have hR3 : MoR iz3 ar3 T p3 := hR3
      have e12 : iz3 12 = (l.length : Int) := e12
      have h13 : la (ar3 13) l := h13
      obtain ⟨hokL, -, hlne⟩ := rdList_ok hL
      have hl2 : l.length ≤ 256 := hokL.1
      have hl1 : 1 ≤ l.length := by
        cases l with
        | nil => exact absurd rfl hlne
        | cons a t => simp
      have ki13 := ki1.tr (ki3.wide (K' := [0, 2, 12, 27]) rfl)
      have ka13 : KA RKA ar ar3 := ka3.wide rfl
      have hH := hH3
      have hF := hF.tr hF1
      refine az_if_eq 138 d_Mo_reads_120 (by decide) (bz_in _) (fun hcb => ?_) (fun hcb => ?_)
      · exact absurd (bz_f hcb) (by decide)
      · refine ax_aload_n d_Mo_reads_123 rfl ?_
        refine ax_cV0 d_Mo_reads_124 v_Mo_readsLengths lk_Mo_221 (by first | assumption | exact hH.g 0 rfl | exact hH.g 1 rfl | exact hH.g 2 rfl | exact hH.g 3 rfl | exact hH.g 4 rfl | exact hH.g 5 rfl | exact hH.g 6 rfl | exact hH.g 7 rfl | exact hH.g 8 rfl | exact hH.g 9 rfl | exact hH.g 10 rfl | exact hH.g 11 rfl | exact hH.g 12 rfl | exact hH.g 13 rfl | exact hH.g 14 rfl | exact hH.g 15 rfl | exact hH.g 16 rfl | exact hH.g 17 rfl | exact hH.g 18 rfl) (by decide) (Nat.le_of_ble_eq_true rfl) (cm_z (c_Mo_readsLengths hH hR3 (n := l.length + 2) (by omega) (by omega)) (fun b h4 hq => ?_))
        obtain ⟨hq, hF4⟩ := hq
        cases hG : rdLens T (l.length + 2) p3 with
        | inl e =>
          rw [hG] at hq hs
          obtain ⟨rfl, hE⟩ := hq
          have hE0 := hE.tr ki13 ka13 rfl rfl
          refine az_if_eq 138 d_Mo_reads_127 (by decide) (bz_in _) (fun hcb => ?_) (fun hcb => ?_)
          · refine az_iconst d_Mo_reads_138 ?_
            refine ax_zret d_Mo_reads_139 rfl (by decide) ?_
            exact RdQ_e hs hE0 (hF.tr hF4)
          · exact absurd (bz_t hcb) (by decide)
        | inr s =>
          rw [hG] at hq hs
          obtain ⟨ls, p4⟩ := s
          obtain ⟨rfl, iz4, ar4, hH4, ki4, ka4, hR4, h16, h17⟩ := hq
          have hs : (match rdR T (gx ls) n (n + 1) p4 l 1 [] with
            | .inl e => .inl e
            | .inr r => rdFin T o k r.1 r.2) = rdT T := hs
          have hR4 : MoR iz4 ar4 T p4 := hR4
          obtain ⟨hok, -, hkr, -, -⟩ := rdLens_ok hG
          have hC4 : CodR iz4 ar4 (gx ls) (l.length + 2) := ⟨by rw [ki4 12 rfl]; omega, by omega, h16, h17, hok, hkr⟩
          have h134 : la (ar4 13) l := by rw [ka4 13 rfl]; exact h13
          have ki14 := ki13.tr (ki4.wide (K' := [0, 2, 12, 27]) rfl)
          have ka14 : KA RKA ar ar4 := ka13.tr (ka4.wide rfl)
          have hH := hH4
          have hF := hF.tr hF4
          refine az_if_eq 138 d_Mo_reads_127 (by decide) (bz_in _) (fun hcb => ?_) (fun hcb => ?_)
          · exact absurd (bz_f hcb) (by decide)
          · refine ax_aload_n d_Mo_reads_130 rfl ?_
            refine ax_iload_n d_Mo_reads_131 rfl ?_
            refine ax_cV1 d_Mo_reads_132 v_Mo_readsRow lk_Mo_224 (by first | assumption | exact hH.g 0 rfl | exact hH.g 1 rfl | exact hH.g 2 rfl | exact hH.g 3 rfl | exact hH.g 4 rfl | exact hH.g 5 rfl | exact hH.g 6 rfl | exact hH.g 7 rfl | exact hH.g 8 rfl | exact hH.g 9 rfl | exact hH.g 10 rfl | exact hH.g 11 rfl | exact hH.g 12 rfl | exact hH.g 13 rfl | exact hH.g 14 rfl | exact hH.g 15 rfl | exact hH.g 16 rfl | exact hH.g 17 rfl | exact hH.g 18 rfl) (by decide) (Nat.le_of_ble_eq_true rfl) (cm_z (c_Mo_readsRow hH hR4 hn9 hl1 hl2 (okL_Bs hokL (Nat.le_refl _)) (ndp_of hokL.2.2) hC4 h134) (fun b h5 hq => ?_))
            obtain ⟨hq, hF5⟩ := hq
            cases hW : rdR T (gx ls) n (n + 1) p4 l 1 [] with
            | inl e =>
              rw [hW] at hq hs
              obtain ⟨rfl, hE⟩ := hq
              have hE0 := hE.tr ki14 ka14 rfl rfl
              refine az_if_ne 140 d_Mo_reads_135 (by decide) (bz_in _) (fun hcb => ?_) (fun hcb => ?_)
              · exact absurd (bz_t hcb) (by decide)
              · refine az_iconst d_Mo_reads_138 ?_
                refine ax_zret d_Mo_reads_139 rfl (by decide) ?_
                exact RdQ_e hs hE0 (hF.tr hF5)
            | inr r =>
              rw [hW] at hq hs
              obtain ⟨row, p5⟩ := r
              obtain ⟨rfl, iz5, ar5, hH5, ki5, ka5, hR5, e25, h35⟩ := hq
              have hs : rdFin T o k row p5 = rdT T := hs
              have hR5 : MoR iz5 ar5 T p5 := hR5
              have e25 : iz5 2 = (row.length : Int) := e25
              have h35 : la (ar5 3) row := h35
              obtain ⟨hbr, hrl, -, -⟩ := rdR_ok _ _ _ _ _ _ (okL_Bs hokL (Nat.le_refl _)) (by omega) Bs_nil (by omega) (by simp) hW
              have hbr : Bs row := hbr
              have hrl : row.length = n := hrl
              have ki15 := ki14.tr (ki5.wide (K' := [0, 2, 12, 27]) rfl)
              have ka15 : KA RKA ar ar5 := ka14.tr (ka5.wide rfl)
              have hH := hH5
              have hF := hF.tr hF5
              have hRw5 : RwS iz5 ar5 row := ⟨e25, by omega, h35, hbr⟩
              refine az_if_ne 140 d_Mo_reads_135 (by decide) (bz_in _) (fun hcb => ?_) (fun hcb => ?_)
              · refine ax_aload_n d_Mo_reads_140 rfl ?_
                refine ax_iload_n d_Mo_reads_141 rfl ?_
                refine ax_cV1 d_Mo_reads_142 v_Mo_givesBack lk_Mo_131 (by first | assumption | exact hH.g 0 rfl | exact hH.g 1 rfl | exact hH.g 2 rfl | exact hH.g 3 rfl | exact hH.g 4 rfl | exact hH.g 5 rfl | exact hH.g 6 rfl | exact hH.g 7 rfl | exact hH.g 8 rfl | exact hH.g 9 rfl | exact hH.g 10 rfl | exact hH.g 11 rfl | exact hH.g 12 rfl | exact hH.g 13 rfl | exact hH.g 14 rfl | exact hH.g 15 rfl | exact hH.g 16 rfl | exact hH.g 17 rfl | exact hH.g 18 rfl) (by decide) (Nat.le_of_ble_eq_true rfl) (cm_z (c_Mo_givesBack hH hRw5 (o := o) (by omega)) (fun b h6 hq => ?_))
                obtain ⟨rfl, ⟨ar6, hH6, ka6, hRw6⟩, hF6⟩ := hq
                have hH := hH6
                have hR6 : MoR iz5 ar6 T p5 := hR5.fr (KI.rf (K := [])) ka6 rfl rfl
                have ka16 : KA RKA ar ar6 := ka15.tr (ka6.wide rfl)
                have hF := hF.tr hF6
                unfold rdFin at hs
                refine az_if_ne 156 d_Mo_reads_145 (by decide) (bz_in _) (fun hcb => ?_) (fun hcb => ?_)
                · have hrb := bz_t hcb
                  rw [if_neg (by rw [hrb]; decide)] at hs
                  refine ax_aload_n d_Mo_reads_156 rfl ?_
                  refine ax_cV0 d_Mo_reads_157 v_Mo_unpacks lk_Mo_227 (by first | assumption | exact hH.g 0 rfl | exact hH.g 1 rfl | exact hH.g 2 rfl | exact hH.g 3 rfl | exact hH.g 4 rfl | exact hH.g 5 rfl | exact hH.g 6 rfl | exact hH.g 7 rfl | exact hH.g 8 rfl | exact hH.g 9 rfl | exact hH.g 10 rfl | exact hH.g 11 rfl | exact hH.g 12 rfl | exact hH.g 13 rfl | exact hH.g 14 rfl | exact hH.g 15 rfl | exact hH.g 16 rfl | exact hH.g 17 rfl | exact hH.g 18 rfl) (by decide) (Nat.le_of_ble_eq_true rfl) (cm_z (c_Mo_unpacks hH hRw6) (fun b h7 hq => ?_))
                  obtain ⟨hb, ⟨iz7, ar7, hH7, ki7, ka7, hu7⟩, hF7⟩ := hq
                  have hH := hH7
                  have hR7 : MoR iz7 ar7 T p5 := hR6.fr ki7 ka7 rfl rfl
                  have ki17 := ki15.tr (ki7.wide (K' := [0, 2, 12, 27]) rfl)
                  have ka17 : KA RKA ar ar7 := ka16.tr (ka7.wide rfl)
                  have hF := hF.tr hF7
                  cases hU : upT (gbT row o) with
                  | none =>
                    rw [hU] at hb hs
                    subst hb
                    refine az_if_ne 171 d_Mo_reads_160 (by decide) (bz_in _) (fun hcb => ?_) (fun hcb => ?_)
                    · exact absurd (bz_t hcb) (by decide)
                    · refine ax_aload_n d_Mo_reads_163 rfl ?_
                      refine az_bipush _ d_Mo_reads_164 (by decide) ?_
                      refine az_iconst d_Mo_reads_166 ?_
                      refine ax_cV2 d_Mo_reads_167 v_Mo_wrong lk_Mo_200 (by first | assumption | exact hH.g 0 rfl | exact hH.g 1 rfl | exact hH.g 2 rfl | exact hH.g 3 rfl | exact hH.g 4 rfl | exact hH.g 5 rfl | exact hH.g 6 rfl | exact hH.g 7 rfl | exact hH.g 8 rfl | exact hH.g 9 rfl | exact hH.g 10 rfl | exact hH.g 11 rfl | exact hH.g 12 rfl | exact hH.g 13 rfl | exact hH.g 14 rfl | exact hH.g 15 rfl | exact hH.g 16 rfl | exact hH.g 17 rfl | exact hH.g 18 rfl) (by decide) (Nat.le_of_ble_eq_true rfl) (cm_z (c_Mo_wrong hH hR7.2.2.2.2.2.2 (f := 10) (pl := 2) (by omega)) (fun b h8 hq => ?_))
                      obtain ⟨rfl, hE, hF8⟩ := hq
                      refine ax_zret d_Mo_reads_170 rfl (by decide) ?_
                      exact RdQ_e hs (hE.tr ki17 ka17 rfl rfl) (hF.tr hF8)
                  | some u =>
                    rw [hU] at hb hs
                    obtain ⟨rfl, hul, hbu⟩ := hb
                    have huu := hu7 u hU
                    refine az_if_ne 171 d_Mo_reads_160 (by decide) (bz_in _) (fun hcb => ?_) (fun hcb => ?_)
                    · exact w_Mo_rfin hk hul hbu hH hF ki17 ka17 hR7 huu.1 huu.2 hs _
                    · exact absurd (bz_f hcb) (by decide)
                · have hrb := bz_f hcb
                  rw [if_pos hrb] at hs
                  refine ax_aload_n d_Mo_reads_148 rfl ?_
                  refine az_bipush _ d_Mo_reads_149 (by decide) ?_
                  refine az_iconst d_Mo_reads_151 ?_
                  refine ax_cV2 d_Mo_reads_152 v_Mo_wrong lk_Mo_200 (by first | assumption | exact hH.g 0 rfl | exact hH.g 1 rfl | exact hH.g 2 rfl | exact hH.g 3 rfl | exact hH.g 4 rfl | exact hH.g 5 rfl | exact hH.g 6 rfl | exact hH.g 7 rfl | exact hH.g 8 rfl | exact hH.g 9 rfl | exact hH.g 10 rfl | exact hH.g 11 rfl | exact hH.g 12 rfl | exact hH.g 13 rfl | exact hH.g 14 rfl | exact hH.g 15 rfl | exact hH.g 16 rfl | exact hH.g 17 rfl | exact hH.g 18 rfl) (by decide) (Nat.le_of_ble_eq_true rfl) (cm_z (c_Mo_wrong hH hR6.2.2.2.2.2.2 (f := 9) (pl := 4) (by omega)) (fun b h8 hq => ?_))
                  obtain ⟨rfl, hE, hF8⟩ := hq
                  refine ax_zret d_Mo_reads_155 rfl (by decide) ?_
                  exact RdQ_e hs (hE.tr ki15 ka16 rfl rfl) (hF.tr hF8)
              · exact absurd (bz_f hcb) (by decide)
end RRDT
