/-! StreamReader.readStream -/
def BnW (h : ax_H) : Prop := BnO h ∧ TuAny h ∧ RwAny h 8 9 900 ∧ ChAny h ∧ SyAny h ∧ FlAny h ∧ CdAny h ∧ JnAny h ∧ RwAny h 33 34 900 ∧ RwAny h 35 36 600 ∧ RwAny h 37 38 750
theorem BnW.fr {h h1 : ax_H} {S : List Nat} (k : BnW h) (hF : Fr S h h1) (hd : ([6, 7, 8, 9, 10, 11, 12, 13, 14, 15, 16, 17, 18, 19, 20, 21, 22, 23, 24, 25, 26, 27, 28, 29, 30, 31, 32, 33, 34, 35, 36, 37, 38].all fun a => !S.contains a) = true) : BnW h1 := by
  have hm : ∀ a ∈ [6, 7, 8, 9, 10, 11, 12, 13, 14, 15, 16, 17, 18, 19, 20, 21, 22, 23, 24, 25, 26, 27, 28, 29, 30, 31, 32, 33, 34, 35, 36, 37, 38], S.contains a = false := fun a ha => by
    have := List.all_eq_true.mp hd a ha
    simpa using this
  have hs : ∀ L : List Nat, (∀ a ∈ L, a ∈ [6, 7, 8, 9, 10, 11, 12, 13, 14, 15, 16, 17, 18, 19, 20, 21, 22, 23, 24, 25, 26, 27, 28, 29, 30, 31, 32, 33, 34, 35, 36, 37, 38]) → (L.all fun a => !S.contains a) = true := fun L hL => List.all_eq_true.mpr (fun a ha => by rw [hm a (hL a ha)]; rfl)
  obtain ⟨k0, k1, k2, k3, k4, k5, k6, k7, k8, k9, k10⟩ := k
  exact ⟨k0.fr hF (hm 6 (by decide)), k1.fr hF (hs _ (by decide)), k2.fr hF (hm 8 (by decide)) (hm 9 (by decide)), k3.fr hF (hs _ (by decide)), k4.fr hF (hs _ (by decide)), k5.fr hF (hs _ (by decide)), k6.fr hF (hs _ (by decide)), k7.fr hF (hs _ (by decide)), k8.fr hF (hm 33 (by decide)) (hm 34 (by decide)), k9.fr hF (hm 35 (by decide)) (hm 36 (by decide)), k10.fr hF (hm 37 (by decide)) (hm 38 (by decide))⟩
abbrev RG : List Nat := [7, 8, 9, 10, 11, 12, 13, 14, 15, 16, 17, 18, 19, 20, 21, 22, 23, 24, 25, 26, 27, 28, 29, 30, 31, 32, 33, 34, 35, 36, 37, 38, 42, 45, 46]
theorem Bs_of_nil : (0 : Nat) < ([] : List Int).length ∨ ((0 : Nat) = 0 ∧ ([] : List Int).length = 0) := Or.inr ⟨rfl, rfl⟩
set_option maxRecDepth 100000 in
set_option maxHeartbeats 8000000 in
theorem c_Sr_readStream {h0 : ax_H} {T : List Int} {p c o k hd f fp : Int} (hH : SrH h0 p c o k hd f fp) (hR : Rw h0 43 44 3000 T) (hb : Bs T) (hLa : RwAny h0 45 46 900) (hB : BnW h0) :
    ax_Cz m_Sr_readStream 5 [.ref 42, .ref 6] h0 (fun b h1 => Fr RG h0 h1 ∧ BnW h1 ∧ RwAny h1 45 46 900 ∧ match rdT T with
      | .inl e => b = false ∧ SrF h1 e
      | .inr u => b = true ∧ SrF h1 (0, -2) ∧ Rw h1 35 36 600 u) := by
  obtain ⟨hB0, hT, hLs, hCh, hSy, hFl, hCd, hJn, hG, hU, hA⟩ := hB
  have hlc := hR.lc
  obtain ⟨la, hLa⟩ := hLa
  have hF : Fr [42] h0 h0 := Fr.rf
  refine ax_enter [some (.ref 42), some (.ref 6), none, none] rfl (Nat.le_of_ble_eq_true rfl) (by decide) ?_
  refine ax_aload_n d_Sr_readStream_0 rfl ?_
  refine az_iconst d_Sr_readStream_1 ?_
  first | refine ah_put d_Sr_readStream_2 fp_Sr_27 hH hF 0 rfl rfl rfl (by first | rfl | decide) (Nat.le_of_ble_eq_true rfl) (fun h hH hF => ?_)
  refine ax_aload_n d_Sr_readStream_5 rfl ?_
  refine az_iconst d_Sr_readStream_6 ?_
  first | refine ah_put d_Sr_readStream_7 fp_Sr_30 hH hF 0 rfl rfl rfl (by first | rfl | decide) (Nat.le_of_ble_eq_true rfl) (fun h hH hF => ?_)
  refine ax_aload_n d_Sr_readStream_10 rfl ?_
  refine az_bipush _ d_Sr_readStream_11 (by decide) ?_
  first | refine ah_put d_Sr_readStream_13 fp_Sr_23 hH hF 0 rfl rfl rfl (by first | rfl | decide) (Nat.le_of_ble_eq_true rfl) (fun h hH hF => ?_)
  have hH : SrH h ((0 : Nat) : Int) c o k hd 0 (-2) := hH
  have hLa1 := hLa.fr hF rfl rfl
  have hsz45 := hLa1.sz
  refine ax_aload_n d_Sr_readStream_16 rfl ?_
  refine ax_get d_Sr_readStream_17 fg_Sr_20 (by first | assumption | exact hH.g 0 rfl) (by rfl) ?_
  refine az_iconst d_Sr_readStream_20 ?_
  refine ax_cV1 d_Sr_readStream_21 v_Rw_shorten lk_Sr_33 (by first | assumption | exact hH.g 0 rfl) (by decide) (Nat.le_of_ble_eq_true rfl) (cm_v (c_Rw_shorten hLa1 (n := 0) (by omega)) (fun h2 hq => ?_))
  obtain ⟨hLa2, hF2⟩ := hq
  have hLa2 : Rw h2 45 46 900 [] := hLa2
  have hH : SrH h2 ((0 : Nat) : Int) c o k hd 0 (-2) := hH.fr hF2 rfl
  have hFx : Fr [42, 45, 46] h0 h2 := (hF.wide rfl).tr (hF2.wide rfl)
  have hB2 : h2[6]? = some (ob 1 [.ref 7, .ref 15, .ref 18, .ref 22, .ref 33, .ref 35, .ref 37]) := hB0.fr hFx rfl
  obtain ⟨ss, es, hSy⟩ := hSy
  have hSy2 := hSy.fr hFx rfl
  have c18 := hSy2.sz
  refine ax_aload_n d_Sr_readStream_24 rfl ?_
  refine ax_get d_Sr_readStream_25 fg_Sr_36 (by first | assumption | exact hH.g 0 rfl) (by rfl) ?_
  refine ax_get d_Sr_readStream_28 fg_Sr_42 (by first | assumption | exact hH.g 0 rfl) (by rfl) ?_
  refine ax_astore_n d_Sr_readStream_31 (by decide) rfl ?_
  refine ax_aload_n d_Sr_readStream_32 rfl ?_
  refine ax_get d_Sr_readStream_33 fg_Sr_48 (by first | assumption | exact hH.g 0 rfl) (by rfl) ?_
  refine ax_astore_n d_Sr_readStream_36 (by decide) rfl ?_
  refine ax_aload_n d_Sr_readStream_37 rfl ?_
  refine ax_cV0 d_Sr_readStream_38 v_Sr_readHead lk_Sr_52 (by first | assumption | exact hH.g 0 rfl) (by decide) (Nat.le_of_ble_eq_true rfl) (cm_z (c_Sr_readHead hH (hR.fr hFx rfl rfl) hb) (fun b h3 hq => ?_))
  obtain ⟨hF3, hq⟩ := hq
  have hF03 : Fr [42, 45, 46] h0 h3 := hFx.tr (hF3.wide rfl)
  have hBW3 : BnW h3 := BnW.fr ⟨hB0, hT, hLs, hCh, ⟨_, _, hSy⟩, hFl, hCd, hJn, hG, hU, hA⟩ hF03 rfl
  unfold rdT
  cases hHd : rdHead T with
  | inl e =>
    rw [hHd] at hq
    obtain ⟨rfl, hE⟩ := hq
    refine az_if_eq 101 d_Sr_readStream_41 (by decide) (by first | exact bz_in _ | omega) (fun hx => ?_) (fun hx => ?_)
    · refine az_iconst d_Sr_readStream_101 ?_
      refine ax_zret d_Sr_readStream_102 rfl (by decide) ?_
      exact ⟨false, rfl, hF03.wide rfl, hBW3, ⟨_, hLa2.fr hF3 rfl rfl⟩, rfl, hE⟩
    · exact absurd rfl hx
  | inr q =>
    rw [hHd] at hq
    obtain ⟨c0, o0, k0⟩ := q
    obtain ⟨rfl, hH3, hc9, hoc, h80⟩ := hq
    have hH : SrH h3 ((80 : Nat) : Int) c0 o0 (wr k0) hd 0 (-2) := hH3
    have hc9 : c0 ≤ 900 := hc9
    have hoc : o0 < c0 ∨ (o0 = 0 ∧ c0 = 0) := hoc
    have hLa3 := hLa2.fr hF3 rfl rfl
    -- giving back and the end
    have fin : ∀ (h : ax_H) (p1 : Nat) (hd1 : Int) (row : List Int), p1 ≤ 8 * T.length → SrH h p1 c0 o0 (wr k0) hd1 0 (-2) → Rw h 45 46 900 row → Bs row → row.length = c0 → BnW h → Fr RG h0 h →
        ax_W m_Sr_readStream 5 82 [some (.ref 42), some (.ref 6), some (.ref 19), some (.ref 22)] [] h (fun r0 h1 => ∃ b : Bool, r0 = some (.int (iv (bz b))) ∧ Fr RG h0 h1 ∧ BnW h1 ∧ RwAny h1 45 46 900 ∧ match rdFin T o0 k0 row p1 with
          | .inl e => b = false ∧ SrF h1 e
          | .inr u => b = true ∧ SrF h1 (0, -2) ∧ Rw h1 35 36 600 u) := by
      intro h p1 hd1 row hp1 hH hRow hbr hrl hBW hF
      obtain ⟨hB0, hT, hLs, hCh, hSy, hFl, hCd, hJn, hG, hU, hA⟩ := hBW
      refine ax_aload_n d_Sr_readStream_82 rfl ?_
      refine ax_aload_n d_Sr_readStream_83 rfl ?_
      refine ax_cV1 d_Sr_readStream_84 v_Sr_isGivenBack lk_Sr_76 (by first | assumption | exact hH.g 0 rfl) (by decide) (Nat.le_of_ble_eq_true rfl) (cm_z (c_Sr_isGivenBack hH (wr_in _) hB0 hT hLs hCh hG hU hA hRow hbr (by omega)) (fun b h4 hq => ?_))
      obtain ⟨hF4, hT4, hLs4, hCh4, hG4, hA4, hU4, hq⟩ := hq
      have hF04 : Fr RG h0 h4 := hF.tr (hF4.wide rfl)
      have hBW4 : BnW h4 := ⟨hB0.fr hF4 rfl, hT4, hLs4, hCh4, hSy.fr hF4 rfl, hFl.fr hF4 rfl, hCd.fr hF4 rfl, hJn.fr hF4 rfl, hG4, hU4, hA4⟩
      have hRow4 := hRow.fr hF4 rfl rfl
      unfold rdFin
      by_cases hr : rightB row o0 = false
      · rw [if_pos hr] at hq ⊢
        obtain ⟨rfl, hE⟩ := hq
        refine az_if_eq 101 d_Sr_readStream_87 (by decide) (by first | exact bz_in _ | omega) (fun hx => ?_) (fun hx => ?_)
        · refine az_iconst d_Sr_readStream_101 ?_
          refine ax_zret d_Sr_readStream_102 rfl (by decide) ?_
          exact ⟨false, rfl, hF04, hBW4, ⟨_, hRow4⟩, rfl, hE⟩
        · exact absurd rfl hx
      · rw [if_neg hr] at hq ⊢
        cases hup : upT (gbT row o0) with
        | none =>
          rw [hup] at hq
          obtain ⟨rfl, hE⟩ := hq
          refine az_if_eq 101 d_Sr_readStream_87 (by decide) (by first | exact bz_in _ | omega) (fun hx => ?_) (fun hx => ?_)
          · refine az_iconst d_Sr_readStream_101 ?_
            refine ax_zret d_Sr_readStream_102 rfl (by decide) ?_
            exact ⟨false, rfl, hF04, hBW4, ⟨_, hRow4⟩, rfl, hE⟩
          · exact absurd rfl hx
        | some u =>
          rw [hup] at hq
          try dsimp only at hq ⊢
          by_cases hck : crc u ≠ wr k0
          · rw [if_pos hck] at hq ⊢
            obtain ⟨rfl, hE⟩ := hq
            refine az_if_eq 101 d_Sr_readStream_87 (by decide) (by first | exact bz_in _ | omega) (fun hx => ?_) (fun hx => ?_)
            · refine az_iconst d_Sr_readStream_101 ?_
              refine ax_zret d_Sr_readStream_102 rfl (by decide) ?_
              exact ⟨false, rfl, hF04, hBW4, ⟨_, hRow4⟩, rfl, hE⟩
            · exact absurd rfl hx
          · rw [if_neg hck] at hq ⊢
            obtain ⟨rfl, hH4, hU4'⟩ := hq
            have hH := hH4
            refine az_if_eq 101 d_Sr_readStream_87 (by decide) (by first | exact bz_in _ | omega) (fun hx => ?_) (fun hx => ?_)
            · exact absurd hx (by decide)
            · refine ax_aload_n d_Sr_readStream_90 rfl ?_
              refine ax_cV0 d_Sr_readStream_91 v_Sr_isAtEnd lk_Sr_80 (by first | assumption | exact hH.g 0 rfl) (by decide) (Nat.le_of_ble_eq_true rfl) (cm_z (c_Sr_isAtEnd hH (hR.fr hF04 rfl rfl) hb hp1) (fun b h5 hq => ?_))
              obtain ⟨hF5, hq⟩ := hq
              have hF05 := hF04.tr (hF5.wide rfl)
              have hBW5 : BnW h5 := hBW4.fr hF5 rfl
              have hRow5 := hRow4.fr hF5 rfl rfl
              by_cases ht : tv T (fillN p1) p1 ≠ 0
              · rw [if_pos ht] at hq ⊢
                obtain ⟨rfl, hE⟩ := hq
                refine az_if_eq 101 d_Sr_readStream_94 (by decide) (by first | exact bz_in _ | omega) (fun hx2 => ?_) (fun hx2 => ?_)
                · refine az_iconst d_Sr_readStream_101 ?_
                  refine ax_zret d_Sr_readStream_102 rfl (by decide) ?_
                  exact ⟨false, rfl, hF05, hBW5, ⟨_, hRow5⟩, rfl, hE⟩
                · exact absurd rfl hx2
              · rw [if_neg ht] at hq ⊢
                by_cases he : (p1 + fillN p1) / 8 = T.length
                · rw [if_pos he] at hq ⊢
                  obtain ⟨rfl, p', hH5⟩ := hq
                  refine az_if_eq 101 d_Sr_readStream_94 (by decide) (by first | exact bz_in _ | omega) (fun hx2 => ?_) (fun hx2 => ?_)
                  · exact absurd hx2 (by decide)
                  · refine az_iconst d_Sr_readStream_97 ?_
                    refine ax_goto 102 d_Sr_readStream_98 (by decide) ?_
                    refine ax_zret d_Sr_readStream_102 rfl (by decide) ?_
                    exact ⟨true, rfl, hF05, hBW5, ⟨_, hRow5⟩, rfl, ⟨_, _, _, _, _, hH5⟩, hU4'.fr hF5 rfl rfl⟩
                · rw [if_neg he] at hq ⊢
                  obtain ⟨rfl, hE⟩ := hq
                  refine az_if_eq 101 d_Sr_readStream_94 (by decide) (by first | exact bz_in _ | omega) (fun hx2 => ?_) (fun hx2 => ?_)
                  · refine az_iconst d_Sr_readStream_101 ?_
                    refine ax_zret d_Sr_readStream_102 rfl (by decide) ?_
                    exact ⟨false, rfl, hF05, hBW5, ⟨_, hRow5⟩, rfl, hE⟩
                  · exact absurd rfl hx2
    refine az_if_eq 101 d_Sr_readStream_41 (by decide) (by first | exact bz_in _ | omega) (fun hx => ?_) (fun hx => ?_)
    · exact absurd hx (by decide)
    · refine ax_aload_n d_Sr_readStream_44 rfl ?_
      refine ax_get d_Sr_readStream_45 fg_Sr_56 (by first | assumption | exact hH.g 0 rfl) (by rfl) ?_
      refine az_if_eq 82 d_Sr_readStream_48 (by decide) (by first | exact bz_in _ | omega) (fun hc0 => ?_) (fun hc0 => ?_)
      · have hc0' : c0 = 0 := by omega
        subst hc0'
        rw [show o0 = 0 by omega] at hH fin ⊢
        try dsimp only
        rw [if_pos rfl]
        exact fin h3 80 hd [] (by omega) hH hLa3 Bs_nil rfl hBW3 (hF03.wide rfl)
      · try dsimp only
        rw [if_neg (show ¬ c0 = 0 by omega)]
        obtain ⟨hB3', hT3, hLs3, hCh3, hSy3, ⟨l3, hFl3⟩, hCd3, hJn3, hG3, hU3, hA3⟩ := hBW3
        have hR3 := hR.fr hF03 rfl rfl
        refine ax_aload_n d_Sr_readStream_51 rfl ?_
        refine ax_aload_n d_Sr_readStream_52 rfl ?_
        refine ax_cV1 d_Sr_readStream_53 v_Sr_readList lk_Sr_59 (by first | assumption | exact hH.g 0 rfl) (by decide) (Nat.le_of_ble_eq_true rfl) (cm_z (c_Sr_readList hH hR3 hb h80 hFl3) (fun b h4 hq => ?_))
        obtain ⟨hF4, hFl4, hq⟩ := hq
        have hF04 : Fr [19, 20, 42, 45, 46] h0 h4 := (hF03.wide rfl).tr (hF4.wide rfl)
        have hBW4 : BnW h4 := ⟨hB3'.fr hF4 rfl, hT3.fr hF4 rfl, hLs3.fr hF4 rfl rfl, hCh3.fr hF4 rfl, hSy3.fr hF4 rfl, hFl4, hCd3.fr hF4 rfl, hJn3.fr hF4 rfl, hG3.fr hF4 rfl rfl, hU3.fr hF4 rfl rfl, hA3.fr hF4 rfl rfl⟩
        have hLa4 := hLa3.fr hF4 rfl rfl
        cases hLi : rdList T 80 with
        | inl e =>
          rw [hLi] at hq
          obtain ⟨rfl, hE⟩ := hq
          refine az_if_eq 101 d_Sr_readStream_56 (by decide) (by first | exact bz_in _ | omega) (fun hx1 => ?_) (fun hx1 => ?_)
          · refine az_iconst d_Sr_readStream_101 ?_
            refine ax_zret d_Sr_readStream_102 rfl (by decide) ?_
            exact ⟨false, rfl, hF04.wide rfl, hBW4, ⟨_, hLa4⟩, rfl, hE⟩
          · exact absurd rfl hx1
        | inr q =>
          rw [hLi] at hq
          obtain ⟨l, p1⟩ := q
          obtain ⟨rfl, hH4, hFl4'⟩ := hq
          have hH : SrH h4 p1 c0 o0 (wr k0) hd 0 (-2) := hH4
          have hFl5 : Fl h4 l := hFl4'
          have hlok := rdList_ok hLi
          have hl256 : l.length ≤ 256 := hlok.1.1
          have hlpos : 0 < l.length := List.length_pos_iff.mpr hlok.2.2
          have hbl := okL_Bs hlok.1 (Nat.le_refl _)
          have hR4 := hR.fr hF04 rfl rfl
          have hszl := hFl5.sz
          obtain ⟨hB4', hT4, hLs4, hCh4, hSy4, -, hCd4, hJn4, hG4, hU4, hA4⟩ := hBW4
          try dsimp only
          refine az_if_eq 101 d_Sr_readStream_56 (by decide) (by first | exact bz_in _ | omega) (fun hx1 => ?_) (fun hx1 => ?_)
          · exact absurd hx1 (by decide)
          · refine ax_aload_n d_Sr_readStream_59 rfl ?_
            refine ax_aload_n d_Sr_readStream_60 rfl ?_
            refine ax_aload_n d_Sr_readStream_61 rfl ?_
            refine ax_get d_Sr_readStream_62 fg_Sr_63 (by first | assumption | exact hH.g 0 rfl) (by rfl) ?_
            refine az_iconst d_Sr_readStream_65 ?_
            refine az_iadd d_Sr_readStream_66 ?_
            have en : (l.length : Int) + 2 = ((l.length + 2 : Nat) : Int) := by omega
            rw [en]
            refine ax_cV2 d_Sr_readStream_67 v_Sr_readLengths lk_Sr_68 (by first | assumption | exact hH.g 0 rfl) (by decide) (Nat.le_of_ble_eq_true rfl) (cm_z (c_Sr_readLengths hH hR4 hb hlok.2.1 hCd4 (n := l.length + 2) (by omega)) (fun b h5 hq => ?_))
            obtain ⟨hF5, hCd5, hq⟩ := hq
            have hF05 : Fr [19, 20, 22, 28, 29, 30, 31, 32, 42, 45, 46] h0 h5 := (hF04.wide rfl).tr (hF5.wide rfl)
            have hFl6 := hFl5.fr hF5 rfl
            have hBW5 : BnW h5 := ⟨hB4'.fr hF5 rfl, hT4.fr hF5 rfl, hLs4.fr hF5 rfl rfl, hCh4.fr hF5 rfl, hSy4.fr hF5 rfl, ⟨_, hFl6⟩, hCd5, hJn4.fr hF5 rfl, hG4.fr hF5 rfl rfl, hU4.fr hF5 rfl rfl, hA4.fr hF5 rfl rfl⟩
            have hLa5 := hLa4.fr hF5 rfl rfl
            cases hLe : rdLens T (l.length + 2) p1 with
            | inl e =>
              rw [hLe] at hq
              obtain ⟨rfl, hE⟩ := hq
              refine az_if_eq 101 d_Sr_readStream_70 (by decide) (by first | exact bz_in _ | omega) (fun hx2 => ?_) (fun hx2 => ?_)
              · refine az_iconst d_Sr_readStream_101 ?_
                refine ax_zret d_Sr_readStream_102 rfl (by decide) ?_
                exact ⟨false, rfl, hF05.wide rfl, hBW5, ⟨_, hLa5⟩, rfl, hE⟩
              · exact absurd rfl hx2
            | inr q =>
              rw [hLe] at hq
              obtain ⟨ls, p2⟩ := q
              obtain ⟨rfl, ⟨hd2, hH5⟩, hCr5⟩ := hq
              have hH : SrH h5 p2 c0 o0 (wr k0) hd2 0 (-2) := hH5
              have hCr5 : CdRd h5 (l.length + 2) (gx ls) := hCr5
              have hleok := rdLens_ok hLe
              have hR5 := hR.fr hF05 rfl rfl
              obtain ⟨hB5', hT5, hLs5, hCh5, hSy5, -, -, hJn5, hG5, hU5, hA5⟩ := hBW5
              try dsimp only
              refine az_if_eq 101 d_Sr_readStream_70 (by decide) (by first | exact bz_in _ | omega) (fun hx2 => ?_) (fun hx2 => ?_)
              · exact absurd hx2 (by decide)
              · refine ax_aload_n d_Sr_readStream_73 rfl ?_
                refine ax_aload_n d_Sr_readStream_74 rfl ?_
                refine ax_aload_n d_Sr_readStream_75 rfl ?_
                refine ax_cV2 d_Sr_readStream_76 v_Sr_readSymbols lk_Sr_72 (by first | assumption | exact hH.g 0 rfl) (by decide) (Nat.le_of_ble_eq_true rfl) (cm_z (c_Sr_readSymbols hH hR5 hb hleok.2.2.2.2 hc9 hFl6 hbl hlpos hl256 hLa5 hCr5 hleok.1) (fun b h6 hq => ?_))
                obtain ⟨hF6, hFl7, hLa6, hq⟩ := hq
                have hF06 : Fr RG h0 h6 := (hF05.wide rfl).tr (hF6.wide rfl)
                have hBW6 : BnW h6 := ⟨hB5'.fr hF6 rfl, hT5.fr hF6 rfl, hLs5.fr hF6 rfl rfl, hCh5.fr hF6 rfl, hSy5.fr hF6 rfl, hFl7, hCd5.fr hF6 rfl, hJn5.fr hF6 rfl, hG5.fr hF6 rfl rfl, hU5.fr hF6 rfl rfl, hA5.fr hF6 rfl rfl⟩
                cases hRo : rdR T (gx ls) c0 (c0 + 1) p2 l 1 [] with
                | inl e =>
                  rw [hRo] at hq
                  obtain ⟨rfl, hE⟩ := hq
                  refine az_if_eq 101 d_Sr_readStream_79 (by decide) (by first | exact bz_in _ | omega) (fun hx3 => ?_) (fun hx3 => ?_)
                  · refine az_iconst d_Sr_readStream_101 ?_
                    refine ax_zret d_Sr_readStream_102 rfl (by decide) ?_
                    exact ⟨false, rfl, hF06, hBW6, hLa6, rfl, hE⟩
                  · exact absurd rfl hx3
                | inr q =>
                  rw [hRo] at hq
                  obtain ⟨row, p3⟩ := q
                  obtain ⟨rfl, hH6, hRow6⟩ := hq
                  have hrok := rdR_ok _ _ _ _ _ _ hbl hlpos Bs_nil (by omega) (by simp) hRo
                  refine az_if_eq 101 d_Sr_readStream_79 (by decide) (by first | exact bz_in _ | omega) (fun hx3 => ?_) (fun hx3 => ?_)
                  · exact absurd hx3 (by decide)
                  · exact fin h6 p3 hd2 row hrok.2.2.2 hH6 hRow6 hrok.1 hrok.2.1 hBW6 hF06
