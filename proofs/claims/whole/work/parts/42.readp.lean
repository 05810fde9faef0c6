/-! reading lengths and symbols: facts -/
theorem rdL1_ok {T : List Int} : ∀ (f p : Nat) (hd : Int) (pl : Nat) (q : Int × Nat), (1 ≤ hd ∧ hd ≤ 12) → rdL1 T f p hd pl = .inr q → (1 ≤ q.1 ∧ q.1 ≤ 12) ∧ p < q.2 ∧ q.2 ≤ 8 * T.length
  | 0, p, hd, pl, q, hh, h => by cases h
  | f + 1, p, hd, pl, q, hh, h => by
    rw [rdL1] at h
    split at h
    · cases h
    · split at h
      · cases h
        exact ⟨hh, by show p < p + 1; omega, by show p + 1 ≤ _; omega⟩
      · generalize hd + (if tb T (p + 1) = 0 then (1 : Int) else -1) = x at h
        split at h
        · cases h
        · split at h
          · cases h
          · rename_i h1 h2 h3 h4
            have := rdL1_ok f (p + 2) _ pl q (by omega) h
            exact ⟨this.1, by omega, this.2.2⟩
theorem rdLs_ok {T : List Int} : ∀ (k p : Nat) (hd : Int) (acc : List Int) (q : List Int × Nat), (1 ≤ hd ∧ hd ≤ 12) → (∀ x ∈ acc, 1 ≤ x ∧ x ≤ 12) → p ≤ 8 * T.length → rdLs T k p hd acc = .inr q → (∀ x ∈ q.1, 1 ≤ x ∧ x ≤ 12) ∧ q.1.length = acc.length + k ∧ p ≤ q.2 ∧ q.2 ≤ 8 * T.length
  | 0, p, hd, acc, q, hh, ha, hp, h => by
    cases h
    exact ⟨ha, rfl, Nat.le_refl _, hp⟩
  | k + 1, p, hd, acc, q, hh, ha, hp, h => by
    rw [rdLs] at h
    split at h
    · cases h
    · rename_i r hr
      have h1 := rdL1_ok _ _ _ _ _ hh hr
      have h2 := rdLs_ok k r.2 r.1 (acc ++ [r.1]) q h1.1 (fun x hx => by
        rcases List.mem_append.mp hx with w | w
        · exact ha x w
        · simp at w; rw [w]; exact h1.1) h1.2.2 h
      refine ⟨h2.1, ?_, by omega, h2.2.2.2⟩
      rw [h2.2.1]
      simp
      omega
theorem okLg_of {ls : List Int} {n : Nat} (hl : ls.length = n) (h : ∀ x ∈ ls, 1 ≤ x ∧ x ≤ 12) : okLg (gx ls) n := fun k hk => h _ (inL_mem ⟨k, by omega, rfl⟩)
theorem rdLens_ok {T : List Int} {n p : Nat} {q : List Int × Nat} (h : rdLens T n p = .inr q) : okLg (gx q.1) n ∧ q.1.length = n ∧ kraft (gx q.1) n = 4096 ∧ p < q.2 ∧ q.2 ≤ 8 * T.length := by
  unfold rdLens at h
  split at h
  · cases h
  · split at h
    · cases h
    · unfold lenE at h
      split at h
      · cases h
      · rename_i h1 h2 _ r hr
        split at h
        · rename_i h3
          cases h
          have h4 := rdLs_ok _ _ _ _ _ (by omega) (fun x hx => by simp at hx) (by omega) hr
          have h5 : q.1.length = n := by have := h4.2.1; simp at this; exact this
          exact ⟨okLg_of h5 h4.1, h5, h3, by have := h4.2.2.1; omega, h4.2.2.2⟩
        · cases h
theorem kraft_cg {a b : Nat → Int} {n : Nat} (h : ∀ k : Nat, k < n → a k = b k) : kraft a n = kraft b n := fsum_cg (fun i hi => by rw [h i hi])
theorem plc_kl_cg {a b : Nat → Int} {n : Nat} (h : ∀ k : Nat, k < n → a k = b k) {s : Nat} (hs : s < n) : plc (kl a) n s = plc (kl b) n s := cnt_congr (fun i hi => by unfold kl; rw [h i hi, h s hs])
theorem nlc_cg {a b : Nat → Int} {n : Nat} (h : ∀ k : Nat, k < n → a k = b k) (c : Int) : nlc a n c = nlc b n c := cnt_congr (fun i hi => by rw [h i hi])
/-! which symbol has a code -/
theorem nlc_mono (lg : Nat → Int) (c : Int) (s : Nat) : ∀ j : Nat, nlc lg s c ≤ nlc lg (s + j) c
  | 0 => Nat.le_refl _
  | j + 1 => by
    have := nlc_mono lg c s j
    rw [← Nat.add_assoc, nlc_succ]
    split <;> omega
theorem nlc_lt {lg : Nat → Int} {s t : Nat} (h : s < t) : nlc lg s (lg s) < nlc lg t (lg s) := by
  have h1 := nlc_mono lg (lg s) (s + 1) (t - (s + 1))
  rw [show s + 1 + (t - (s + 1)) = t by omega, nlc_succ, if_pos rfl] at h1
  omega
theorem codeV_inj {lg : Nat → Int} {n s t : Nat} (h1 : lg s = lg t) (h2 : codeV lg n s = codeV lg n t) : s = t := by
  unfold codeV at h2
  rw [h1] at h2
  rcases Nat.lt_trichotomy s t with h | h | h
  · have := nlc_lt (lg := lg) h
    rw [h1] at this
    omega
  · exact h
  · have := nlc_lt (lg := lg) h
    rw [← h1] at this h2
    omega
theorem ltC_mono {lg : Nat → Int} {n : Nat} {a b : Int} (h : a ≤ b) : ltC n lg a ≤ ltC n lg b := cnt_mono (fun i _ q => by simp at q ⊢; omega)
theorem ltC_s (lg : Nat → Int) (n : Nat) (c : Int) : ltC n lg (c + 1) = ltC n lg c + nlc lg n c := ltC_succ n lg c
theorem symT_some {lg : Nat → Int} {n l v : Nat} (h1 : vb lg n l ≤ v) (h2 : v < vb lg n l + nlc lg n l) : ∃ s : Nat, s < n ∧ symT lg n l v = some s ∧ plc (kl lg) n s = ltC n lg l + (v - vb lg n l) := by
  have hs1 := ltC_s lg n l
  have hk : ltC n lg l + (v - vb lg n l) < n := by
    have : ltC n lg ((l : Int) + 1) ≤ n := cnt_le _ _
    omega
  obtain ⟨s, hs, e⟩ := plc_onto (kl_ok lg n) hk
  have e2 := plc_kl (x := lg) (n := n) (k := s) (by omega)
  have e3 : plc (kl lg) n s = ltC n lg (lg s) + nlc lg s (lg s) := e2
  have hlt := nlc_lt (lg := lg) hs
  have hls : lg s = (l : Int) := by
    rcases Int.lt_trichotomy (lg s) l with h | h | h
    · have a1 := ltC_s lg n (lg s)
      have a2 := ltC_mono (lg := lg) (n := n) (show lg s + 1 ≤ (l : Int) by omega)
      omega
    · exact h
    · have a2 := ltC_mono (lg := lg) (n := n) (show (l : Int) + 1 ≤ lg s by omega)
      omega
  have hc : codeV lg n s = v := by
    unfold codeV
    rw [hls] at e3 ⊢
    rw [show ((l : Nat) : Int).toNat = l by omega]
    omega
  refine ⟨s, hs, ?_, e⟩
  unfold symT
  cases hf : (List.range n).find? (fun s => decide (lg s = (l : Int) ∧ codeV lg n s = v)) with
  | none =>
    have := List.find?_eq_none.mp hf s (List.mem_range.mpr hs)
    simp at this
    exact absurd hc (this hls)
  | some t =>
    have ht := List.find?_some hf
    have ht := of_decide_eq_true ht
    rw [codeV_inj (n := n) (show lg t = lg s by rw [ht.1, hls]) (by rw [ht.2, hc])]
theorem symT_none {lg : Nat → Int} {n l v : Nat} (h : vb lg n l + nlc lg n l ≤ v) : symT lg n l v = none := by
  unfold symT
  rw [List.find?_eq_none]
  intro s hs q
  have hs := List.mem_range.mp hs
  have q := of_decide_eq_true q
  have := nlc_lt (lg := lg) hs
  have h2 := q.2
  unfold codeV at h2
  rw [q.1] at h2 this
  rw [show ((l : Nat) : Int).toNat = l by omega] at h2
  omega
theorem symT_lt {lg : Nat → Int} {n l v s : Nat} (h : symT lg n l v = some s) : s < n := List.mem_range.mp (List.mem_of_find?_eq_some h)
theorem rdY_ok {T : List Int} {lg : Nat → Int} {n : Nat} : ∀ (k l p v : Nat) (q : Nat × Nat), rdY T lg n k l p v = some q → q.1 < n ∧ p < q.2 ∧ q.2 ≤ 8 * T.length
  | 0, _, _, _, _, h => by cases h
  | k + 1, l, p, v, q, h => by
    rw [rdY] at h
    split at h
    · cases h
    · split at h
      · rename_i h1 s hs
        cases h
        exact ⟨symT_lt hs, by show p < p + 1; omega, by show p + 1 ≤ _; omega⟩
      · have := rdY_ok k (l + 1) (p + 1) _ q h
        exact ⟨this.1, by omega, this.2.2⟩
theorem manyS_b (s w : Nat) (hw : 1 ≤ w) : 1 ≤ manyS s w ∧ manyS s w ≤ 2 * w ∧ (s < 2 → w ≤ manyS s w) := by
  unfold manyS
  by_cases h : s < 2
  · rw [if_pos h]
    have : s = 0 ∨ s = 1 := by omega
    rcases this with rfl | rfl
    · exact ⟨by omega, by omega, fun _ => by omega⟩
    · exact ⟨by omega, by omega, fun _ => by omega⟩
  · rw [if_neg h]
    exact ⟨by omega, by omega, fun q => absurd q h⟩
theorem gx_Bs {l : List Int} (h : Bs l) (i : Nat) : 0 ≤ gx l i ∧ gx l i < 256 := by
  by_cases w : i < l.length
  · exact h i w
  · have : gx l i = 0 := by
      show l.getD i 0 = 0
      rw [List.getD_eq_getElem?_getD, List.getElem?_eq_none (by omega)]
      rfl
    omega
theorem rdR_ok {T : List Int} {lg : Nat → Int} {c : Nat} : ∀ (f p : Nat) (l : List Int) (w : Nat) (acc : List Int) (q : List Int × Nat), Bs l → 0 < l.length → Bs acc → 1 ≤ w → acc.length ≤ c → rdR T lg c f p l w acc = .inr q → Bs q.1 ∧ q.1.length = c ∧ p < q.2 ∧ q.2 ≤ 8 * T.length
  | 0, _, _, _, _, _, _, _, _, _, _, h => by cases h
  | f + 1, p, l, w, acc, q, hl, hl0, ha, hw, hc, h => by
    rw [rdR] at h
    split at h
    · cases h
    · rename_i r hr
      have hy := rdY_ok _ _ _ _ _ hr
      split at h
      · split at h
        · rename_i h1 h2
          cases h
          exact ⟨ha, h2, hy.2.1, hy.2.2⟩
        · cases h
      · split at h
        · cases h
        · rename_i h1 h2
          have hm := manyS_b r.1 w hw
          have := rdR_ok f r.2 _ _ _ q (by
            split
            · exact hl
            · exact Bs_mtf (by omega) hl) (by
            split
            · exact hl0
            · rw [mtf_len]; exact hl0) (Bs_rep ha (gx_Bs hl _) _) (by split <;> omega) (by rw [List.length_append, List.length_replicate]; omega) h
          exact ⟨this.1, this.2.1, by omega, this.2.2.2⟩
