/-! rounds by the parting places of neighbours -/
theorem ord_cmp {xs : List Int} {i j : Nat} (hij : i < j) (hj : j < xs.length) : cmpT xs (ordT xs i) (ordT xs j) ≤ 0 := by
  have h1 := ordT_ok (show i < xs.length by omega)
  have h2 := ordT_ok hj
  have h3 := (plc_iff (ltT_ok xs) h1.1 h2.1).mp (by show plT xs _ < plT xs _; rw [h1.2, h2.2]; exact hij)
  rw [ltT_iff] at h3
  omega
theorem cmp_pre {xs : List Int} {p q : Nat} (hn : 0 < xs.length) (h : cmpT xs p q ≤ 0) (L : Nat) : cmpL (cx xs) L p q ≤ 0 := by
  by_cases w : L ≤ xs.length
  · have h1 := cmpL_add (cx xs) (xs.length - L) L p q
    rw [show L + (xs.length - L) = xs.length by omega] at h1
    have h2 : cmpL (cx xs) xs.length p q ≤ 0 := h
    rw [h1] at h2
    by_cases e : cmpL (cx xs) L p q = 0
    · omega
    · rw [if_neg e] at h2
      exact h2
  · rw [cmpL_big (cx_per xs) hn (by omega)]
    exact h
theorem adj_all {xs : List Int} {L : Nat} (hn : 0 < xs.length) (hA : ∀ k : Nat, k + 1 < xs.length → cmpL (cx xs) L (ordT xs k) (ordT xs (k + 1)) = 0 → cmpT xs (ordT xs k) (ordT xs (k + 1)) = 0) : ∀ (d i : Nat), i + d < xs.length → cmpL (cx xs) L (ordT xs i) (ordT xs (i + d)) = 0 → cmpT xs (ordT xs i) (ordT xs (i + d)) = 0
  | 0, i, _, _ => (cmpL_zero _ _ _ _).mpr (fun j _ => rfl)
  | d + 1, i, hd, h => by
    have h2 := cmp_pre hn (ord_cmp (xs := xs) (i := i + d) (j := i + (d + 1)) (by omega) hd) L
    have h1 : cmpL (cx xs) L (ordT xs i) (ordT xs (i + d)) ≤ 0 := by
      by_cases e : d = 0
      · subst e
        have : cmpL (cx xs) L (ordT xs i) (ordT xs (i + 0)) = 0 := (cmpL_zero _ _ _ _).mpr (fun j _ => rfl)
        omega
      · exact cmp_pre hn (ord_cmp (xs := xs) (i := i) (j := i + d) (by omega) (by omega)) L
    have h3 := (cmpL_tr (cx xs) L _ _ _ h1 h2).2 h
    have r1 := adj_all hn hA d i (by omega) h3.1
    have r2 := hA (i + d) (by omega) h3.2
    have s1 := (cmpL_zero _ _ _ _).mp r1
    have s2 := (cmpL_zero _ _ _ _).mp r2
    exact (cmpL_zero _ _ _ _).mpr (fun j hj => (s1 j hj).trans (s2 j hj))
/-- m is one more than the farthest parting place of neighbours that part -/
def isMst (xs : List Int) (k m : Nat) : Prop := (∀ i d : Nat, i + 1 < k → isPt xs (ordT xs i) (ordT xs (i + 1)) d → d < xs.length → d + 1 ≤ m) ∧ (m = 0 ∨ ∃ i d : Nat, i + 1 < k ∧ isPt xs (ordT xs i) (ordT xs (i + 1)) d ∧ d < xs.length ∧ d + 1 = m)
theorem isPt_uniq {xs : List Int} {a b p q : Nat} (h1 : isPt xs a b p) (h2 : isPt xs a b q) : p = q := by
  obtain ⟨a1, a2, a3⟩ := h1
  obtain ⟨b1, b2, b3⟩ := h2
  rcases Nat.lt_trichotomy p q with h | h | h
  · exact absurd (b2 p h) (a3 (by omega))
  · exact h
  · exact absurd (a2 q h) (b3 (by omega))
theorem isPt_ex (xs : List Int) (a b : Nat) : ∃ p, isPt xs a b p := by
  have key : ∀ (f i : Nat), i + f = xs.length → (∀ j : Nat, j < i → cx xs (a + j) = cx xs (b + j)) → ∃ p, isPt xs a b p := by
    intro f
    induction f with
    | zero => intro i he hj; exact ⟨i, by omega, hj, fun q => by omega⟩
    | succ f ih =>
      intro i he hj
      by_cases e : cx xs (a + i) = cx xs (b + i)
      · refine ih (i + 1) (by omega) (fun j hj2 => ?_)
        by_cases e2 : j = i
        · subst e2; exact e
        · exact hj j (by omega)
      · exact ⟨i, by omega, hj, fun _ => e⟩
  exact key xs.length 0 (by omega) (fun j hj => by omega)
theorem rnd_of {xs : List Int} {m r : Nat} (hn : 0 < xs.length) (h : isMst xs xs.length m) (h1 : m ≤ 2 ^ r) (h2 : ∀ s : Nat, s < r → 2 ^ s < m) : isRnd xs r := by
  obtain ⟨hM, hE⟩ := h
  have hA : ∀ k : Nat, k + 1 < xs.length → cmpL (cx xs) (2 ^ r) (ordT xs k) (ordT xs (k + 1)) = 0 → cmpT xs (ordT xs k) (ordT xs (k + 1)) = 0 := by
    intro k hk hc
    obtain ⟨d, hd⟩ := isPt_ex xs (ordT xs k) (ordT xs (k + 1))
    by_cases e : d < xs.length
    · have := hM k d hk hd e
      exact absurd ((cmpL_zero _ _ _ _).mp hc d (by omega)) (hd.2.2 e)
    · have e2 : d = xs.length := by have := hd.1; omega
      exact (cmpL_zero _ _ _ _).mpr (fun j hj => hd.2.1 j (by omega))
  refine ⟨fun p q hp hq hc => ?_, fun s hs => ?_⟩
  · have ep := ordT_pl (xs := xs) hp
    have eq := ordT_pl (xs := xs) hq
    have lp := plc_lt_n (ltT_ok xs) hp
    have lq := plc_lt_n (ltT_ok xs) hq
    have lp : plT xs p < xs.length := lp
    have lq : plT xs q < xs.length := lq
    rcases Nat.le_total (plT xs p) (plT xs q) with h | h
    · have := adj_all hn hA (plT xs q - plT xs p) (plT xs p) (by omega)
      rw [show plT xs p + (plT xs q - plT xs p) = plT xs q by omega, ep, eq] at this
      exact this hc
    · have := adj_all hn hA (plT xs p - plT xs q) (plT xs q) (by omega)
      rw [show plT xs q + (plT xs p - plT xs q) = plT xs p by omega, ep, eq] at this
      have hc2 : cmpL (cx xs) (2 ^ r) q p = 0 := by rw [cmpL_anti, hc]; rfl
      have h9 := this hc2
      show cmpL (cx xs) xs.length p q = 0
      have h10 : cmpL (cx xs) xs.length q p = 0 := h9
      rw [cmpL_anti, h10]
      rfl
  · have := h2 s hs
    rcases hE with hE | ⟨i, d, hi, hd, hdn, hdm⟩
    · rw [hE] at this
      exact absurd this (Nat.not_lt_zero _)
    · have o1 := ordT_ok (show i < xs.length by omega)
      have o2 := ordT_ok hi
      refine ⟨ordT xs i, ordT xs (i + 1), o1.1, o2.1, (cmpL_zero _ _ _ _).mpr (fun j hj => hd.2.1 j (by omega)), fun hc => ?_⟩
      exact hd.2.2 hdn ((cmpL_zero _ _ _ _).mp hc d hdn)
