/-! sortTurns: the turns in order -/
def cx (xs : List Int) (i : Nat) : Int := gx xs (i % xs.length)
theorem cx_per (xs : List Int) (i : Nat) : cx xs (i + xs.length) = cx xs i := by
  unfold cx
  rw [Nat.add_mod_right]
abbrev cmpT (xs : List Int) (p q : Nat) : Int := cmpL (cx xs) xs.length p q
/-- turn q stands before turn p -/
def ltT (xs : List Int) (q p : Nat) : Bool := decide (cmpT xs q p < 0) || (decide (cmpT xs q p = 0) && decide (q < p))
theorem ltT_iff {xs : List Int} {q p : Nat} : ltT xs q p = true ↔ cmpT xs q p < 0 ∨ (cmpT xs q p = 0 ∧ q < p) := by simp [ltT]
/-- where turn p stands in order -/
def plT (xs : List Int) (p : Nat) : Nat := plc (ltT xs) xs.length p
theorem ltT_ok (xs : List Int) : ord_ok (ltT xs) xs.length := by
  refine ⟨fun p _ => ?_, fun p q r _ _ _ h1 h2 => ?_, fun p q _ _ hne => ?_⟩
  · cases h : ltT xs p p with
    | false => rfl
    | true =>
      rw [ltT_iff] at h
      have := cmpL_anti (cx xs) xs.length p p
      unfold cmpT at h
      omega
  · rw [ltT_iff] at h1 h2 ⊢
    have := cmpL_tr (cx xs) xs.length p q r (by unfold cmpT at h1; omega) (by unfold cmpT at h2; omega)
    unfold cmpT at h1 h2 ⊢
    omega
  · rw [ltT_iff, ltT_iff]
    have := cmpL_anti (cx xs) xs.length p q
    have := cmpL_rng (cx xs) xs.length p q
    unfold cmpT
    omega
def isRnd (xs : List Int) (r : Nat) : Prop := (∀ p q : Nat, p < xs.length → q < xs.length → cmpL (cx xs) (2 ^ r) p q = 0 → cmpT xs p q = 0) ∧ ∀ s : Nat, s < r → ∃ p q : Nat, p < xs.length ∧ q < xs.length ∧ cmpL (cx xs) (2 ^ s) p q = 0 ∧ cmpT xs p q ≠ 0
theorem isRnd_uniq {xs : List Int} {r s : Nat} (h1 : isRnd xs r) (h2 : isRnd xs s) : r = s := by
  rcases Nat.lt_trichotomy r s with h | h | h
  · obtain ⟨p, q, hp, hq, a, b⟩ := h2.2 r h
    exact absurd (h1.1 p q hp hq a) b
  · exact h
  · obtain ⟨p, q, hp, hq, a, b⟩ := h1.2 s h
    exact absurd (h2.1 p q hp hq a) b
theorem mkback {n : Nat} {rk : Nat → Int} {lp : Nat → Nat} {o : Nat → Int} (hi : injN n lp) (ho : ∀ q : Nat, q < n → o (plc (lt2 rk lp) n q) = q) : back2 n (plc (lt2 rk lp) n) (fun k => (o k).toNat) ∧ ∀ k : Nat, k < n → o k = ((o k).toNat : Nat) := by
  have hok := lt2_ok (rk := rk) hi
  refine ⟨⟨fun p hp => ⟨plc_lt_n hok hp, ?_⟩, fun k hk => ?_⟩, fun k hk => ?_⟩
  · show (o _).toNat = p
    rw [ho p hp]
    omega
  · obtain ⟨q, hq, e⟩ := plc_onto hok hk
    have h1 : (o k).toNat = q := by rw [← e, ho q hq]; omega
    show (o k).toNat < n ∧ plc (lt2 rk lp) n (o k).toNat = k
    rw [h1]
    exact ⟨hq, e⟩
  · obtain ⟨q, hq, e⟩ := plc_onto hok hk
    rw [← e, ho q hq]
    omega
theorem surj_inj {n rc : Nat} {rk : Nat → Int} (h : RKd n rc rk) (hr : n ≤ rc) {a b : Nat} (ha : a < n) (hb : b < n) (e : rk a = rk b) : a = b := by
  have hex : ∀ v : Nat, ∃ p : Nat, v < n → p < n ∧ rk p = v := by
    intro v
    by_cases hv : v < n
    · obtain ⟨p, h1, h2⟩ := h.2 v (by omega)
      exact ⟨p, fun _ => ⟨h1, h2⟩⟩
    · exact ⟨0, fun w => absurd w hv⟩
  let g : Nat → Nat := fun v => Classical.choose (hex v)
  have hg : ∀ v, v < n → g v < n ∧ rk (g v) = v := fun v hv => Classical.choose_spec (hex v) hv
  have onto := pig n g (fun v hv => (hg v hv).1) (fun u v hu hv w => by
    have h1 := (hg u hu).2
    have h2 := (hg v hv).2
    rw [w] at h1
    omega)
  obtain ⟨u, hu, eu⟩ := onto a ha
  obtain ⟨v, hv, ev⟩ := onto b hb
  have h1 := (hg u hu).2
  have h2 := (hg v hv).2
  rw [eu] at h1
  rw [ev] at h2
  have : u = v := by omega
  rw [← eu, ← ev, this]
theorem cmp_mod {X : Nat → Int} {n : Nat} (hX : ∀ i, X (i + n) = X i) (L a b : Nat) : cmpL X L (a % n) (b % n) = cmpL X L a b := by
  have h1 : ∀ a b : Nat, cmpL X L (a % n) b = cmpL X L a b := by
    intro a b
    have key : ∀ k : Nat, cmpL X L (a % n + n * k) b = cmpL X L (a % n) b := by
      intro k
      induction k with
      | zero => rfl
      | succ k ih => rw [Nat.mul_succ, ← Nat.add_assoc, cmpL_per hX, ih]
    have := key (a / n)
    rw [Nat.mod_add_div] at this
    exact this.symm
  rw [h1, ← Int.neg_neg (cmpL X L a (b % n)), ← cmpL_anti, h1, ← cmpL_anti]
/-- what L does not tell apart 2 L doesn't: then nothing does -/
theorem cmp_stuck {X : Nat → Int} {n L : Nat} (hX : ∀ i, X (i + n) = X i) (hn : 0 < n) (hL : 0 < L) (h : ∀ p q : Nat, p < n → q < n → cmpL X L p q = 0 → cmpL X (L + L) p q = 0) {p q : Nat} (h0 : cmpL X L p q = 0) : cmpL X n p q = 0 := by
  have hall : ∀ p q : Nat, cmpL X L p q = 0 → cmpL X L (p + L) (q + L) = 0 := by
    intro p q e
    rw [← cmp_mod hX] at e
    have e2 := h _ _ (Nat.mod_lt _ hn) (Nat.mod_lt _ hn) e
    rw [cmp_mod hX, cmpL_add, if_pos (by rw [← cmp_mod hX]; exact e)] at e2
    exact e2
  have key : ∀ k : Nat, cmpL X (L * k) p q = 0 ∧ cmpL X L (p + L * k) (q + L * k) = 0 := by
    intro k
    induction k with
    | zero => exact ⟨rfl, h0⟩
    | succ k ih =>
      refine ⟨?_, ?_⟩
      · rw [Nat.mul_succ, cmpL_add, if_pos ih.1]
        exact ih.2
      · rw [Nat.mul_succ, ← Nat.add_assoc, ← Nat.add_assoc]
        exact hall _ _ ih.2
  have h9 := (key n).1
  rw [cmpL_zero] at h9 ⊢
  intro j hj
  exact h9 j (Nat.lt_of_lt_of_le hj (Nat.le_mul_of_pos_left n hL))
theorem valid_order {xs : List Int} {L : Nat} {rk : Nat → Int} (hr : RKo (cx xs) xs.length L rk) (hv : ∀ p q : Nat, p < xs.length → q < xs.length → cmpL (cx xs) L p q = 0 → cmpT xs p q = 0) : RKo (cx xs) xs.length xs.length rk := by
  intro p q hp hq
  rw [hr p q hp hq]
  by_cases hL : xs.length ≤ L
  · rw [cmpL_big (cx_per xs) (by omega) hL]
  · obtain ⟨b, hb⟩ : ∃ b, xs.length = L + b := ⟨xs.length - L, by omega⟩
    have h1 := cmpL_add (cx xs) b L p q
    rw [← hb] at h1
    have h2 := hv p q hp hq
    unfold cmpT at h2
    by_cases e : cmpL (cx xs) L p q = 0
    · rw [h2 e, e]
    · rw [if_neg e] at h1
      rw [h1]
theorem final_places {xs : List Int} {rk : Nat → Int} (hr : RKo (cx xs) xs.length xs.length rk) {p : Nat} (hp : p < xs.length) : plc (lt2 rk (fun q => q)) xs.length p = plT xs p := by
  apply cnt_congr
  intro q hq
  rw [Bool.eq_iff_iff, lt2_iff, ltT_iff]
  have h1 := hr q p hq hp
  have h2 := hr.eq hq hp
  unfold cmpT
  rw [h1, h2]
/-- what holds of the order at the head of the doubling loop -/
def TuMid (xs : List Int) (rc : Nat) (r : Nat) (o rk : Nat → Int) : Prop :=
  (∃ pl oN : Nat → Nat, back2 xs.length pl oN ∧ (∀ k : Nat, k < xs.length → o k = oN k) ∧ ∀ p q : Nat, p < xs.length → q < xs.length → pl p < pl q → rk p ≤ rk q) ∧
  RKo (cx xs) xs.length (2 ^ r) rk ∧ RKd xs.length rc rk ∧ rc ≤ xs.length ∧ ∀ s : Nat, s < r → ∃ p q : Nat, p < xs.length ∧ q < xs.length ∧ cmpL (cx xs) (2 ^ s) p q = 0 ∧ cmpT xs p q ≠ 0
def TuFin (xs : List Int) (o p : Nat → Int) (db : Int) : Prop := (∀ q : Nat, q < xs.length → p q = plT xs q) ∧ (∀ q : Nat, q < xs.length → o (plT xs q) = q) ∧ ∃ r : Nat, db = r ∧ isRnd xs r
/-- the place of turn k in order, by a search -/
def ordT (xs : List Int) (k : Nat) : Nat := ((List.range xs.length).find? (fun p => plT xs p == k)).getD 0
theorem ordT_pl {xs : List Int} {p : Nat} (hp : p < xs.length) : ordT xs (plT xs p) = p := by
  unfold ordT
  cases h : (List.range xs.length).find? (fun q => plT xs q == plT xs p) with
  | none =>
    have := List.find?_eq_none.mp h p (List.mem_range.mpr hp)
    simp at this
  | some q =>
    have h1 := List.find?_some h
    have h2 := List.mem_range.mp (List.mem_of_find?_eq_some h)
    have h3 : plT xs q = plT xs p := by simpa using h1
    exact plc_inj (ltT_ok xs) h2 hp h3
theorem ordT_ok {xs : List Int} {k : Nat} (hk : k < xs.length) : ordT xs k < xs.length ∧ plT xs (ordT xs k) = k := by
  obtain ⟨p, hp, e⟩ := plc_onto (ltT_ok xs) hk
  have e' : plT xs p = k := e
  rw [← e', ordT_pl hp]
  exact ⟨hp, rfl⟩
/-- LAST of a row -/
def lastT (xs : List Int) : List Int := mk xs.length (fun k => gx xs ((ordT xs k + (xs.length - 1)) % xs.length))
