/-! counting below a bound -/
def cnt (P : Nat → Bool) : Nat → Nat
  | 0 => 0
  | n + 1 => cnt P n + (if P n = true then 1 else 0)
theorem cnt_le (P : Nat → Bool) : ∀ n, cnt P n ≤ n
  | 0 => Nat.le_refl _
  | n + 1 => by
    have := cnt_le P n
    simp only [cnt]
    split <;> omega
theorem cnt_congr {P Q : Nat → Bool} : ∀ {n : Nat}, (∀ i, i < n → P i = Q i) → cnt P n = cnt Q n
  | 0, _ => rfl
  | n + 1, h => by
    simp only [cnt]
    rw [cnt_congr (fun i hi => h i (by omega)), h n (by omega)]
theorem cnt_mono {P Q : Nat → Bool} : ∀ {n : Nat}, (∀ i, i < n → P i = true → Q i = true) → cnt P n ≤ cnt Q n
  | 0, _ => Nat.le_refl _
  | n + 1, h => by
    have h1 := cnt_mono (n := n) (fun i hi => h i (by omega))
    have h2 := h n (by omega)
    simp only [cnt]
    by_cases hp : P n = true
    · rw [if_pos hp, if_pos (h2 hp)]; omega
    · rw [if_neg hp]; split <;> omega
theorem cnt_lt {P Q : Nat → Bool} : ∀ {n : Nat}, (∀ i, i < n → P i = true → Q i = true) → ∀ j, j < n → P j = false → Q j = true → cnt P n < cnt Q n
  | 0, _, j, hj, _, _ => by omega
  | n + 1, h, j, hj, hp, hq => by
    have h2 := h n (by omega)
    simp only [cnt]
    by_cases e : j = n
    · subst e
      have h1 := cnt_mono (n := j) (fun i hi => h i (by omega))
      rw [if_neg (by rw [hp]; decide), if_pos hq]; omega
    · have h1 := cnt_lt (n := n) (fun i hi => h i (by omega)) j (by omega) hp hq
      by_cases hpn : P n = true
      · rw [if_pos hpn, if_pos (h2 hpn)]; omega
      · rw [if_neg hpn]; split <;> omega
theorem cnt_true : ∀ n, cnt (fun _ => true) n = n
  | 0 => rfl
  | n + 1 => by simp only [cnt]; rw [cnt_true n]; simp
theorem cnt_false {P : Nat → Bool} : ∀ {n : Nat}, (∀ i, i < n → P i = false) → cnt P n = 0
  | 0, _ => rfl
  | n + 1, h => by
    simp only [cnt]
    rw [cnt_false (fun i hi => h i (by omega)), if_neg (by rw [h n (by omega)]; decide)]
theorem cnt_lt_n {P : Nat → Bool} {n j : Nat} (hj : j < n) (hp : P j = false) : cnt P n < n := by
  have := cnt_lt (P := P) (Q := fun _ => true) (n := n) (fun _ _ _ => rfl) j hj hp rfl
  rw [cnt_true] at this
  exact this
theorem cnt_or {P Q : Nat → Bool} : ∀ {n : Nat}, (∀ i, i < n → P i = true → Q i = false) → cnt (fun i => P i || Q i) n = cnt P n + cnt Q n
  | 0, _ => rfl
  | n + 1, h => by
    simp only [cnt]
    rw [cnt_or (fun i hi => h i (by omega))]
    have := h n (by omega)
    by_cases hp : P n = true
    · have hq := this hp
      simp [hp, hq]; omega
    · by_cases hq : Q n = true
      · simp [hp, hq]; omega
      · simp [hp, hq]
theorem cnt_split (P : Nat → Bool) (m : Nat) : ∀ n, m ≤ n → cnt P n = cnt P m + cnt (fun i => decide (m ≤ i) && P i) n
  | 0, h => by
    have : m = 0 := by omega
    subst this; rfl
  | n + 1, h => by
    by_cases e : m = n + 1
    · subst e
      have : cnt (fun i => decide (n + 1 ≤ i) && P i) (n + 1) = 0 := cnt_false (fun i hi => by
        have : ¬ n + 1 ≤ i := by omega
        simp [this])
      omega
    · have h1 := cnt_split P m n (by omega)
      simp only [cnt]
      have : decide (m ≤ n) = true := by simp; omega
      simp only [h1, this, Bool.true_and]
      omega
/-! pigeons -/
theorem pig : ∀ (n : Nat) (f : Nat → Nat), (∀ i, i < n → f i < n) → (∀ i j, i < n → j < n → f i = f j → i = j) → ∀ k, k < n → ∃ i, i < n ∧ f i = k
  | 0, _, _, _, k, hk => by omega
  | n + 1, f, hf, inj, k, hk => by
    by_cases hex : ∃ i, i < n + 1 ∧ f i = k
    · exact hex
    exfalso
    have hne : ∀ i, i < n + 1 → f i ≠ k := fun i hi e => hex ⟨i, hi, e⟩
    -- squeeze the values above k down by one
    let g : Nat → Nat := fun i => if f i < k then f i else f i - 1
    have hg : ∀ i, i < n → g i < n := by
      intro i hi
      have h1 := hf i (by omega)
      have h2 := hne i (by omega)
      show (if f i < k then f i else f i - 1) < n
      split <;> omega
    have ginj : ∀ i j, i < n + 1 → j < n + 1 → g i = g j → i = j := by
      intro i j hi hj e
      have h1 := hne i hi
      have h2 := hne j hj
      have e' : (if f i < k then f i else f i - 1) = (if f j < k then f j else f j - 1) := e
      apply inj i j hi hj
      split at e' <;> split at e' <;> omega
    have hgn : g n < n ∨ n = 0 := by
      have h1 := hf n (by omega)
      have h2 := hne n (by omega)
      by_cases hn : n = 0
      · exact Or.inr hn
      · left
        show (if f n < k then f n else f n - 1) < n
        split <;> omega
    rcases hgn with hgn | hn
    · obtain ⟨i, hi, e⟩ := pig n g hg (fun i j hi hj => ginj i j (by omega) (by omega)) (g n) hgn
      have := ginj i n (by omega) (by omega) e
      omega
    · subst hn
      have h1 := hf 0 (by omega)
      have h2 := hne 0 (by omega)
      omega
/-! places in a strict order of the numbers below n -/
def ord_ok (lt : Nat → Nat → Bool) (n : Nat) : Prop := (∀ p, p < n → lt p p = false) ∧ (∀ p q r, p < n → q < n → r < n → lt p q = true → lt q r = true → lt p r = true) ∧ ∀ p q, p < n → q < n → p ≠ q → lt p q = true ∨ lt q p = true
def plc (lt : Nat → Nat → Bool) (n p : Nat) : Nat := cnt (fun q => lt q p) n
theorem plc_lt_n {lt : Nat → Nat → Bool} {n p : Nat} (h : ord_ok lt n) (hp : p < n) : plc lt n p < n := cnt_lt_n hp (h.1 p hp)
theorem plc_mono {lt : Nat → Nat → Bool} {n p q : Nat} (h : ord_ok lt n) (hp : p < n) (hq : q < n) (hl : lt p q = true) : plc lt n p < plc lt n q :=
  cnt_lt (fun i hi hip => h.2.1 i p q hi hp hq hip hl) p hp (h.1 p hp) hl
theorem plc_iff {lt : Nat → Nat → Bool} {n p q : Nat} (h : ord_ok lt n) (hp : p < n) (hq : q < n) : plc lt n p < plc lt n q ↔ lt p q = true := by
  constructor
  · intro hl
    by_cases e : p = q
    · subst e; omega
    · rcases h.2.2 p q hp hq e with h1 | h1
      · exact h1
      · have := plc_mono h hq hp h1; omega
  · exact plc_mono h hp hq
theorem plc_inj {lt : Nat → Nat → Bool} {n p q : Nat} (h : ord_ok lt n) (hp : p < n) (hq : q < n) (e : plc lt n p = plc lt n q) : p = q := by
  by_cases hpq : p = q
  · exact hpq
  · rcases h.2.2 p q hp hq hpq with h1 | h1
    · have := plc_mono h hp hq h1; omega
    · have := plc_mono h hq hp h1; omega
theorem plc_onto {lt : Nat → Nat → Bool} {n k : Nat} (h : ord_ok lt n) (hk : k < n) : ∃ p, p < n ∧ plc lt n p = k :=
  pig n (plc lt n) (fun _ hi => plc_lt_n h hi) (fun _ _ hi hj e => plc_inj h hi hj e) k hk
