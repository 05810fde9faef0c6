/-! turns of a row: comparing, ranks, places (numbers alone) -/
def cmpL (X : Nat → Int) : Nat → Nat → Nat → Int
  | 0, _, _ => 0
  | n + 1, p, q => if X p < X q then -1 else if X q < X p then 1 else cmpL X n (p + 1) (q + 1)
theorem cmpL_rng (X : Nat → Int) : ∀ (n p q : Nat), cmpL X n p q = -1 ∨ cmpL X n p q = 0 ∨ cmpL X n p q = 1
  | 0, _, _ => Or.inr (Or.inl rfl)
  | n + 1, p, q => by
    rw [cmpL]
    split
    · exact Or.inl rfl
    · split
      · exact Or.inr (Or.inr rfl)
      · exact cmpL_rng X n (p + 1) (q + 1)
theorem cmpL_add (X : Nat → Int) (b : Nat) : ∀ (a p q : Nat), cmpL X (a + b) p q = if cmpL X a p q = 0 then cmpL X b (p + a) (q + a) else cmpL X a p q
  | 0, p, q => by
    rw [Nat.zero_add]
    rfl
  | a + 1, p, q => by
    rw [show a + 1 + b = (a + b) + 1 by omega, cmpL, cmpL]
    split
    · rfl
    · split
      · rfl
      · rw [cmpL_add X b a (p + 1) (q + 1), show p + 1 + a = p + (a + 1) by omega, show q + 1 + a = q + (a + 1) by omega]
theorem cmpL_anti (X : Nat → Int) : ∀ (n p q : Nat), cmpL X n q p = - cmpL X n p q
  | 0, _, _ => rfl
  | n + 1, p, q => by
    rw [cmpL, cmpL, cmpL_anti X n (p + 1) (q + 1)]
    by_cases h1 : X p < X q
    · rw [if_neg (by omega), if_pos h1, if_pos h1]
      rfl
    · by_cases h2 : X q < X p
      · rw [if_pos h2, if_neg h1, if_pos h2]
      · rw [if_neg h2, if_neg h1, if_neg h1, if_neg h2]
theorem cmpL_zero (X : Nat → Int) : ∀ (n p q : Nat), cmpL X n p q = 0 ↔ ∀ j : Nat, j < n → X (p + j) = X (q + j)
  | 0, p, q => ⟨fun _ j hj => by omega, fun _ => rfl⟩
  | n + 1, p, q => by
    rw [cmpL]
    constructor
    · intro h j hj
      split at h
      · cases h
      · split at h
        · cases h
        · cases j with
          | zero => show X p = X q; omega
          | succ j =>
            have := (cmpL_zero X n (p + 1) (q + 1)).mp h j (by omega)
            rw [show p + (j + 1) = p + 1 + j by omega, show q + (j + 1) = q + 1 + j by omega]
            exact this
    · intro h
      have h0 : X p = X q := h 0 (by omega)
      rw [if_neg (by omega), if_neg (by omega)]
      apply (cmpL_zero X n (p + 1) (q + 1)).mpr
      intro j hj
      rw [show p + 1 + j = p + (j + 1) by omega, show q + 1 + j = q + (j + 1) by omega]
      exact h (j + 1) (by omega)
theorem cmpL_tr (X : Nat → Int) : ∀ (n p q r : Nat), cmpL X n p q ≤ 0 → cmpL X n q r ≤ 0 → cmpL X n p r ≤ 0 ∧ (cmpL X n p r = 0 → cmpL X n p q = 0 ∧ cmpL X n q r = 0)
  | 0, _, _, _, _, _ => ⟨Int.le_refl 0, fun _ => ⟨rfl, rfl⟩⟩
  | n + 1, p, q, r, h1, h2 => by
    rw [cmpL] at h1 h2 ⊢
    rw [show cmpL X (n + 1) p q = if X p < X q then -1 else if X q < X p then 1 else cmpL X n (p + 1) (q + 1) from rfl, show cmpL X (n + 1) q r = if X q < X r then -1 else if X r < X q then 1 else cmpL X n (q + 1) (r + 1) from rfl]
    have ih := cmpL_tr X n (p + 1) (q + 1) (r + 1)
    by_cases a1 : X p < X q
    · rw [if_pos a1] at h1
      by_cases b1 : X q < X r
      · rw [if_pos (show X p < X r by omega)]
        exact ⟨by omega, fun h => by omega⟩
      · rw [if_neg b1] at h2
        by_cases b2 : X r < X q
        · rw [if_pos b2] at h2; omega
        · rw [if_pos (show X p < X r by omega)]
          exact ⟨by omega, fun h => by omega⟩
    · rw [if_neg a1] at h1 ⊢
      by_cases a2 : X q < X p
      · rw [if_pos a2] at h1; omega
      · rw [if_neg a2] at h1 ⊢
        by_cases b1 : X q < X r
        · rw [if_pos (show X p < X r by omega)]
          exact ⟨by omega, fun h => by omega⟩
        · rw [if_neg b1] at h2 ⊢
          by_cases b2 : X r < X q
          · rw [if_pos b2] at h2; omega
          · rw [if_neg b2] at h2 ⊢
            rw [if_neg (show ¬ X p < X r by omega), if_neg (show ¬ X r < X p by omega)]
            exact ih h1 h2
theorem cmpL_per {X : Nat → Int} {m : Nat} (hX : ∀ i, X (i + m) = X i) : ∀ (n p q : Nat), cmpL X n (p + m) q = cmpL X n p q
  | 0, _, _ => rfl
  | n + 1, p, q => by
    rw [cmpL, cmpL, hX, show p + m + 1 = p + 1 + m by omega, cmpL_per hX n (p + 1) (q + 1)]
theorem per_mul {X : Nat → Int} {m : Nat} (hX : ∀ i, X (i + m) = X i) (i : Nat) : ∀ k, X (i + m * k) = X i
  | 0 => rfl
  | k + 1 => by rw [Nat.mul_succ, ← Nat.add_assoc, hX, per_mul hX i k]
theorem per_mod {X : Nat → Int} {m : Nat} (hX : ∀ i, X (i + m) = X i) (i : Nat) : X (i % m) = X i := by
  have := per_mul hX (i % m) (i / m)
  rw [Nat.mod_add_div] at this
  exact this.symm
theorem cmpL_all {X : Nat → Int} {m : Nat} (hX : ∀ i, X (i + m) = X i) (hm : 0 < m) {p q : Nat} (h : cmpL X m p q = 0) (L : Nat) : cmpL X L p q = 0 := by
  rw [cmpL_zero] at h ⊢
  intro j _
  have h1 := h (j % m) (Nat.mod_lt _ hm)
  have h2 : ∀ a : Nat, X (a + j % m) = X (a + j) := by
    intro a
    have := per_mul hX (a + j % m) (j / m)
    rw [Nat.add_assoc, Nat.mod_add_div] at this
    exact this.symm
  rw [h2, h2] at h1
  exact h1
theorem cmpL_big {X : Nat → Int} {m : Nat} (hX : ∀ i, X (i + m) = X i) (hm : 0 < m) {L : Nat} (hL : m ≤ L) (p q : Nat) : cmpL X L p q = cmpL X m p q := by
  obtain ⟨b, rfl⟩ : ∃ b, L = m + b := ⟨L - m, by omega⟩
  rw [cmpL_add]
  split
  · rename_i h
    rw [cmpL_per hX, ← Int.neg_neg (cmpL X b p (q + m)), ← cmpL_anti, cmpL_per hX, ← cmpL_anti, h, cmpL_all hX hm h]
  · rfl
/-- ranks tell the first L apart, and in order -/
def RKo (X : Nat → Int) (n L : Nat) (rk : Nat → Int) : Prop := ∀ p q : Nat, p < n → q < n → (rk p < rk q ↔ cmpL X L p q < 0)
theorem RKo.eq {X : Nat → Int} {n L : Nat} {rk : Nat → Int} (h : RKo X n L rk) {p q : Nat} (hp : p < n) (hq : q < n) : rk p = rk q ↔ cmpL X L p q = 0 := by
  have h1 := h p q hp hq
  have h2 := h q p hq hp
  rw [cmpL_anti] at h2
  have := cmpL_rng X L p q
  omega
def RKd (n rc : Nat) (rk : Nat → Int) : Prop := (∀ p : Nat, p < n → 0 ≤ rk p ∧ rk p < rc) ∧ ∀ v : Nat, v < rc → ∃ p, p < n ∧ rk p = v
/-- the order by ranks, then by their places lp in the line -/
def lt2 (rk : Nat → Int) (lp : Nat → Nat) (q p : Nat) : Bool := decide (rk q < rk p) || (decide (rk q = rk p) && decide (lp q < lp p))
theorem lt2_iff {rk : Nat → Int} {lp : Nat → Nat} {q p : Nat} : lt2 rk lp q p = true ↔ rk q < rk p ∨ (rk q = rk p ∧ lp q < lp p) := by simp [lt2]
def injN (n : Nat) (lp : Nat → Nat) : Prop := ∀ p q : Nat, p < n → q < n → lp p = lp q → p = q
theorem lt2_ok {rk : Nat → Int} {lp : Nat → Nat} {n : Nat} (hi : injN n lp) : ord_ok (lt2 rk lp) n := by
  refine ⟨fun p _ => ?_, fun p q r _ _ _ h1 h2 => ?_, fun p q hp hq hne => ?_⟩
  · cases h : lt2 rk lp p p with
    | false => rfl
    | true => rw [lt2_iff] at h; omega
  · rw [lt2_iff] at h1 h2 ⊢
    omega
  · rw [lt2_iff, lt2_iff]
    have : lp p ≠ lp q := fun e => hne (hi p q hp hq e)
    omega
theorem cnt_one {P : Nat → Bool} {a : Nat} : ∀ {n : Nat}, (∀ i, i < n → P i = true → i = a) → cnt P n = if a < n ∧ P a = true then 1 else 0
  | 0, _ => by simp [cnt]
  | n + 1, h => by
    have ih := cnt_one (n := n) (fun i hi => h i (by omega))
    simp only [cnt]
    rw [ih]
    by_cases hp : P n = true
    · have e := h n (by omega) hp
      subst e
      rw [if_neg (by omega), if_pos hp, if_pos ⟨by omega, hp⟩]
    · rw [if_neg hp]
      by_cases ha : a < n ∧ P a = true
      · rw [if_pos ha, if_pos ⟨by omega, ha.2⟩]
      · rw [if_neg ha, if_neg (fun q => ?_)]
        by_cases e : a = n
        · subst e; exact hp q.2
        · exact ha ⟨by omega, q.2⟩
/-- how many of rank c stand ahead of k in the line -/
def eqB (n : Nat) (rk : Nat → Int) (lp : Nat → Nat) (k : Nat) (c : Int) : Nat := cnt (fun q => decide (rk q = c) && decide (lp q < k)) n
def ltC (n : Nat) (rk : Nat → Int) (c : Int) : Nat := cnt (fun q => decide (rk q < c)) n
theorem plc_lt2 {n : Nat} {rk : Nat → Int} {lp : Nat → Nat} {p : Nat} : plc (lt2 rk lp) n p = ltC n rk (rk p) + eqB n rk lp (lp p) (rk p) := by
  unfold plc ltC eqB
  rw [← cnt_or]
  · rfl
  · intro i _ h1
    simp at h1
    simp
    omega
theorem eqB_0 (n : Nat) (rk : Nat → Int) (lp : Nat → Nat) (c : Int) : eqB n rk lp 0 c = 0 := cnt_false (fun i _ => by simp)
theorem eqB_succ {n : Nat} {rk : Nat → Int} {lp : Nat → Nat} (hi : injN n lp) {k t : Nat} (ht : t < n) (hk : lp t = k) (c : Int) : eqB n rk lp (k + 1) c = eqB n rk lp k c + (if rk t = c then 1 else 0) := by
  have h1 : eqB n rk lp (k + 1) c = cnt (fun q => (decide (rk q = c) && decide (lp q < k)) || (decide (rk q = c) && decide (lp q = k))) n := by
    apply cnt_congr
    intro q _
    by_cases a : rk q = c
    · by_cases b : lp q < k
      · have : lp q < k + 1 := by omega
        simp [a, b, this]
      · by_cases d : lp q = k
        · have : lp q < k + 1 := by omega
          simp [a, d]
        · have : ¬ lp q < k + 1 := by omega
          simp [a, b, d, this]
    · simp [a]
  rw [h1, cnt_or]
  · congr 1
    rw [cnt_one (a := t) (fun q hq hP => ?_)]
    · by_cases e : rk t = c
      · rw [if_pos e, if_pos ⟨ht, by simp [e, hk]⟩]
      · rw [if_neg e, if_neg (fun q => e (by simpa [hk] using q.2))]
    · simp at hP
      exact hi q t hq ht (by omega)
  · intro q _ hP
    simp at hP
    simp
    omega
/-- changes of a row of pairs up to k -/
def chg (P : Nat → Int × Int) : Nat → Int
  | 0 => 0
  | k + 1 => chg P k + (if P (k + 1) ≠ P k then 1 else 0)
theorem chg_mono (P : Nat → Int × Int) (k : Nat) : ∀ j, chg P k ≤ chg P (k + j)
  | 0 => Int.le_refl _
  | j + 1 => by
    have := chg_mono P k j
    show _ ≤ chg P (k + j) + _
    split <;> omega
theorem chg_nn (P : Nat → Int × Int) (k : Nat) : 0 ≤ chg P k := by
  have := chg_mono P 0 k
  rw [Nat.zero_add] at this
  exact this
theorem chg_le (P : Nat → Int × Int) : ∀ k, chg P k ≤ k
  | 0 => Int.le_refl _
  | k + 1 => by
    have := chg_le P k
    show chg P k + _ ≤ _
    split <;> omega
theorem chg_const (P : Nat → Int × Int) {k : Nat} : ∀ {j}, (∀ i, i < j → P (k + i + 1) = P (k + i)) → chg P (k + j) = chg P k
  | 0, _ => rfl
  | j + 1, h => by
    show chg P (k + j) + (if P (k + j + 1) ≠ P (k + j) then 1 else 0) = _
    rw [if_neg (by rw [h j (by omega)]; simp), chg_const P (fun i hi => h i (by omega))]
    omega
theorem chg_lt (P : Nat → Int × Int) {k : Nat} : ∀ {j}, P (k + j) ≠ P k → chg P k < chg P (k + j)
  | 0, h => absurd rfl h
  | j + 1, h => by
    have hm := chg_mono P k j
    show _ < chg P (k + j) + (if P (k + j + 1) ≠ P (k + j) then 1 else 0)
    by_cases e : P (k + j + 1) = P (k + j)
    · rw [if_neg (by simp [e])]
      have := chg_lt P (k := k) (j := j) (by rw [← e]; exact h)
      omega
    · rw [if_pos e]
      omega
