/-! merging sorted parts -/
def srtd (lt : Nat → Nat → Bool) (o : Nat → Int) (lo hi : Nat) : Prop := (∀ k : Nat, lo ≤ k → k < hi → (lo : Int) ≤ o k ∧ o k < hi) ∧ ∀ j k : Nat, lo ≤ j → j < k → k < hi → lt (o j).toNat (o k).toNat = true
def mrg (lt : Nat → Nat → Bool) (o m : Nat → Int) (fr a mid b en : Nat) : Prop := (∀ j : Nat, fr ≤ j → j < a + (b - mid) → (fr : Int) ≤ m j ∧ m j < en) ∧ (∀ j k : Nat, fr ≤ j → j < k → k < a + (b - mid) → lt (m j).toNat (m k).toNat = true) ∧ (∀ j i : Nat, fr ≤ j → j < a + (b - mid) → a ≤ i → i < mid → lt (m j).toNat (o i).toNat = true) ∧ ∀ j i : Nat, fr ≤ j → j < a + (b - mid) → b ≤ i → i < en → lt (m j).toNat (o i).toNat = true
section MRG
variable {lt : Nat → Nat → Bool} {o m : Nat → Int} {fr a mid b en n : Nat}
theorem mrg_0 (h : fr ≤ mid) : mrg lt o m fr fr mid mid en := by
  refine ⟨fun j h1 h2 => ?_, fun j k h1 h2 h3 => ?_, fun j i h1 h2 => ?_, fun j i h1 h2 => ?_⟩ <;> omega
theorem mrg_left (hk : ord_ok lt n) (hn : en ≤ n) (h1 : srtd lt o fr mid) (h2 : srtd lt o mid en) (h : mrg lt o m fr a mid b en) (hfa : fr ≤ a) (ha : a < mid) (hmb : mid ≤ b) (hbe : b ≤ en) (hab : b < en → lt (o a).toNat (o b).toNat = true) : mrg lt o (up m (a + (b - mid)) (o a)) fr (a + 1) mid b en := by
  obtain ⟨q1, q2, q3, q4⟩ := h
  have ra := h1.1 a hfa ha
  have hmid : mid ≤ en := by omega
  have hb4 : ∀ i : Nat, b ≤ i → i < en → lt (o a).toNat (o i).toNat = true := by
    intro i hi1 hi2
    by_cases e : i = b
    · subst e; exact hab hi2
    · have rb := h2.1 b hmb (by omega)
      have ri := h2.1 i (by omega) hi2
      exact hk.2.1 _ (o b).toNat _ (by omega) (by omega) (by omega) (hab (by omega)) (h2.2 b i hmb (by omega) hi2)
  refine ⟨fun j hj1 hj2 => ?_, fun j k hj1 hj2 hj3 => ?_, fun j i hj1 hj2 hi1 hi2 => ?_, fun j i hj1 hj2 hi1 hi2 => ?_⟩
  · by_cases e : j = a + (b - mid)
    · rw [e, up_at]; omega
    · rw [up_ne e]; exact q1 j hj1 (by omega)
  · by_cases e : k = a + (b - mid)
    · rw [e, up_at, up_ne (by omega)]
      exact q3 j a hj1 (by omega) (Nat.le_refl _) ha
    · rw [up_ne e, up_ne (by omega)]
      exact q2 j k hj1 hj2 (by omega)
  · by_cases e : j = a + (b - mid)
    · rw [e, up_at]
      exact h1.2 a i hfa (by omega) hi2
    · rw [up_ne e]
      exact q3 j i hj1 (by omega) (by omega) hi2
  · by_cases e : j = a + (b - mid)
    · rw [e, up_at]
      exact hb4 i hi1 hi2
    · rw [up_ne e]
      exact q4 j i hj1 (by omega) hi1 hi2
theorem mrg_right (hk : ord_ok lt n) (hn : en ≤ n) (h1 : srtd lt o fr mid) (h2 : srtd lt o mid en) (h : mrg lt o m fr a mid b en) (hfa : fr ≤ a) (ha : a ≤ mid) (hmb : mid ≤ b) (hbe : b < en) (hab : a < mid → lt (o b).toNat (o a).toNat = true) : mrg lt o (up m (a + (b - mid)) (o b)) fr a mid (b + 1) en := by
  obtain ⟨q1, q2, q3, q4⟩ := h
  have rb := h2.1 b hmb hbe
  have ha4 : ∀ i : Nat, a ≤ i → i < mid → lt (o b).toNat (o i).toNat = true := by
    intro i hi1 hi2
    by_cases e : i = a
    · subst e; exact hab hi2
    · have ra := h1.1 a hfa (by omega)
      have ri := h1.1 i (by omega) hi2
      exact hk.2.1 _ (o a).toNat _ (by omega) (by omega) (by omega) (hab (by omega)) (h1.2 a i hfa (by omega) hi2)
  refine ⟨fun j hj1 hj2 => ?_, fun j k hj1 hj2 hj3 => ?_, fun j i hj1 hj2 hi1 hi2 => ?_, fun j i hj1 hj2 hi1 hi2 => ?_⟩
  · by_cases e : j = a + (b - mid)
    · rw [e, up_at]; omega
    · rw [up_ne e]; exact q1 j hj1 (by omega)
  · by_cases e : k = a + (b - mid)
    · rw [e, up_at, up_ne (by omega)]
      exact q4 j b hj1 (by omega) (Nat.le_refl _) hbe
    · rw [up_ne e, up_ne (by omega)]
      exact q2 j k hj1 hj2 (by omega)
  · by_cases e : j = a + (b - mid)
    · rw [e, up_at]
      exact ha4 i hi1 hi2
    · rw [up_ne e]
      exact q3 j i hj1 (by omega) hi1 hi2
  · by_cases e : j = a + (b - mid)
    · rw [e, up_at]
      exact h2.2 b i hmb (by omega) hi2
    · rw [up_ne e]
      exact q4 j i hj1 (by omega) (by omega) hi2
end MRG
theorem srtd_cg {lt : Nat → Nat → Bool} {o p : Nat → Int} {lo hi : Nat} (h : srtd lt o lo hi) (e : ∀ k : Nat, lo ≤ k → k < hi → p k = o k) : srtd lt p lo hi :=
  ⟨fun k h1 h2 => by rw [e k h1 h2]; exact h.1 k h1 h2, fun j k h1 h2 h3 => by rw [e j h1 (by omega), e k (by omega) h3]; exact h.2 j k h1 h2 h3⟩
theorem mrg_cg {lt : Nat → Nat → Bool} {o m p : Nat → Int} {fr a mid b en : Nat} (h : mrg lt o m fr a mid b en) (e : ∀ k : Nat, fr ≤ k → k < a + (b - mid) → p k = m k) : mrg lt o p fr a mid b en :=
  ⟨fun j h1 h2 => by rw [e j h1 h2]; exact h.1 j h1 h2, fun j k h1 h2 h3 => by rw [e j h1 (by omega), e k (by omega) h3]; exact h.2.1 j k h1 h2 h3, fun j i h1 h2 h3 h4 => by rw [e j h1 h2]; exact h.2.2.1 j i h1 h2 h3 h4, fun j i h1 h2 h3 h4 => by rw [e j h1 h2]; exact h.2.2.2 j i h1 h2 h3 h4⟩
/-- a strictly growing row of n numbers below n counts up -/
theorem grow_id {n : Nat} {f : Nat → Nat} (h1 : ∀ k, k < n → f k < n) (h2 : ∀ j k, j < k → k < n → f j < f k) {k : Nat} (hk : k < n) : f k = k := by
  have lo : ∀ k, k < n → k ≤ f k := by
    intro k
    induction k with
    | zero => intro _; omega
    | succ k ih =>
      intro hk
      have := ih (by omega)
      have := h2 k (k + 1) (by omega) hk
      omega
  have hi : ∀ d k, k + d + 1 = n → f k ≤ k := by
    intro d
    induction d with
    | zero =>
      intro k hk
      have := h1 k (by omega)
      omega
    | succ d ih =>
      intro k hk
      have := ih (k + 1) (by omega)
      have := h2 k (k + 1) (by omega) (by omega)
      omega
  have := lo k hk
  have := hi (n - 1 - k) k (by omega)
  omega
theorem srtd_ord {xs : List Int} {o : Nat → Int} (h : srtd (ltT xs) o 0 xs.length) {k : Nat} (hk : k < xs.length) : o k = ordT xs k := by
  have hr := fun j (hj : j < xs.length) => h.1 j (by omega) hj
  have hp : plT xs (o k).toNat = k := by
    refine grow_id (f := fun k => plT xs (o k).toNat) (n := xs.length) (fun j hj => ?_) (fun i j hij hj => ?_) hk
    · have := hr j hj
      exact plc_lt_n (ltT_ok xs) (by omega)
    · have r1 := hr i (by omega)
      have r2 := hr j hj
      exact plc_mono (ltT_ok xs) (by omega) (by omega) (h.2 i j (by omega) hij hj)
  have r := hr k hk
  have e := ordT_pl (xs := xs) (p := (o k).toNat) (by omega)
  rw [hp] at e
  omega
/-! where two turns part -/
def isPt (xs : List Int) (a b p : Nat) : Prop := p ≤ xs.length ∧ (∀ j : Nat, j < p → cx xs (a + j) = cx xs (b + j)) ∧ (p < xs.length → cx xs (a + p) ≠ cx xs (b + p))
theorem isPt_cmp {xs : List Int} {a b p : Nat} (h : isPt xs a b p) : cmpT xs a b = if p = xs.length then 0 else if cx xs (a + p) < cx xs (b + p) then -1 else 1 := by
  obtain ⟨h1, h2, h3⟩ := h
  have z : cmpL (cx xs) p a b = 0 := (cmpL_zero _ _ _ _).mpr h2
  by_cases e : p = xs.length
  · rw [if_pos e]
    subst e
    exact z
  · rw [if_neg e]
    have hne := h3 (by omega)
    obtain ⟨r, hr⟩ : ∃ r, xs.length = p + (r + 1) := ⟨xs.length - p - 1, by omega⟩
    unfold cmpT
    have hs := cmpL_add (cx xs) (r + 1) p a b
    rw [z, if_pos rfl] at hs
    rw [hr, hs, cmpL]
    by_cases hl : cx xs (a + p) < cx xs (b + p)
    · rw [if_pos hl, if_pos hl]
    · rw [if_neg hl, if_neg hl, if_pos (by omega)]
