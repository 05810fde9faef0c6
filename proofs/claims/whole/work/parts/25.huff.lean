/-! LENGTHS by joining (numbers alone) -/
def fsum (f : Nat → Int) : Nat → Int
  | 0 => 0
  | n + 1 => fsum f n + f n
theorem fsum_cg {f g : Nat → Int} : ∀ {n : Nat}, (∀ i, i < n → f i = g i) → fsum f n = fsum g n
  | 0, _ => rfl
  | n + 1, h => by rw [fsum, fsum, fsum_cg (fun i hi => h i (by omega)), h n (by omega)]
theorem fsum_nn {f : Nat → Int} : ∀ {n : Nat}, (∀ i, i < n → 0 ≤ f i) → 0 ≤ fsum f n
  | 0, _ => Int.le_refl _
  | n + 1, h => by
    have := fsum_nn (n := n) (fun i hi => h i (by omega))
    have := h n (by omega)
    rw [fsum]; omega
theorem fsum_up (f : Nat → Int) (k : Nat) (x : Int) : ∀ n : Nat, fsum (up f k x) n = if k < n then fsum f n - f k + x else fsum f n
  | 0 => by simp [fsum]
  | n + 1 => by
    rw [fsum, fsum, fsum_up f k x n]
    by_cases e : k = n
    · subst e
      rw [up_at, if_neg (by omega), if_pos (by omega)]
      omega
    · rw [up_ne (Ne.symm e)]
      by_cases h : k < n
      · rw [if_pos h, if_pos (by omega)]; omega
      · rw [if_neg h, if_neg (by omega)]
theorem fsum_ge {f : Nat → Int} {n : Nat} (h : ∀ i, i < n → 0 ≤ f i) {a : Nat} (ha : a < n) : f a ≤ fsum f n := by
  have h1 := fsum_up f a 0 n
  rw [if_pos ha] at h1
  have h2 : 0 ≤ fsum (up f a 0) n := fsum_nn (fun i hi => by
    by_cases e : i = a
    · rw [e, up_at]; exact Int.le_refl _
    · rw [up_ne e]; exact h i hi)
  omega
theorem fsum_ge2 {f : Nat → Int} {n : Nat} (h : ∀ i, i < n → 0 ≤ f i) {a b : Nat} (ha : a < n) (hb : b < n) (hab : a ≠ b) : f a + f b ≤ fsum f n := by
  have h1 := fsum_up f a 0 n
  rw [if_pos ha] at h1
  have h2 := fsum_ge (f := up f a 0) (n := n) (fun i hi => by
    by_cases e : i = a
    · rw [e, up_at]; exact Int.le_refl _
    · rw [up_ne e]; exact h i hi) hb
  rw [up_ne (Ne.symm hab)] at h2
  omega
theorem fsum_pos {f : Nat → Int} : ∀ {n : Nat}, 0 < fsum f n → ∃ k, k < n ∧ 0 < f k
  | 0, h => by simp [fsum] at h
  | n + 1, h => by
    rw [fsum] at h
    by_cases e : 0 < f n
    · exact ⟨n, by omega, e⟩
    · obtain ⟨k, hk, hf⟩ := fsum_pos (f := f) (n := n) (by omega)
      exact ⟨k, by omega, hf⟩
/-- weights, least symbols, what each was joined into (-1: nothing yet) -/
abbrev HSt : Type := (Nat → Int) × (Nat → Int) × (Nat → Int)
def lgt (st : HSt) (nt : Int) : Nat → Int
  | 0 => -1
  | k + 1 => if 0 ≤ st.2.2 k ∨ (k : Int) = nt then lgt st nt k else if lgt st nt k < 0 ∨ st.1 k < st.1 (lgt st nt k).toNat ∨ (st.1 k = st.1 (lgt st nt k).toNat ∧ st.2.1 k < st.2.1 (lgt st nt k).toNat) then k else lgt st nt k
def stp (st : HSt) (all : Nat) : HSt :=
  (up st.1 all (st.1 (lgt st (-1) all).toNat + st.1 (lgt st (lgt st (-1) all) all).toNat),
   up st.2.1 all (if st.2.1 (lgt st (-1) all).toNat < st.2.1 (lgt st (lgt st (-1) all) all).toNat then st.2.1 (lgt st (-1) all).toNat else st.2.1 (lgt st (lgt st (-1) all) all).toNat),
   up (up (up st.2.2 all (-1)) (lgt st (-1) all).toNat all) (lgt st (lgt st (-1) all) all).toNat all)
def jn (wt : Nat → Int) (n : Nat) : Nat → HSt
  | 0 => (wt, fun k => k, fun _ => -1)
  | j + 1 => stp (jn wt n j) (n + j)
def aw (st : HSt) (k : Nat) : Int := if st.2.2 k < 0 then st.1 k else 0
def ai (st : HSt) (k : Nat) : Int := if st.2.2 k < 0 then 1 else 0
def keyH (st : HSt) (k : Nat) : Int := st.1 k * 512 + st.2.1 k
def HI (n : Nat) (T : Int) (st : HSt) (all : Nat) : Prop :=
  (∀ k : Nat, k < all → st.2.2 k = -1 ∨ ((k : Int) < st.2.2 k ∧ st.2.2 k < all)) ∧ (∀ k : Nat, k < all → 0 ≤ st.2.1 k ∧ st.2.1 k < n) ∧ (∀ k : Nat, k < all → 1 ≤ st.1 k) ∧
  (∀ i j : Nat, i < all → j < all → st.2.2 i < 0 → st.2.2 j < 0 → st.2.1 i = st.2.1 j → i = j) ∧ fsum (ai st) all + all = 2 * n ∧ fsum (aw st) all = T
theorem lgt_ok (st : HSt) (nt : Int) : ∀ all : Nat, (lgt st nt all = -1 ∧ ∀ k : Nat, k < all → st.2.2 k < 0 → (k : Int) = nt) ∨
    ∃ k : Nat, k < all ∧ lgt st nt all = k ∧ st.2.2 k < 0 ∧ (k : Int) ≠ nt ∧ ∀ j : Nat, j < all → st.2.2 j < 0 → (j : Int) ≠ nt → st.1 k < st.1 j ∨ (st.1 k = st.1 j ∧ st.2.1 k ≤ st.2.1 j)
  | 0 => Or.inl ⟨rfl, fun k hk => by omega⟩
  | all + 1 => by
    rw [lgt]
    by_cases h1 : 0 ≤ st.2.2 all ∨ (all : Int) = nt
    · rw [if_pos h1]
      rcases lgt_ok st nt all with ⟨e, hn⟩ | ⟨k, hk, e, hu, hne, hm⟩
      · refine Or.inl ⟨e, fun k hk hu => ?_⟩
        by_cases ek : k = all
        · subst ek; omega
        · exact hn k (by omega) hu
      · refine Or.inr ⟨k, by omega, e, hu, hne, fun j hj huj hnj => ?_⟩
        by_cases ej : j = all
        · subst ej; omega
        · exact hm j (by omega) huj hnj
    · rw [if_neg h1]
      have h1a : st.2.2 all < 0 := by omega
      have h1b : (all : Int) ≠ nt := fun w => h1 (Or.inr w)
      rcases lgt_ok st nt all with ⟨e, hn⟩ | ⟨k, hk, e, hu, hne, hm⟩
      · rw [if_pos (Or.inl (by omega))]
        refine Or.inr ⟨all, by omega, rfl, h1a, h1b, fun j hj huj hnj => ?_⟩
        by_cases ej : j = all
        · subst ej; omega
        · exact absurd (hn j (by omega) huj) hnj
      · rw [e, Int.toNat_natCast]
        by_cases h2 : (k : Int) < 0 ∨ st.1 all < st.1 k ∨ (st.1 all = st.1 k ∧ st.2.1 all < st.2.1 k)
        · rw [if_pos h2]
          refine Or.inr ⟨all, by omega, rfl, h1a, h1b, fun j hj huj hnj => ?_⟩
          by_cases ej : j = all
          · subst ej; omega
          · have := hm j (by omega) huj hnj
            omega
        · rw [if_neg h2]
          refine Or.inr ⟨k, by omega, rfl, hu, hne, fun j hj huj hnj => ?_⟩
          by_cases ej : j = all
          · subst ej; omega
          · exact hm j (by omega) huj hnj
/-- the two lightest -/
theorem lgt_two {n : Nat} {T : Int} {st : HSt} {all : Nat} (h : HI n T st all) (h2 : 2 ≤ fsum (ai st) all) :
    ∃ a b : Nat, a < all ∧ b < all ∧ a ≠ b ∧ lgt st (-1) all = a ∧ lgt st (lgt st (-1) all) all = b ∧ st.2.2 a < 0 ∧ st.2.2 b < 0 ∧
      (∀ j : Nat, j < all → st.2.2 j < 0 → st.1 a < st.1 j ∨ (st.1 a = st.1 j ∧ st.2.1 a ≤ st.2.1 j)) ∧ (∀ j : Nat, j < all → st.2.2 j < 0 → j ≠ a → st.1 b < st.1 j ∨ (st.1 b = st.1 j ∧ st.2.1 b ≤ st.2.1 j)) := by
  obtain ⟨hU, hL, hW, hd, hc, hT⟩ := h
  have hai : ∀ k, 0 < ai st k → st.2.2 k < 0 := by
    intro k hk
    unfold ai at hk
    split at hk
    · assumption
    · omega
  rcases lgt_ok st (-1) all with ⟨e, hn⟩ | ⟨a, ha, ea, hua, -, hma⟩
  · exfalso
    obtain ⟨k, hk, hf⟩ := fsum_pos (f := ai st) (n := all) (by omega)
    have := hn k hk (hai k hf)
    omega
  · rw [ea]
    rcases lgt_ok st (a : Int) all with ⟨e, hn⟩ | ⟨b, hb, eb, hub, hnb, hmb⟩
    · exfalso
      have h3 := fsum_up (ai st) a 0 all
      rw [if_pos ha] at h3
      have h4 : ai st a = 1 := by unfold ai; rw [if_pos hua]
      obtain ⟨k, hk, hf⟩ := fsum_pos (f := up (ai st) a 0) (n := all) (by omega)
      have hka : k ≠ a := fun w => by rw [w, up_at] at hf; omega
      rw [up_ne hka] at hf
      have := hn k hk (hai k hf)
      omega
    · exact ⟨a, b, ha, hb, by omega, rfl, eb, hua, hub, fun j hj hu => hma j hj hu (by omega), fun j hj hu hne => hmb j hj hu (by omega)⟩
theorem stp_of {st : HSt} {all a b : Nat} (ea : lgt st (-1) all = a) (eb : lgt st (lgt st (-1) all) all = b) : stp st all = (up st.1 all (st.1 a + st.1 b), up st.2.1 all (if st.2.1 a < st.2.1 b then st.2.1 a else st.2.1 b), up (up (up st.2.2 all (-1)) a all) b all) := by
  unfold stp
  rw [eb, ea, Int.toNat_natCast, Int.toNat_natCast]
theorem HI_step {n : Nat} {T : Int} {st : HSt} {all : Nat} (h : HI n T st all) (h2 : 2 ≤ fsum (ai st) all) : HI n T (stp st all) (all + 1) ∧ fsum (ai (stp st all)) (all + 1) = fsum (ai st) all - 1 := by
  obtain ⟨a, b, ha, hb, hab, ea, eb, hua, hub, hma, hmb⟩ := lgt_two h h2
  obtain ⟨hU, hL, hW, hd, hc, hT⟩ := h
  rw [stp_of ea eb]
  have uU : ∀ k : Nat, k < all → (up (up (up st.2.2 all (-1)) a all) b all) k = if k = a ∨ k = b then (all : Int) else st.2.2 k := by
    intro k hk
    by_cases e1 : k = b
    · rw [e1, up_at, if_pos (Or.inr rfl)]
    · rw [up_ne e1]
      by_cases e2 : k = a
      · rw [e2, up_at, if_pos (Or.inl rfl)]
      · rw [up_ne e2, up_ne (by omega), if_neg (by omega)]
  have uA : (up (up (up st.2.2 all (-1)) a all) b all) all = -1 := by rw [up_ne (by omega), up_ne (by omega), up_at]
  have cI : fsum (ai (up st.1 all (st.1 a + st.1 b), up st.2.1 all (if st.2.1 a < st.2.1 b then st.2.1 a else st.2.1 b), up (up (up st.2.2 all (-1)) a all) b all)) (all + 1) = fsum (ai st) all - 1 := by
    rw [fsum]
    have e1 : ai (up st.1 all (st.1 a + st.1 b), up st.2.1 all (if st.2.1 a < st.2.1 b then st.2.1 a else st.2.1 b), up (up (up st.2.2 all (-1)) a all) b all) all = 1 := by
      unfold ai
      rw [if_pos (by show (up (up (up st.2.2 all (-1)) a all) b all) all < 0; rw [uA]; omega)]
    have e2 : fsum (ai (up st.1 all (st.1 a + st.1 b), up st.2.1 all (if st.2.1 a < st.2.1 b then st.2.1 a else st.2.1 b), up (up (up st.2.2 all (-1)) a all) b all)) all = fsum (up (up (ai st) a 0) b 0) all := by
      apply fsum_cg
      intro k hk
      unfold ai
      show (if (up (up (up st.2.2 all (-1)) a all) b all) k < 0 then (1 : Int) else 0) = _
      rw [uU k hk]
      by_cases e1 : k = b
      · rw [e1, up_at, if_pos (Or.inr rfl), if_neg (by omega)]
      · rw [up_ne e1]
        by_cases e2 : k = a
        · rw [e2, up_at, if_pos (Or.inl rfl), if_neg (by omega)]
        · rw [up_ne e2, if_neg (show ¬ (k = a ∨ k = b) by omega)]
    have f1 : ai st a = 1 := by unfold ai; rw [if_pos hua]
    have f2 : ai st b = 1 := by unfold ai; rw [if_pos hub]
    rw [e1, e2, fsum_up, if_pos hb, fsum_up, if_pos ha, up_ne (Ne.symm hab), f1, f2]
    omega
  refine ⟨⟨fun k hk => ?_, fun k hk => ?_, fun k hk => ?_, fun i j hi hj hui huj e => ?_, ?_, ?_⟩, cI⟩
  · show (up (up (up st.2.2 all (-1)) a all) b all) k = -1 ∨ ((k : Int) < (up (up (up st.2.2 all (-1)) a all) b all) k ∧ (up (up (up st.2.2 all (-1)) a all) b all) k < ((all + 1 : Nat) : Int))
    by_cases e : k = all
    · rw [e, uA]; exact Or.inl rfl
    · rw [uU k (by omega)]
      split
      · right; omega
      · have := hU k (by omega)
        omega
  · show 0 ≤ up st.2.1 all _ k ∧ up st.2.1 all _ k < _
    by_cases e : k = all
    · rw [e, up_at]
      have := hL a ha
      have := hL b hb
      split <;> omega
    · rw [up_ne e]; exact hL k (by omega)
  · show 1 ≤ up st.1 all _ k
    by_cases e : k = all
    · rw [e, up_at]
      have := hW a ha
      have := hW b hb
      omega
    · rw [up_ne e]; exact hW k (by omega)
  · have hui : (up (up (up st.2.2 all (-1)) a all) b all) i < 0 := hui
    have huj : (up (up (up st.2.2 all (-1)) a all) b all) j < 0 := huj
    have e : up st.2.1 all (if st.2.1 a < st.2.1 b then st.2.1 a else st.2.1 b) i = up st.2.1 all (if st.2.1 a < st.2.1 b then st.2.1 a else st.2.1 b) j := e
    have old : ∀ k : Nat, k < all → (up (up (up st.2.2 all (-1)) a all) b all) k < 0 → st.2.2 k < 0 ∧ k ≠ a ∧ k ≠ b := by
      intro k hk hu
      rw [uU k hk] at hu
      split at hu
      · omega
      · rename_i hn
        exact ⟨hu, fun w => hn (Or.inl w), fun w => hn (Or.inr w)⟩
    have new : ∀ k : Nat, k < all → (up (up (up st.2.2 all (-1)) a all) b all) k < 0 → st.2.1 k ≠ (if st.2.1 a < st.2.1 b then st.2.1 a else st.2.1 b) := by
      intro k hk hu
      obtain ⟨h1, h3, h4⟩ := old k hk hu
      split
      · exact fun w => h3 (hd k a hk ha h1 hua w)
      · exact fun w => h4 (hd k b hk hb h1 hub w)
    by_cases ei : i = all <;> by_cases ej : j = all
    · omega
    · rw [ei, up_at, up_ne ej] at e
      exact absurd e.symm (new j (by omega) huj)
    · rw [ej, up_at, up_ne ei] at e
      exact absurd e (new i (by omega) hui)
    · rw [up_ne ei, up_ne ej] at e
      exact hd i j (by omega) (by omega) (old i (by omega) hui).1 (old j (by omega) huj).1 e
  · rw [cI]
    omega
  · rw [fsum]
    have e1 : aw (up st.1 all (st.1 a + st.1 b), up st.2.1 all (if st.2.1 a < st.2.1 b then st.2.1 a else st.2.1 b), up (up (up st.2.2 all (-1)) a all) b all) all = st.1 a + st.1 b := by
      unfold aw
      rw [if_pos (by show (up (up (up st.2.2 all (-1)) a all) b all) all < 0; rw [uA]; omega)]
      show up st.1 all _ all = _
      rw [up_at]
    have e2 : fsum (aw (up st.1 all (st.1 a + st.1 b), up st.2.1 all (if st.2.1 a < st.2.1 b then st.2.1 a else st.2.1 b), up (up (up st.2.2 all (-1)) a all) b all)) all = fsum (up (up (aw st) a 0) b 0) all := by
      apply fsum_cg
      intro k hk
      unfold aw
      show (if (up (up (up st.2.2 all (-1)) a all) b all) k < 0 then up st.1 all _ k else 0) = _
      rw [uU k hk, up_ne (show k ≠ all by omega)]
      by_cases e1 : k = b
      · rw [e1, up_at, if_pos (Or.inr rfl), if_neg (by omega)]
      · rw [up_ne e1]
        by_cases e2 : k = a
        · rw [e2, up_at, if_pos (Or.inl rfl), if_neg (by omega)]
        · rw [up_ne e2, if_neg (show ¬ (k = a ∨ k = b) by omega)]
    have f1 : aw st a = st.1 a := by unfold aw; rw [if_pos hua]
    have f2 : aw st b = st.1 b := by unfold aw; rw [if_pos hub]
    rw [e1, e2, fsum_up, if_pos hb, fsum_up, if_pos ha, up_ne (Ne.symm hab), f1, f2, hT]
    omega
theorem HI_0 {wt : Nat → Int} {n : Nat} (hw : ∀ k : Nat, k < n → 1 ≤ wt k) : HI n (fsum wt n) (jn wt n 0) n ∧ fsum (ai (jn wt n 0)) n = n := by
  have c1 : fsum (ai (jn wt n 0)) n = n := by
    have : ∀ m : Nat, fsum (ai (jn wt n 0)) m = m := by
      intro m
      induction m with
      | zero => rfl
      | succ m ih =>
        rw [fsum, ih]
        show (m : Int) + (if (-1 : Int) < 0 then 1 else 0) = _
        rw [if_pos (by omega)]
        omega
    exact this n
  refine ⟨⟨fun k _ => Or.inl rfl, fun k hk => ⟨by show (0 : Int) ≤ k; omega, by show (k : Int) < n; omega⟩, hw, fun i j _ _ _ _ e => by have e : (i : Int) = j := e; omega, by rw [c1]; omega, ?_⟩, c1⟩
  apply fsum_cg
  intro k _
  show (if (-1 : Int) < 0 then wt k else 0) = _
  rw [if_pos (by omega)]
theorem HI_jn {wt : Nat → Int} {n : Nat} (hw : ∀ k : Nat, k < n → 1 ≤ wt k) : ∀ j : Nat, j < n → HI n (fsum wt n) (jn wt n j) (n + j) ∧ fsum (ai (jn wt n j)) (n + j) = n - j
  | 0, _ => by
    have := HI_0 hw
    refine ⟨this.1, ?_⟩
    rw [Nat.add_zero, this.2]
    omega
  | j + 1, hj => by
    have ih := HI_jn hw j (by omega)
    have := HI_step ih.1 (by rw [ih.2]; omega)
    refine ⟨this.1, ?_⟩
    rw [show n + (j + 1) = n + j + 1 by omega]
    show fsum (ai (stp (jn wt n j) (n + j))) (n + j + 1) = _
    rw [this.2, ih.2]
    omega
/-- joinings above node k -/
def dpt (U : Nat → Int) : Nat → Nat → Int
  | 0, _ => 0
  | f + 1, k => if U k < 0 then 0 else 1 + dpt U f (U k).toNat
theorem dpt_fuel {U : Nat → Int} {all : Nat} (hU : ∀ k : Nat, k < all → U k = -1 ∨ ((k : Int) < U k ∧ U k < all)) : ∀ (f g k : Nat), k < all → all ≤ k + f → all ≤ k + g → dpt U f k = dpt U g k
  | 0, _, k, h1, h2, _ => by omega
  | f + 1, 0, k, h1, _, h3 => by omega
  | f + 1, g + 1, k, h1, h2, h3 => by
    rw [dpt, dpt]
    by_cases e : U k < 0
    · rw [if_pos e, if_pos e]
    · rw [if_neg e, if_neg e]
      have := hU k h1
      rw [dpt_fuel hU f g (U k).toNat (by omega) (by omega) (by omega)]
/-- LENGTHS of n symbols by weights -/
def lenH (wt : Nat → Int) (n k : Nat) : Int := dpt (jn wt n (n - 1)).2.2 (n + (n - 1)) k
