/-! a joining of 13 levels weighs 610 at least -/
def fibz : Nat → Int
  | 0 => 0
  | 1 => 1
  | n + 2 => fibz (n + 1) + fibz n
theorem fibz_nn : ∀ n : Nat, 0 ≤ fibz n ∧ 0 ≤ fibz (n + 1)
  | 0 => ⟨Int.le_refl _, by decide⟩
  | n + 1 => by
    have := fibz_nn n
    refine ⟨this.2, ?_⟩
    show 0 ≤ fibz (n + 1) + fibz n
    omega
theorem fibz_mono (n : Nat) : ∀ k : Nat, fibz (n + 1) ≤ fibz (n + 1 + k)
  | 0 => Int.le_refl _
  | k + 1 => by
    have h1 := fibz_mono n k
    have h2 := fibz_nn (n + k)
    show fibz (n + 1) ≤ fibz (n + 1 + k + 1)
    rw [show n + 1 + k + 1 = n + k + 2 by omega]
    show _ ≤ fibz (n + k + 1) + fibz (n + k)
    rw [show n + 1 + k = n + k + 1 by omega] at h1
    omega
/-- heights, and the heavier part of each -/
def hh (wt : Nat → Int) (n : Nat) : Nat → (Nat → Nat) × (Nat → Int)
  | 0 => (fun _ => 0, fun _ => 0)
  | j + 1 => (fun k => if k = n + j then max ((hh wt n j).1 (lgt (jn wt n j) (-1) (n + j)).toNat) ((hh wt n j).1 (lgt (jn wt n j) (lgt (jn wt n j) (-1) (n + j)) (n + j)).toNat) + 1 else (hh wt n j).1 k,
              up (hh wt n j).2 (n + j) ((jn wt n j).1 (lgt (jn wt n j) (lgt (jn wt n j) (-1) (n + j)) (n + j)).toNat))
def FI (st : HSt) (all : Nat) (H : Nat → Nat) (m : Nat → Int) : Prop := (∀ x : Nat, x < all → fibz (H x + 2) ≤ st.1 x) ∧ (∀ x : Nat, x < all → 1 ≤ H x → fibz (H x + 1) ≤ m x) ∧ (∀ x y : Nat, x < all → y < all → x ≠ y → st.2.2 x < 0 → st.2.2 y < 0 → m x ≤ st.1 y) ∧ ∀ x : Nat, x < all → 0 ≤ st.2.2 x → H x + 1 ≤ H (st.2.2 x).toNat
theorem FI_jn {wt : Nat → Int} {n : Nat} (hw : ∀ k : Nat, k < n → 1 ≤ wt k) : ∀ j : Nat, j < n → FI (jn wt n j) (n + j) (hh wt n j).1 (hh wt n j).2
  | 0, _ => by
    refine ⟨fun x hx => hw x hx, fun x hx h1 => ?_, fun x y hx hy hne _ _ => ?_, fun x hx h => ?_⟩
    · have h1 : 1 ≤ 0 := h1
      omega
    · show (0 : Int) ≤ wt y
      have := hw y hy
      omega
    · have h : (0 : Int) ≤ -1 := h
      omega
  | j + 1, hj => by
    have ih := FI_jn hw j (by omega)
    obtain ⟨hI, hcn⟩ := HI_jn hw j (by omega)
    obtain ⟨a, b, ha, hb, hab, ea, eb, hua, hub, hma, hmb⟩ := lgt_two hI (by rw [hcn]; omega)
    show FI (stp (jn wt n j) (n + j)) (n + (j + 1)) _ _
    rw [stp_of ea eb]
    unfold hh
    rw [eb, ea, Int.toNat_natCast, Int.toNat_natCast]
    generalize jn wt n j = st at *
    generalize (hh wt n j).1 = H at *
    generalize (hh wt n j).2 = m at *
    rw [show n + (j + 1) = n + j + 1 by omega]
    generalize n + j = all at *
    obtain ⟨f1, f2, f3, f4⟩ := ih
    obtain ⟨hU, -, hW, -, -, -⟩ := hI
    have hab1 : st.1 a ≤ st.1 b := by have := hma b hb hub; omega
    have fa := f1 a ha
    have fb := f1 b hb
    have ga := f2 a ha
    have gb := f2 b hb
    have mab := f3 a b ha hb hab hua hub
    have mba := f3 b a hb ha (Ne.symm hab) hub hua
    have wa := hW a ha
    have wb := hW b hb
    have uU : ∀ k : Nat, k < all → (up (up (up st.2.2 all (-1)) a all) b all) k = if k = a ∨ k = b then (all : Int) else st.2.2 k := by
      intro k hk
      by_cases e1 : k = b
      · rw [e1, up_at, if_pos (Or.inr rfl)]
      · rw [up_ne e1]
        by_cases e2 : k = a
        · rw [e2, up_at, if_pos (Or.inl rfl)]
        · rw [up_ne e2, up_ne (by omega), if_neg (by omega)]
    have uA : (up (up (up st.2.2 all (-1)) a all) b all) all = -1 := by rw [up_ne (by omega), up_ne (by omega), up_at]
    have old : ∀ k : Nat, k < all → (up (up (up st.2.2 all (-1)) a all) b all) k < 0 → st.2.2 k < 0 ∧ k ≠ a ∧ k ≠ b := by
      intro k hk hu
      rw [uU k hk] at hu
      split at hu
      · omega
      · rename_i hn
        exact ⟨hu, fun w => hn (Or.inl w), fun w => hn (Or.inr w)⟩
    refine ⟨fun x hx => ?_, fun x hx h1 => ?_, fun x y hx hy hne hux huy => ?_, fun x hx hux => ?_⟩
    · show fibz ((if x = all then _ else H x) + 2) ≤ up st.1 all _ x
      by_cases e : x = all
      · rw [if_pos e, e, up_at]
        have e3 : ∀ q : Nat, fibz (q + 1 + 2) = fibz (q + 2) + fibz (q + 1) := fun _ => rfl
        rw [e3]
        by_cases hc : H b ≤ H a
        · rw [Nat.max_eq_left hc]
          have : fibz (H a + 1) ≤ st.1 b := by
            by_cases h0 : H a = 0
            · rw [h0]; exact wb
            · have := ga (by omega); omega
          omega
        · rw [Nat.max_eq_right (by omega)]
          have := gb (by omega)
          omega
      · rw [if_neg e, up_ne e]; exact f1 x (by omega)
    · have h1 : 1 ≤ (if x = all then max (H a) (H b) + 1 else H x) := h1
      show fibz ((if x = all then _ else H x) + 1) ≤ up m all _ x
      by_cases e : x = all
      · rw [if_pos e, e, up_at]
        by_cases hc : H b ≤ H a
        · rw [Nat.max_eq_left hc]
          show fibz (H a + 2) ≤ _
          omega
        · rw [Nat.max_eq_right (by omega)]
          exact fb
      · rw [if_neg e] at h1
        rw [if_neg e, up_ne e]; exact f2 x (by omega) h1
    · have hux : (up (up (up st.2.2 all (-1)) a all) b all) x < 0 := hux
      have huy : (up (up (up st.2.2 all (-1)) a all) b all) y < 0 := huy
      show up m all _ x ≤ up st.1 all _ y
      by_cases ex : x = all
      · obtain ⟨o1, o2, o3⟩ := old y (by omega) huy
        rw [ex, up_at, up_ne (by omega)]
        have := hmb y (by omega) o1 o2
        omega
      · obtain ⟨p1, p2, p3⟩ := old x (by omega) hux
        rw [up_ne ex]
        by_cases ey : y = all
        · rw [ey, up_at]
          have := f3 x a (by omega) ha p2 p1 hua
          omega
        · obtain ⟨o1, o2, o3⟩ := old y (by omega) huy
          rw [up_ne ey]
          exact f3 x y (by omega) (by omega) hne p1 o1
    · have hux : 0 ≤ (up (up (up st.2.2 all (-1)) a all) b all) x := hux
      show (if x = all then _ else H x) + 1 ≤ (if ((up (up (up st.2.2 all (-1)) a all) b all) x).toNat = all then _ else H ((up (up (up st.2.2 all (-1)) a all) b all) x).toNat)
      by_cases ex : x = all
      · rw [ex, uA] at hux; omega
      · rw [uU x (by omega)] at hux ⊢
        rw [if_neg ex]
        by_cases e1 : x = a ∨ x = b
        · rw [if_pos e1, Int.toNat_natCast, if_pos rfl]
          rcases e1 with e1 | e1
          · rw [e1]; have := Nat.le_max_left (H a) (H b); omega
          · rw [e1]; have := Nat.le_max_right (H a) (H b); omega
        · rw [if_neg e1] at hux ⊢
          have := hU x (by omega)
          rw [if_neg (by omega)]
          exact f4 x (by omega) hux
theorem len_low {wt : Nat → Int} {n : Nat} (hn : 0 < n) (hw : ∀ k : Nat, k < n → 1 ≤ wt k) (hT : fsum wt n ≤ 609) {k : Nat} (hk : k < n) : lenH wt n k ≤ 12 := by
  obtain ⟨hI, hcn⟩ := HI_jn hw (n - 1) (by omega)
  obtain ⟨f1, f2, f3, f4⟩ := FI_jn hw (n - 1) (by omega)
  obtain ⟨hU, -, hW, -, -, hTs⟩ := hI
  have hlast : (jn wt n (n - 1)).2.2 (n + (n - 1) - 1) < 0 := by
    have := hU (n + (n - 1) - 1) (by omega)
    omega
  have hroot : ∀ q : Nat, q < n + (n - 1) → (jn wt n (n - 1)).2.2 q < 0 → q = n + (n - 1) - 1 := by
    intro q hq hu
    by_cases e : q = n + (n - 1) - 1
    · exact e
    · exfalso
      have h9 := fsum_ge2 (f := ai (jn wt n (n - 1))) (n := n + (n - 1)) (fun i _ => by unfold ai; split <;> omega) hq (show n + (n - 1) - 1 < n + (n - 1) by omega) e
      have a1 : ai (jn wt n (n - 1)) q = 1 := by unfold ai; rw [if_pos hu]
      have a2 : ai (jn wt n (n - 1)) (n + (n - 1) - 1) = 1 := by unfold ai; rw [if_pos hlast]
      omega
  have key : ∀ (f q : Nat), q < n + (n - 1) → dpt (jn wt n (n - 1)).2.2 f q + (hh wt n (n - 1)).1 q ≤ ((hh wt n (n - 1)).1 (n + (n - 1) - 1) : Nat) := by
    intro f
    induction f with
    | zero =>
      intro q hq
      have mono : ∀ (g q : Nat), q < n + (n - 1) → n + (n - 1) ≤ q + g → (hh wt n (n - 1)).1 q ≤ (hh wt n (n - 1)).1 (n + (n - 1) - 1) := by
        intro g
        induction g with
        | zero => intro q h1 h2; omega
        | succ g ih =>
          intro q h1 h2
          by_cases hu : (jn wt n (n - 1)).2.2 q < 0
          · rw [hroot q h1 hu]; exact Nat.le_refl _
          · have h3 := hU q h1
            have h4 := f4 q h1 (by omega)
            have h5 := ih ((jn wt n (n - 1)).2.2 q).toNat (by omega) (by omega)
            omega
      have := mono (n + (n - 1)) q hq (by omega)
      rw [dpt]
      omega
    | succ f ih =>
      intro q hq
      rw [dpt]
      by_cases hu : (jn wt n (n - 1)).2.2 q < 0
      · rw [if_pos hu, hroot q hq hu]
        omega
      · rw [if_neg hu]
        have h3 := hU q hq
        have h4 := f4 q hq (by omega)
        have h5 := ih ((jn wt n (n - 1)).2.2 q).toNat (by omega)
        omega
  have h1 := key (n + (n - 1)) k (by omega)
  unfold lenH
  by_cases hbig : 13 ≤ (hh wt n (n - 1)).1 (n + (n - 1) - 1)
  · exfalso
    have h2 := f1 (n + (n - 1) - 1) (by omega)
    have h3 := fsum_ge (f := aw (jn wt n (n - 1))) (n := n + (n - 1)) (fun i hi => by unfold aw; have := hW i hi; split <;> omega) (show n + (n - 1) - 1 < n + (n - 1) by omega)
    have h4 : aw (jn wt n (n - 1)) (n + (n - 1) - 1) = (jn wt n (n - 1)).1 (n + (n - 1) - 1) := by unfold aw; rw [if_pos hlast]
    rw [h4, hTs] at h3
    have h5 := fibz_mono 14 ((hh wt n (n - 1)).1 (n + (n - 1) - 1) - 13)
    rw [show 14 + 1 + ((hh wt n (n - 1)).1 (n + (n - 1) - 1) - 13) = (hh wt n (n - 1)).1 (n + (n - 1) - 1) + 2 by omega] at h5
    have h6 : fibz (14 + 1) = 610 := by decide
    omega
  · omega
/-- weights halved again and again -/
def hv (wt : Nat → Int) : Nat → Nat → Int
  | 0, k => wt k
  | j + 1, k => hv wt j k / 2 + 1
theorem hv_pos {wt : Nat → Int} {n : Nat} (hw : ∀ k : Nat, k < n → 1 ≤ wt k) : ∀ (j k : Nat), k < n → 1 ≤ hv wt j k
  | 0, k, hk => hw k hk
  | j + 1, k, hk => by
    have := hv_pos hw j k hk
    rw [hv]
    omega
theorem hv_le {wt : Nat → Int} {n : Nat} (hw : ∀ k : Nat, k < n → 1 ≤ wt k) (hb : ∀ k : Nat, k < n → wt k ≤ 1024) : ∀ (j k : Nat), k < n → hv wt j k ≤ 1024
  | 0, k, hk => hb k hk
  | j + 1, k, hk => by
    have := hv_le hw hb j k hk
    have := hv_pos hw j k hk
    rw [hv]
    omega
theorem hv_11 {wt : Nat → Int} {n : Nat} (hw : ∀ k : Nat, k < n → 1 ≤ wt k) (hb : ∀ k : Nat, k < n → wt k ≤ 1024) {k : Nat} (hk : k < n) : hv wt 11 k ≤ 2 := by
  have h0 := hb k hk
  have h1 := hw k hk
  simp only [hv]
  omega
theorem fsum_bd {f : Nat → Int} {B : Int} : ∀ {n : Nat}, (∀ k : Nat, k < n → f k ≤ B) → fsum f n ≤ B * n
  | 0, _ => by simp [fsum]
  | n + 1, h => by
    have h1 := fsum_bd (n := n) (fun k hk => h k (by omega))
    have h2 := h n (by omega)
    rw [fsum, show ((n + 1 : Nat) : Int) = (n : Int) + 1 by omega, Int.mul_add, Int.mul_one]
    omega
def gd (wt : Nat → Int) (n j : Nat) : Prop := ∀ k : Nat, k < n → lenH (hv wt j) n k ≤ 12
theorem gd_11 {wt : Nat → Int} {n : Nat} (hn : 0 < n) (hn2 : n ≤ 258) (hw : ∀ k : Nat, k < n → 1 ≤ wt k) (hb : ∀ k : Nat, k < n → wt k ≤ 1024) : gd wt n 11 := by
  intro k hk
  have h1 := fsum_bd (f := hv wt 11) (B := 2) (n := n) (fun k hk => hv_11 hw hb hk)
  exact len_low hn (hv_pos hw 11) (by omega) hk
