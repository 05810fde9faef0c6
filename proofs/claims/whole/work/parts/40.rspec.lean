/-! what reading a tape gives -/
def tb (T : List Int) (p : Nat) : Nat := bt (gx T (p / 8)) (7 - p % 8)
theorem tb_lt (T : List Int) (p : Nat) : tb T p < 2 := bt_lt _ _
def tvA (T : List Int) : Nat → Nat → Nat → Nat
  | 0, _, a => a
  | n + 1, p, a => tvA T n (p + 1) (2 * a + tb T p)
abbrev tv (T : List Int) (n p : Nat) : Nat := tvA T n p 0
theorem tvA_lt (T : List Int) : ∀ (n p a m : Nat), a < 2 ^ m → tvA T n p a < 2 ^ (m + n)
  | 0, _, _, _, h => h
  | n + 1, p, a, m, h => by
    have hb := tb_lt T p
    have := tvA_lt T n (p + 1) (2 * a + tb T p) (m + 1) (by rw [Nat.pow_succ]; omega)
    rw [tvA, show m + (n + 1) = m + 1 + n by omega]
    exact this
theorem tv_lt (T : List Int) (n p : Nat) : tv T n p < 2 ^ n := by
  have := tvA_lt T n p 0 0 (by decide)
  rw [Nat.zero_add] at this
  exact this
abbrev RF : Type := Int × Int
def wr (a : Int) : Int := (iv a).toInt
theorem wr_in (a : Int) : -2147483648 ≤ wr a ∧ wr a < 2147483648 := of32 _
theorem wr_id {a : Int} (h : -2147483648 ≤ a ∧ a < 2147483648) : wr a = a := iv_toInt h
theorem iv_wr (a : Int) : iv (wr a) = iv a := iv_of _
theorem wr_push (a : Int) {b : Nat} (hb : b < 2) : zor (zshl (wr a) 1) (b : Int) = wr (2 * a + b) := by
  rw [z_push _ hb]
  unfold wr
  rw [← iv_add, ← iv_mul, iv_of, iv_mul, iv_add]
def rdHead (T : List Int) : Sum RF (Nat × Nat × Nat) :=
  if 8 * T.length < 16 then .inl (1, T.length) else if tv T 16 0 ≠ 21332 then .inl (2, 0) else
  if 8 * T.length < 32 then .inl (1, T.length) else if 900 < tv T 16 16 then .inl (3, 2) else
  if 8 * T.length < 48 then .inl (1, T.length) else if tv T 16 32 ≠ 0 ∧ tv T 16 16 ≤ tv T 16 32 then .inl (4, 4) else
  if 8 * T.length < 80 then .inl (1, T.length) else .inr (tv T 16 16, tv T 16 32, tv T 32 48)
def mksI (v g : Nat) : Nat → Nat → List Int
  | 0, _ => []
  | k + 1, i => (if bt v (15 - i) = 1 then [((16 * g + i : Nat) : Int)] else []) ++ mksI v g k (i + 1)
def mks (v g : Nat) : List Int := mksI v g 16 0
def rdG (T : List Int) : Nat → Nat → Nat → Nat → List Int → Sum RF (List Int × Nat)
  | 0, _, _, p, l => .inr (l, p)
  | k + 1, g, m, p, l => if bt m (15 - g) = 1 then (if 8 * T.length < p + 16 then .inl (1, T.length) else if tv T 16 p = 0 then .inl (5, (p / 8 : Nat)) else rdG T k (g + 1) m (p + 16) (l ++ mks (tv T 16 p) g)) else rdG T k (g + 1) m p l
def rdList (T : List Int) (p : Nat) : Sum RF (List Int × Nat) := if 8 * T.length < p + 16 then .inl (1, T.length) else if tv T 16 p = 0 then .inl (5, (p / 8 : Nat)) else rdG T 16 0 (tv T 16 p) (p + 16) []
def rdL1 (T : List Int) : Nat → Nat → Int → Nat → Sum RF (Int × Nat)
  | 0, _, _, _ => .inl (1, T.length)
  | f + 1, p, hd, pl => if 8 * T.length < p + 1 then .inl (1, T.length) else if tb T p = 0 then .inr (hd, p + 1) else if 8 * T.length < p + 2 then .inl (1, T.length) else
    if (hd + (if tb T (p + 1) = 0 then 1 else -1)) < 1 ∨ 12 < (hd + (if tb T (p + 1) = 0 then 1 else -1)) then .inl (6, (pl : Nat)) else rdL1 T f (p + 2) (hd + (if tb T (p + 1) = 0 then 1 else -1)) pl
def rdLs (T : List Int) : Nat → Nat → Int → List Int → Sum RF (List Int × Nat)
  | 0, p, _, acc => .inr (acc, p)
  | k + 1, p, hd, acc => match rdL1 T 24000 p hd (p / 8) with
    | .inl e => .inl e
    | .inr q => rdLs T k q.2 q.1 (acc ++ [q.1])
def lenE (n p : Nat) (r : Sum RF (List Int × Nat)) : Sum RF (List Int × Nat) := match r with
  | .inl e => .inl e
  | .inr q => if kraft (gx q.1) n = 4096 then .inr q else .inl (7, (p / 8 : Nat))
def rdLens (T : List Int) (n p : Nat) : Sum RF (List Int × Nat) := if 8 * T.length < p + 4 then .inl (1, T.length) else if tv T 4 p < 1 ∨ 12 < tv T 4 p then .inl (6, (p / 8 : Nat)) else lenE n p (rdLs T n (p + 4) (tv T 4 p) [])
def symT (lg : Nat → Int) (n l v : Nat) : Option Nat := (List.range n).find? (fun s => decide (lg s = (l : Int) ∧ codeV lg n s = v))
def rdY (T : List Int) (lg : Nat → Int) (n : Nat) : Nat → Nat → Nat → Nat → Option (Nat × Nat)
  | 0, _, _, _ => none
  | k + 1, l, p, v => if 8 * T.length < p + 1 then none else match symT lg n l (2 * v + tb T p) with
    | some s => some (s, p + 1)
    | none => rdY T lg n k (l + 1) (p + 1) (2 * v + tb T p)
def manyS (s w : Nat) : Nat := if s < 2 then (s + 1) * w else 1
def rdR (T : List Int) (lg : Nat → Int) (c : Nat) : Nat → Nat → List Int → Nat → List Int → Sum RF (List Int × Nat)
  | 0, _, _, _, _ => .inl (1, T.length)
  | f + 1, p, l, w, acc => match rdY T lg (l.length + 2) 12 1 p 0 with
    | none => .inl (1, T.length)
    | some q => if q.1 = l.length + 1 then (if acc.length = c then .inr (acc, q.2) else .inl (8, (p / 8 : Nat))) else
      if c < acc.length + manyS q.1 w then .inl (8, (p / 8 : Nat)) else rdR T lg c f q.2 (if q.1 < 2 then l else mtf l (q.1 - 1)) (if q.1 < 2 then 2 * w else 1) (acc ++ List.replicate (manyS q.1 w) (gx l (if q.1 < 2 then 0 else q.1 - 1)))
def fillN (p : Nat) : Nat := (8 - p % 8) % 8
def rdFin (T : List Int) (o k : Nat) (row : List Int) (p : Nat) : Sum RF (List Int) := if rightB row o = false then .inl (9, 4) else match upT (gbT row o) with
  | none => .inl (10, 2)
  | some u => if crc u ≠ wr k then .inl (11, 6) else if tv T (fillN p) p ≠ 0 then .inl (12, (p / 8 : Nat)) else if (p + fillN p) / 8 = T.length then .inr u else .inl (12, ((p + fillN p) / 8 : Nat))
def rdT (T : List Int) : Sum RF (List Int) := match rdHead T with
  | .inl e => .inl e
  | .inr q => if q.1 = 0 then rdFin T q.2.1 q.2.2 [] 80 else match rdList T 80 with
    | .inl e => .inl e
    | .inr l => match rdLens T (l.1.length + 2) l.2 with
      | .inl e => .inl e
      | .inr s => match rdR T (gx s.1) q.1 (q.1 + 1) s.2 l.1 1 [] with
        | .inl e => .inl e
        | .inr r => rdFin T q.2.1 q.2.2 r.1 r.2
/-! facts of the list that is read -/
theorem mksI_len (v g : Nat) : ∀ k i, (mksI v g k i).length ≤ k
  | 0, _ => by simp [mksI]
  | k + 1, i => by
    have := mksI_len v g k (i + 1)
    rw [mksI, List.length_append]
    split
    · simp; omega
    · simp; omega
theorem mks_len (v g : Nat) : (mks v g).length ≤ 16 := mksI_len v g 16 0
theorem mksI_in (v g : Nat) : ∀ k i, ∀ b ∈ mksI v g k i, ((16 * g + i : Nat) : Int) ≤ b ∧ b < ((16 * g + i + k : Nat) : Int)
  | 0, _ => fun b hb => by simp [mksI] at hb
  | k + 1, i => by
    intro b hb
    rw [mksI] at hb
    rcases List.mem_append.mp hb with h | h
    · split at h
      · simp at h; omega
      · simp at h
    · have := mksI_in v g k (i + 1) b h
      omega
theorem mksI_nd (v g : Nat) : ∀ k i, (mksI v g k i).Nodup
  | 0, _ => by simp [mksI]
  | k + 1, i => by
    have ih := mksI_nd v g k (i + 1)
    rw [mksI]
    split
    · refine List.nodup_cons.mpr ⟨fun h => ?_, ih⟩
      have := mksI_in v g k (i + 1) _ h
      omega
    · exact ih
theorem mks_ne {v g : Nat} (hv : v < 65536) (h0 : v ≠ 0) : mks v g ≠ [] := by
  have key : ∀ k i, i + k = 16 → mksI v g k i = [] → ∀ j : Nat, i ≤ j → j < 16 → bt (v : Int) (15 - j) = 0 := by
    intro k
    induction k with
    | zero => intro i h1 _ j h2 h3; omega
    | succ k ih =>
      intro i h1 h2 j h3 h4
      rw [mksI, List.append_eq_nil_iff] at h2
      by_cases e : j = i
      · subst e
        have := bt_lt (v : Int) (15 - j)
        by_cases q : bt (v : Int) (15 - j) = 1
        · rw [if_pos q] at h2
          simp at h2
        · omega
      · exact ih (i + 1) (by omega) h2.2 j (by omega) h4
  intro h
  apply h0
  refine bt_zero hv (fun p hp => ?_)
  have := key 16 0 rfl h (15 - p) (by omega) (by omega)
  rw [show 15 - (15 - p) = p by omega] at this
  exact this
def okL (l : List Int) (g : Nat) : Prop := l.length ≤ 16 * g ∧ (∀ b ∈ l, 0 ≤ b ∧ b < ((16 * g : Nat) : Int)) ∧ l.Nodup
theorem okL_step {l : List Int} {g v : Nat} (h : okL l g) : okL (l ++ mks v g) (g + 1) := by
  obtain ⟨h1, h2, h3⟩ := h
  have hm := mks_len v g
  refine ⟨by rw [List.length_append]; omega, fun b hb => ?_, ?_⟩
  · rcases List.mem_append.mp hb with h | h
    · have := h2 b h
      omega
    · have := mksI_in v g 16 0 b h
      omega
  · rw [List.nodup_append]
    refine ⟨h3, mksI_nd v g 16 0, fun a ha b hb e => ?_⟩
    have q1 := h2 a ha
    have q2 := mksI_in v g 16 0 b hb
    omega
theorem okL_wide {l : List Int} {g : Nat} (h : okL l g) : okL l (g + 1) := ⟨by have := h.1; omega, fun b hb => by have := h.2.1 b hb; omega, h.2.2⟩
theorem okL_Bs {l : List Int} {g : Nat} (h : okL l g) (hg : g ≤ 16) : Bs l := fun i hi => by
  have := h.2.1 (l.getD i 0) (inL_mem ⟨i, hi, rfl⟩)
  omega
theorem rdG_ok {T : List Int} : ∀ (k g m p : Nat) (l l' : List Int) (p' : Nat), g + k = 16 → okL l g → p ≤ 8 * T.length → rdG T k g m p l = .inr (l', p') → okL l' 16 ∧ p' ≤ 8 * T.length ∧ p ≤ p' ∧ ((l ≠ [] ∨ ∃ j : Nat, g ≤ j ∧ j < 16 ∧ bt (m : Int) (15 - j) = 1) → l' ≠ [])
  | 0, g, m, p, l, l', p', hg, hl, hp, h => by
    rw [rdG] at h
    cases h
    have : g = 16 := by omega
    subst this
    refine ⟨hl, hp, Nat.le_refl _, fun q => ?_⟩
    rcases q with q | ⟨j, q1, q2, -⟩
    · exact q
    · omega
  | k + 1, g, m, p, l, l', p', hg, hl, hp, h => by
    rw [rdG] at h
    split at h
    · split at h
      · cases h
      · split at h
        · cases h
        · rename_i h1 h2 h3
          have := rdG_ok k (g + 1) m (p + 16) _ l' p' (by omega) (okL_step hl) (by omega) h
          refine ⟨this.1, this.2.1, by omega, fun _ => this.2.2.2 (Or.inl ?_)⟩
          intro q
          rw [List.append_eq_nil_iff] at q
          exact mks_ne (tv_lt T 16 p) h3 q.2
    · rename_i h1
      have := rdG_ok k (g + 1) m p _ l' p' (by omega) (okL_wide hl) hp h
      refine ⟨this.1, this.2.1, this.2.2.1, fun q => this.2.2.2 ?_⟩
      rcases q with q | ⟨j, q1, q2, q3⟩
      · exact Or.inl q
      · by_cases e : j = g
        · subst e
          exact absurd q3 h1
        · exact Or.inr ⟨j, by omega, q2, q3⟩
theorem rdList_ok {T : List Int} {p p' : Nat} {l : List Int} (h : rdList T p = .inr (l, p')) : okL l 16 ∧ p' ≤ 8 * T.length ∧ l ≠ [] := by
  unfold rdList at h
  split at h
  · cases h
  · split at h
    · cases h
    · rename_i h1 h2
      have := rdG_ok 16 0 _ _ _ _ _ rfl ⟨by simp, fun b hb => by simp at hb, by simp⟩ (by omega) h
      refine ⟨this.1, this.2.1, this.2.2.2 (Or.inr ?_)⟩
      apply Classical.byContradiction
      intro hn
      apply h2
      refine bt_zero (tv_lt T 16 p) (fun q hq => ?_)
      have hb := bt_lt (tv T 16 p : Int) q
      by_cases e : bt (tv T 16 p : Int) q = 1
      · exact absurd ⟨15 - q, by omega, by omega, by rw [show 15 - (15 - q) = q by omega]; exact e⟩ hn
      · omega
