/-! new ranks by pairs along an order -/
section RNM
variable {n M : Nat} {rk : Nat → Int} {pl o : Nat → Nat}
/-- pl and o are each other's backs below n -/
def back2 (n : Nat) (pl o : Nat → Nat) : Prop := (∀ p, p < n → pl p < n ∧ o (pl p) = p) ∧ ∀ k, k < n → o k < n ∧ pl (o k) = k
def ap (n M : Nat) (rk : Nat → Int) (p : Nat) : Int × Int := (rk p, rk ((p + M) % n))
def srt (n M : Nat) (rk : Nat → Int) (pl : Nat → Nat) : Prop := ∀ p q : Nat, p < n → q < n → pl p < pl q → rk p < rk q ∨ (rk p = rk q ∧ rk ((p + M) % n) ≤ rk ((q + M) % n))
def nrk (n M : Nat) (rk : Nat → Int) (pl o : Nat → Nat) (p : Nat) : Int := chg (fun k => ap n M rk (o k)) (pl p)
theorem back2_inj (h : back2 n pl o) : injN n pl := fun p q hp hq e => by rw [← (h.1 p hp).2, ← (h.1 q hq).2, e]
theorem nrk_aux (h : back2 n pl o) (hs : srt n M rk pl) {p q : Nat} (hp : p < n) (hq : q < n) (hl : pl p < pl q) : (ap n M rk p = ap n M rk q → nrk n M rk pl o p = nrk n M rk pl o q) ∧ (ap n M rk p ≠ ap n M rk q → nrk n M rk pl o p < nrk n M rk pl o q) := by
  obtain ⟨j, hj⟩ : ∃ j, pl q = pl p + j := ⟨pl q - pl p, by omega⟩
  have eP : ap n M rk (o (pl p)) = ap n M rk p := by rw [(h.1 p hp).2]
  have eQ : ap n M rk (o (pl q)) = ap n M rk q := by rw [(h.1 q hq).2]
  have hqn := (h.1 q hq).1
  constructor
  · intro e
    have key : ∀ i, i ≤ j → ap n M rk (o (pl p + i)) = ap n M rk p := by
      intro i hi
      have ht := h.2 (pl p + i) (by omega)
      by_cases e0 : i = 0
      · rw [e0, Nat.add_zero]; exact eP
      · by_cases e1 : i = j
        · rw [e1, ← hj, eQ, e]
        · have s1 := hs p (o (pl p + i)) hp ht.1 (by rw [ht.2]; omega)
          have s2 := hs (o (pl p + i)) q ht.1 hq (by rw [ht.2]; omega)
          have ea : rk p = rk q := congrArg Prod.fst e
          have eb : rk ((p + M) % n) = rk ((q + M) % n) := congrArg Prod.snd e
          have c1 : rk (o (pl p + i)) = rk p := by omega
          have c2 : rk ((o (pl p + i) + M) % n) = rk ((p + M) % n) := by omega
          unfold ap
          rw [c1, c2]
    unfold nrk
    rw [hj]
    exact (chg_const _ (fun i hi => by
      show ap n M rk (o (pl p + i + 1)) = ap n M rk (o (pl p + i))
      rw [Nat.add_assoc, key (i + 1) (by omega), key i (by omega)])).symm
  · intro e
    unfold nrk
    rw [hj]
    apply chg_lt
    show ap n M rk (o (pl p + j)) ≠ ap n M rk (o (pl p))
    rw [← hj, eQ, eP]
    exact fun q => e q.symm
theorem nrk_iff (h : back2 n pl o) (hs : srt n M rk pl) {p q : Nat} (hp : p < n) (hq : q < n) : nrk n M rk pl o p < nrk n M rk pl o q ↔ rk p < rk q ∨ (rk p = rk q ∧ rk ((p + M) % n) < rk ((q + M) % n)) := by
  have hne : ∀ a b : Nat, ap n M rk a ≠ ap n M rk b ↔ rk a ≠ rk b ∨ rk ((a + M) % n) ≠ rk ((b + M) % n) := by
    intro a b
    unfold ap
    rw [Ne, Prod.mk.injEq]
    omega
  rcases Nat.lt_trichotomy (pl p) (pl q) with hl | hl | hl
  · obtain ⟨h1, h2⟩ := nrk_aux h hs hp hq hl
    have s1 := hs p q hp hq hl
    by_cases e : ap n M rk p = ap n M rk q
    · have := h1 e
      have n1 := mt (hne p q).mpr (fun q => q e)
      omega
    · have := h2 e
      have n1 := (hne p q).mp e
      omega
  · have e := back2_inj h p q hp hq hl
    subst e
    omega
  · obtain ⟨h1, h2⟩ := nrk_aux h hs hq hp hl
    have s1 := hs q p hq hp hl
    by_cases e : ap n M rk q = ap n M rk p
    · have := h1 e
      have n1 := mt (hne q p).mpr (fun q => q e)
      omega
    · have := h2 e
      have n1 := (hne q p).mp e
      omega
theorem nrk_order {X : Nat → Int} {L : Nat} (hX : ∀ i, X (i + n) = X i) (hn : 0 < n) (h : back2 n pl o) (hs : srt n L rk pl) (hr : RKo X n L rk) : RKo X n (L + L) (nrk n L rk pl o) := by
  intro p q hp hq
  rw [nrk_iff h hs hp hq, cmpL_add]
  have hm : ∀ a b : Nat, cmpL X L (a % n) (b % n) = cmpL X L a b := by
    have h1 : ∀ a b : Nat, cmpL X L (a % n) b = cmpL X L a b := by
      intro a b
      have key : ∀ k : Nat, cmpL X L (a % n + n * k) b = cmpL X L (a % n) b := by
        intro k
        induction k with
        | zero => rfl
        | succ k ih => rw [Nat.mul_succ, ← Nat.add_assoc, cmpL_per hX, ih]
      have := key (a / n)
      rw [Nat.mod_add_div] at this
      exact this.symm
    intro a b
    rw [h1, ← Int.neg_neg (cmpL X L a (b % n)), ← cmpL_anti, h1, ← cmpL_anti]
  have h1 := hr p q hp hq
  have h2 := hr.eq hp hq
  have h3 := hr ((p + L) % n) ((q + L) % n) (Nat.mod_lt _ hn) (Nat.mod_lt _ hn)
  rw [hm] at h3
  split
  · rename_i e
    rw [e] at h1
    have := h2.mpr e
    omega
  · rename_i e
    have : ¬ rk p = rk q := fun w => e (h2.mp w)
    omega
theorem nrk_same {X : Nat → Int} {L : Nat} (h : back2 n pl o) (hs : srt n 0 rk pl) (hr : RKo X n L rk) : RKo X n L (nrk n 0 rk pl o) := by
  intro p q hp hq
  rw [nrk_iff h hs hp hq, ← hr p q hp hq, Nat.add_zero, Nat.add_zero, Nat.mod_eq_of_lt hp, Nat.mod_eq_of_lt hq]
  omega
theorem chg_onto (P : Nat → Int × Int) : ∀ (k : Nat) (v : Int), 0 ≤ v → v ≤ chg P k → ∃ j, j ≤ k ∧ chg P j = v
  | 0, v, h0, h1 => ⟨0, Nat.le_refl _, by show (0 : Int) = v; have : chg P 0 = 0 := rfl; omega⟩
  | k + 1, v, h0, h1 => by
    by_cases e : chg P (k + 1) = v
    · exact ⟨k + 1, Nat.le_refl _, e⟩
    · have h2 : chg P (k + 1) = chg P k + (if P (k + 1) ≠ P k then 1 else 0) := rfl
      have : v ≤ chg P k := by
        split at h2 <;> omega
      obtain ⟨j, hj, ej⟩ := chg_onto P k v h0 this
      exact ⟨j, by omega, ej⟩
theorem nrk_dense (h : back2 n pl o) (hn : 0 < n) {rc : Nat} (hrc : (rc : Int) = chg (fun k => ap n M rk (o k)) (n - 1) + 1) : RKd n rc (nrk n M rk pl o) := by
  refine ⟨fun p hp => ⟨chg_nn _ _, ?_⟩, fun v hv => ?_⟩
  · have h1 := (h.1 p hp).1
    have := chg_mono (fun k => ap n M rk (o k)) (pl p) (n - 1 - pl p)
    rw [show pl p + (n - 1 - pl p) = n - 1 by omega] at this
    show chg _ (pl p) < _
    omega
  · obtain ⟨j, hj, e⟩ := chg_onto (fun k => ap n M rk (o k)) (n - 1) v (by omega) (by omega)
    have h2 := h.2 j (by omega)
    refine ⟨o j, h2.1, ?_⟩
    unfold nrk
    rw [h2.2]
    exact e
/-- old ranks along the order -/
theorem old_steps (h : back2 n pl o) (hs : srt n M rk pl) {rc : Nat} (hd : RKd n rc rk) : (∀ k, k + 1 < n → rk (o k) ≤ rk (o (k + 1)) ∧ rk (o (k + 1)) ≤ rk (o k) + 1) ∧ (0 < n → rk (o 0) = 0 ∧ rk (o (n - 1)) = rc - 1) := by
  have mono : ∀ j k, j < k → k < n → rk (o j) ≤ rk (o k) := by
    intro j k hjk hk
    have h1 := h.2 j (by omega)
    have h2 := h.2 k hk
    have := hs (o j) (o k) h1.1 h2.1 (by rw [h1.2, h2.2]; exact hjk)
    omega
  have at_ : ∀ v : Nat, v < rc → ∃ j, j < n ∧ rk (o j) = v := by
    intro v hv
    obtain ⟨p, hp, e⟩ := hd.2 v hv
    exact ⟨pl p, (h.1 p hp).1, by rw [(h.1 p hp).2]; exact e⟩
  refine ⟨fun k hk => ⟨mono k (k + 1) (by omega) hk, ?_⟩, fun hn => ?_⟩
  · have r1 := hd.1 (o k) (h.2 k (by omega)).1
    have r2 := hd.1 (o (k + 1)) (h.2 (k + 1) hk).1
    by_cases hlt : rk (o (k + 1)) ≤ rk (o k) + 1
    · exact hlt
    · exfalso
      obtain ⟨j, hj, e⟩ := at_ (rk (o k) + 1).toNat (by omega)
      rcases Nat.lt_trichotomy j (k + 1) with a | a | a
      · by_cases b : j = k
        · subst b; omega
        · have := mono j k (by omega) (by omega); omega
      · subst a; omega
      · have := mono (k + 1) j a hj; omega
  · have r0 := hd.1 (o 0) (h.2 0 hn).1
    have rn := hd.1 (o (n - 1)) (h.2 (n - 1) (by omega)).1
    constructor
    · obtain ⟨j, hj, e⟩ := at_ 0 (by omega)
      by_cases b : j = 0
      · subst b; exact e
      · have := mono 0 j (by omega) hj; omega
    · obtain ⟨j, hj, e⟩ := at_ (rc - 1) (by omega)
      by_cases b : j = n - 1
      · subst b; omega
      · have := mono j (n - 1) (by omega) (by omega); omega
theorem nrk_keep (h : back2 n pl o) (hs : srt n M rk pl) (hn : 0 < n) {rc : Nat} (hd : RKd n rc rk) (hrc : (rc : Int) = chg (fun k => ap n M rk (o k)) (n - 1) + 1) : ∀ p, p < n → nrk n M rk pl o p = rk p := by
  obtain ⟨st, en⟩ := old_steps h hs hd
  obtain ⟨e0, e1⟩ := en hn
  have step : ∀ k, k + 1 < n → chg (fun k => ap n M rk (o k)) k - rk (o k) ≤ chg (fun k => ap n M rk (o k)) (k + 1) - rk (o (k + 1)) := by
    intro k hk
    have s := st k hk
    show _ ≤ chg (fun k => ap n M rk (o k)) k + (if ap n M rk (o (k + 1)) ≠ ap n M rk (o k) then 1 else 0) - rk (o (k + 1))
    by_cases e : rk (o (k + 1)) = rk (o k)
    · split <;> omega
    · rw [if_pos (fun q => e (congrArg Prod.fst q))]
      omega
  have up_ : ∀ j k, k + j < n → chg (fun k => ap n M rk (o k)) k - rk (o k) ≤ chg (fun k => ap n M rk (o k)) (k + j) - rk (o (k + j)) := by
    intro j
    induction j with
    | zero => intro k _; exact Int.le_refl _
    | succ j ih =>
      intro k hk
      have a := ih k (by omega)
      have b := step (k + j) (by omega)
      have : k + (j + 1) = k + j + 1 := by omega
      rw [this]
      omega
  intro p hp
  have hpp := h.1 p hp
  have a := up_ (pl p) 0 (by omega)
  have b := up_ (n - 1 - pl p) (pl p) (by omega)
  rw [Nat.zero_add, e0] at a
  rw [show pl p + (n - 1 - pl p) = n - 1 by omega, e1, hpp.2] at b
  rw [hpp.2] at a
  have z : chg (fun k => ap n M rk (o k)) 0 = 0 := rfl
  show chg _ (pl p) = _
  omega
theorem nrk_split (h : back2 n pl o) (hs : srt n M rk pl) (hn : 0 < n) {rc : Nat} (hd : RKd n rc rk) (hrc : (rc : Int) ≠ chg (fun k => ap n M rk (o k)) (n - 1) + 1) : ∃ p q, p < n ∧ q < n ∧ rk p = rk q ∧ nrk n M rk pl o p ≠ nrk n M rk pl o q := by
  obtain ⟨st, en⟩ := old_steps h hs hd
  obtain ⟨e0, e1⟩ := en hn
  by_cases hall : ∀ k, k + 1 < n → rk (o (k + 1)) = rk (o k) → ap n M rk (o (k + 1)) = ap n M rk (o k)
  · exfalso
    have key : ∀ k, k < n → chg (fun k => ap n M rk (o k)) k = rk (o k) := by
      intro k
      induction k with
      | zero => intro _; rw [e0]; rfl
      | succ k ih =>
        intro hk
        have a := ih (by omega)
        have s := st k hk
        show chg (fun k => ap n M rk (o k)) k + (if ap n M rk (o (k + 1)) ≠ ap n M rk (o k) then 1 else 0) = _
        by_cases e : rk (o (k + 1)) = rk (o k)
        · rw [if_neg (fun w => w (hall k hk e))]; omega
        · rw [if_pos (fun q => e (congrArg Prod.fst q))]; omega
    have := key (n - 1) (by omega)
    omega
  · obtain ⟨k, hk⟩ := Classical.not_forall.mp hall
    obtain ⟨hk1, hk2⟩ := Classical.not_imp.mp hk
    obtain ⟨hk3, hk4⟩ := Classical.not_imp.mp hk2
    have a := h.2 k (by omega)
    have b := h.2 (k + 1) hk1
    refine ⟨o (k + 1), o k, b.1, a.1, hk3, ?_⟩
    unfold nrk
    rw [b.2, a.2]
    show chg (fun k => ap n M rk (o k)) k + (if ap n M rk (o (k + 1)) ≠ ap n M rk (o k) then 1 else 0) ≠ _
    rw [if_pos hk4]
    omega
end RNM
