/-! counting sort: the place of k among the numbers below n by their keys, like ones as they stand -/
def kl (x : Nat → Int) (i k : Nat) : Bool := decide (x i < x k) || (decide (x i = x k) && decide (i < k))
theorem kl_iff {x : Nat → Int} {i k : Nat} : kl x i k = true ↔ x i < x k ∨ (x i = x k ∧ i < k) := by simp [kl]
theorem kl_ok (x : Nat → Int) (n : Nat) : ord_ok (kl x) n := by
  refine ⟨fun p _ => ?_, fun p q r _ _ _ h1 h2 => ?_, fun p q _ _ hne => ?_⟩
  · cases h : kl x p p with
    | false => rfl
    | true => rw [kl_iff] at h; omega
  · rw [kl_iff] at h1 h2 ⊢
    omega
  · rw [kl_iff, kl_iff]
    omega
theorem cnt_below {P : Nat → Bool} {k : Nat} : ∀ {n : Nat}, k ≤ n → cnt (fun i => P i && decide (i < k)) n = cnt P k
  | 0, h => by
    have : k = 0 := by omega
    subst this; rfl
  | n + 1, h => by
    by_cases e : k = n + 1
    · subst e
      exact cnt_congr (fun i hi => by simp [hi])
    · simp only [cnt]
      rw [cnt_below (n := n) (by omega)]
      have : ¬ n < k := by omega
      simp [this]
theorem plc_kl {x : Nat → Int} {n k : Nat} (hk : k ≤ n) : plc (kl x) n k = cnt (fun i => decide (x i < x k)) n + cnt (fun i => decide (x i = x k)) k := by
  unfold plc
  rw [← cnt_below (P := fun i => decide (x i = x k)) hk, ← cnt_or]
  · rfl
  · intro i _ h1
    simp at h1
    simp
    omega
theorem cl_succ (x : Nat → Int) (n : Nat) (c : Int) : cnt (fun i => decide (x i < c + 1)) n = cnt (fun i => decide (x i < c)) n + cnt (fun i => decide (x i = c)) n := by
  rw [← cnt_or]
  · apply cnt_congr
    intro i _
    by_cases h1 : x i < c
    · have h2 : x i < c + 1 := by omega
      simp [h1, h2]
    · by_cases h2 : x i = c
      · have h3 : x i < c + 1 := by omega
        simp [h2]
        omega
      · have h3 : ¬ x i < c + 1 := by omega
        simp [h1, h2, h3]
  · intro i _ h1
    simp at h1
    simp
    omega
theorem ce_succ (x : Nat → Int) (k : Nat) (c : Int) : cnt (fun i => decide (x i = c)) (k + 1) = cnt (fun i => decide (x i = c)) k + (if x k = c then 1 else 0) := by
  simp only [cnt, decide_eq_true_eq]
set_option maxRecDepth 100000 in
theorem c_Ar_fill {h : ax_H} {a n : Nat} {g : Nat → Int} (ha : h[a]? = some (ia n g)) (h0 : 0 < a) (hn : n ≤ 3000) (v : Int) : ax_Cv m_Ar_fill 0 [.ref a, .int (iv v)] h (fun h1 => ∃ g', h1[a]? = some (ia n g') ∧ (∀ j : Nat, j < n → g' j = v) ∧ Fr [a] h h1) := by
  have hSa : [a].contains a = true := by simp
  refine ax_enter [some (.ref a), some (.int (iv v)), none, none] rfl (Nat.le_of_ble_eq_true rfl) (by decide) ?_
  refine az_iconst d_Ar_fill_0 ?_
  refine ax_istore_n d_Ar_fill_1 (by decide) rfl ?_
  refine ax_aload_n d_Ar_fill_2 rfl ?_
  refine az_alen d_Ar_fill_3 (by first | assumption | exact hH.g 0 rfl) ?_
  refine ax_istore_n d_Ar_fill_4 (by decide) rfl ?_
  have key : ∀ (k i : Nat) (h1 : ax_H) (g1 : Nat → Int), i + k = n → Hs h1 [(a, ia n g1)] → Fr [a] h h1 → (∀ j : Nat, j < i → g1 j = v) →
      ax_W m_Ar_fill 0 5 [some (.ref a), some (.int (iv v)), some (.int (iv i)), some (.int (iv n))] [] h1 (fun r h1 => r = none ∧ ∃ g', h1[a]? = some (ia n g') ∧ (∀ j : Nat, j < n → g' j = v) ∧ Fr [a] h h1) := by
    intro k
    induction k with
    | zero =>
      intro i h1 g1 he hH hF hj
      refine ax_iload_n d_Ar_fill_5 rfl ?_
      refine ax_iload_n d_Ar_fill_6 rfl ?_
      refine az_icmp_ge 20 d_Ar_fill_7 (by decide) (by omega) (by omega) (fun hc => ?_) (fun hc => ?_)
      · refine ax_vret d_Ar_fill_20 rfl ?_
        exact ⟨rfl, g1, hH.g 0 rfl, fun j hjn => hj j (by omega), hF⟩
      · exfalso
        omega
    | succ k ih =>
      intro i h1 g1 he hH hF hj
      refine ax_iload_n d_Ar_fill_5 rfl ?_
      refine ax_iload_n d_Ar_fill_6 rfl ?_
      refine az_icmp_ge 20 d_Ar_fill_7 (by decide) (by omega) (by omega) (fun hc => ?_) (fun hc => ?_)
      · exfalso
        omega
      · refine ax_aload_n d_Ar_fill_10 rfl ?_
        refine ax_iload_n d_Ar_fill_11 rfl ?_
        refine ax_iload_n d_Ar_fill_12 rfl ?_
        refine ah_iast d_Ar_fill_13 hH hF 0 rfl hSa h0 (by omega) (by omega) (by omega) (fun h2 hH hF => ?_)
        refine az_iinc d_Ar_fill_14 rfl (by decide) rfl ?_
        refine ax_goto 5 d_Ar_fill_17 (by decide) ?_
        refine ih (i + 1) h2 _ (by omega) hH hF (fun j hj2 => ?_)
        by_cases e : j = (i : Int).toNat
        · rw [e, up_at]
        · rw [up_ne e]
          exact hj j (by omega)
  exact key n 0 h g (by omega) (Hs.c ha rfl Hs.n) Fr.rf (fun j hj => by omega)
