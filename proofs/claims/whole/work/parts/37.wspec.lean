/-! what a row's stream holds, bit by bit -/
def mkN (l : List Int) (j : Nat) : Nat := if l.contains (j : Int) = true then 1 else 0
theorem mkN_lt (l : List Int) (j : Nat) : mkN l j < 2 := by unfold mkN; split <;> omega
def anyG (l : List Int) (g : Nat) : Nat := if (List.range 16).any (fun i => l.contains ((16 * g + i : Nat) : Int)) = true then 1 else 0
theorem anyG_lt (l : List Int) (g : Nat) : anyG l g < 2 := by unfold anyG; split <;> omega
theorem anyG_iff (l : List Int) (g : Nat) : anyG l g = 1 ↔ ∃ i : Nat, i < 16 ∧ mkN l (16 * g + i) = 1 := by
  have e : ∀ j : Nat, mkN l j = 1 ↔ l.contains (j : Int) = true := fun j => by unfold mkN; split <;> simp_all
  unfold anyG
  constructor
  · intro h
    split at h
    · rename_i q
      obtain ⟨i, hi, hx⟩ := List.any_eq_true.mp q
      exact ⟨i, List.mem_range.mp hi, (e _).mpr hx⟩
    · omega
  · rintro ⟨i, hi, hx⟩
    rw [if_pos]
    exact List.any_eq_true.mpr ⟨i, List.mem_range.mpr hi, (e _).mp hx⟩
def gB (l : List Int) : Nat → Nat → List Nat
  | 0, _ => []
  | k + 1, g => (if anyG l g = 1 then bitsF (fun p => mkN l (16 * g + (15 - p))) 16 else []) ++ gB l k (g + 1)
def listB (l : List Int) : List Nat := bitsF (fun p => anyG l (15 - p)) 16 ++ gB l 16 0
theorem gB_len (l : List Int) : ∀ k g, (gB l k g).length ≤ 16 * k
  | 0, _ => by simp [gB]
  | k + 1, g => by
    have := gB_len l k (g + 1)
    rw [gB, List.length_append]
    split
    · rw [bitsF_len]; omega
    · simp; omega
theorem listB_len (l : List Int) : (listB l).length ≤ 272 := by
  have := gB_len l 16 0
  rw [listB, List.length_append, bitsF_len]
  omega
theorem okB_gB (l : List Int) : ∀ k g, okB (gB l k g)
  | 0, _ => fun b hb => by simp [gB] at hb
  | k + 1, g => by
    rw [gB]
    refine okB_app ?_ (okB_gB l k (g + 1))
    split
    · exact okB_F (fun p _ => mkN_lt _ _)
    · exact fun b hb => by simp at hb
theorem okB_list (l : List Int) : okB (listB l) := okB_app (okB_F (fun p _ => anyG_lt _ _)) (okB_gB l 16 0)
theorem mkN_cg {a b : List Int} (h : ∀ j : Nat, j < 256 → a.contains (j : Int) = b.contains (j : Int)) {j : Nat} (hj : j < 256) : mkN a j = mkN b j := by unfold mkN; rw [h j hj]
theorem anyG_cg {a b : List Int} (h : ∀ j : Nat, j < 256 → a.contains (j : Int) = b.contains (j : Int)) {g : Nat} (hg : g < 16) : anyG a g = anyG b g := by
  have h1 := anyG_iff a g
  have h2 := anyG_iff b g
  have h3 : (∃ i : Nat, i < 16 ∧ mkN a (16 * g + i) = 1) ↔ ∃ i : Nat, i < 16 ∧ mkN b (16 * g + i) = 1 :=
    ⟨fun ⟨i, hi, hx⟩ => ⟨i, hi, by rw [← mkN_cg h (by omega)]; exact hx⟩, fun ⟨i, hi, hx⟩ => ⟨i, hi, by rw [mkN_cg h (by omega)]; exact hx⟩⟩
  have h4 := anyG_lt a g
  have h5 := anyG_lt b g
  have h6 : anyG a g = 1 ↔ anyG b g = 1 := h1.trans (h3.trans h2.symm)
  omega
theorem gB_cg {a b : List Int} (h : ∀ j : Nat, j < 256 → a.contains (j : Int) = b.contains (j : Int)) : ∀ k g, g + k ≤ 16 → gB a k g = gB b k g
  | 0, _, _ => rfl
  | k + 1, g, hg => by
    rw [gB, gB, anyG_cg h (by omega), gB_cg h k (g + 1) (by omega), bitsF_cg (fun p hp => mkN_cg h (show 16 * g + (15 - p) < 256 by omega))]
theorem listB_cg {a b : List Int} (h : ∀ j : Nat, j < 256 → a.contains (j : Int) = b.contains (j : Int)) : listB a = listB b := by
  rw [listB, listB, gB_cg h 16 0 (by omega), bitsF_cg (fun p hp => anyG_cg h (show 15 - p < 16 by omega))]
theorem cont_inL {l : List Int} {b : Int} : l.contains b = true ↔ inL l b := ⟨fun h => mem_inL (List.contains_iff_mem.mp h), fun h => List.contains_iff_mem.mpr (inL_mem h)⟩
theorem lst_cont (xs : List Int) {j : Nat} (hj : j < 256) : (lst xs).contains (j : Int) = xs.contains (j : Int) := by
  have : (j : Int) ∈ lst xs ↔ xs.contains (j : Int) = true := by
    rw [lst, List.mem_map]
    constructor
    · rintro ⟨c, hc, e⟩
      have e2 : c = j := by omega
      rw [e2] at hc
      exact (List.mem_filter.mp hc).2
    · intro h
      exact ⟨j, List.mem_filter.mpr ⟨List.mem_range.mpr hj, h⟩, rfl⟩
  cases h1 : xs.contains (j : Int) with
  | true => exact List.contains_iff_mem.mpr (this.mpr h1)
  | false =>
    cases h2 : (lst xs).contains (j : Int) with
    | false => rfl
    | true => rw [this.mp (List.contains_iff_mem.mp h2)] at h1; cases h1
theorem perm_listB {xs l : List Int} (h : ∀ b, inL l b ↔ inL (lst xs) b) : listB l = listB xs := by
  refine listB_cg (fun j hj => ?_)
  rw [← lst_cont xs hj]
  cases h1 : (lst xs).contains (j : Int) with
  | true => exact cont_inL.mpr ((h _).mpr (cont_inL.mp h1))
  | false =>
    cases h2 : l.contains (j : Int) with
    | false => rfl
    | true => rw [cont_inL.mpr ((h _).mp (cont_inL.mp h2))] at h1; cases h1
/-! lengths -/
def upB : Nat → List Nat
  | 0 => []
  | k + 1 => 1 :: 0 :: upB k
def dnB : Nat → List Nat
  | 0 => []
  | k + 1 => 1 :: 1 :: dnB k
theorem upB_len : ∀ k, (upB k).length = 2 * k
  | 0 => rfl
  | k + 1 => by simp [upB, upB_len k]; omega
theorem dnB_len : ∀ k, (dnB k).length = 2 * k
  | 0 => rfl
  | k + 1 => by simp [dnB, dnB_len k]; omega
theorem okB_up : ∀ k, okB (upB k)
  | 0 => fun b hb => by simp [upB] at hb
  | k + 1 => by
    intro b hb
    simp [upB] at hb
    rcases hb with rfl | rfl | hb
    · omega
    · omega
    · exact okB_up k b hb
theorem okB_dn : ∀ k, okB (dnB k)
  | 0 => fun b hb => by simp [dnB] at hb
  | k + 1 => by
    intro b hb
    simp [dnB] at hb
    rcases hb with rfl | hb
    · omega
    · exact okB_dn k b hb
def adjB (hd len : Int) : List Nat := upB (len - hd).toNat ++ (dnB (hd - len).toNat ++ [0])
def lenR (lg : Nat → Int) : Nat → Nat → Int → List Nat
  | 0, _, _ => []
  | k + 1, s, hd => adjB hd (lg s) ++ lenR lg k (s + 1) (lg s)
def lenB (lg : Nat → Int) (n : Nat) : List Nat := bitsV (lg 0) 4 ++ lenR lg n 0 (lg 0)
theorem okB_adj (hd len : Int) : okB (adjB hd len) := okB_app (okB_up _) (okB_app (okB_dn _) (fun b hb => by simp at hb; omega))
theorem okB_lenR (lg : Nat → Int) : ∀ k s hd, okB (lenR lg k s hd)
  | 0, _, _ => fun b hb => by simp [lenR] at hb
  | k + 1, s, hd => okB_app (okB_adj _ _) (okB_lenR lg k (s + 1) _)
theorem okB_lenB (lg : Nat → Int) (n : Nat) : okB (lenB lg n) := okB_app (okB_V _ _) (okB_lenR lg n 0 _)
theorem adjB_len {hd len : Int} (h1 : 1 ≤ hd ∧ hd ≤ 12) (h2 : 1 ≤ len ∧ len ≤ 12) : (adjB hd len).length ≤ 23 := by
  rw [adjB, List.length_append, List.length_append, upB_len, dnB_len]
  simp
  omega
theorem lenR_len {lg : Nat → Int} {n : Nat} (h : okLg lg n) : ∀ k s hd, s + k ≤ n → (1 ≤ hd ∧ hd ≤ 12) → (lenR lg k s hd).length ≤ 23 * k
  | 0, _, _, _, _ => by simp [lenR]
  | k + 1, s, hd, hs, hh => by
    have h1 := adjB_len hh (h s (by omega))
    have h2 := lenR_len h k (s + 1) (lg s) (by omega) (h s (by omega))
    rw [lenR, List.length_append]
    omega
theorem lenB_len {lg : Nat → Int} {n : Nat} (h : okLg lg n) (hn : 0 < n) : (lenB lg n).length ≤ 4 + 23 * n := by
  have := lenR_len h n 0 (lg 0) (by omega) (h 0 hn)
  rw [lenB, List.length_append, bitsF_len]
  omega
theorem lenR_cg {a b : Nat → Int} {n : Nat} (h : ∀ k : Nat, k < n → a k = b k) : ∀ k s hd, s + k ≤ n → lenR a k s hd = lenR b k s hd
  | 0, _, _, _ => rfl
  | k + 1, s, hd, hs => by rw [lenR, lenR, h s (by omega), lenR_cg h k (s + 1) _ (by omega)]
theorem lenB_cg {a b : Nat → Int} {n : Nat} (hn : 0 < n) (h : ∀ k : Nat, k < n → a k = b k) : lenB a n = lenB b n := by
  rw [lenB, lenB, h 0 hn, lenR_cg h n 0 _ (by omega)]
/-! codes -/
def codB (lg vl : Nat → Int) : List Int → List Nat
  | [] => []
  | s :: t => bitsV (vl s.toNat) (lg s.toNat).toNat ++ codB lg vl t
theorem okB_cod (lg vl : Nat → Int) : ∀ ss, okB (codB lg vl ss)
  | [] => fun b hb => by simp [codB] at hb
  | s :: t => okB_app (okB_V _ _) (okB_cod lg vl t)
def inS (ss : List Int) (n : Nat) : Prop := ∀ s ∈ ss, 0 ≤ s ∧ s < (n : Int)
theorem codB_len {lg vl : Nat → Int} {n : Nat} (h : okLg lg n) : ∀ ss, inS ss n → (codB lg vl ss).length ≤ 12 * ss.length
  | [], _ => by simp [codB]
  | s :: t, hs => by
    have h1 := codB_len (vl := vl) h t (fun x hx => hs x (List.mem_cons_of_mem _ hx))
    have h2 := hs s List.mem_cons_self
    have h3 := h s.toNat (by omega)
    rw [codB, List.length_append, bitsF_len, List.length_cons]
    omega
theorem codB_cg {a b u v : Nat → Int} {n : Nat} (h1 : ∀ k : Nat, k < n → a k = b k) (h2 : ∀ k : Nat, k < n → u k = v k) : ∀ ss, inS ss n → codB a u ss = codB b v ss
  | [], _ => rfl
  | s :: t, hs => by
    have h := hs s List.mem_cons_self
    rw [codB, codB, h1 _ (by omega), h2 _ (by omega), codB_cg h1 h2 t (fun x hx => hs x (List.mem_cons_of_mem _ hx))]
/-! symbols are below their number -/
theorem dgF_in : ∀ (f z : Nat), ∀ s ∈ dgF f z, 0 ≤ s ∧ s < 2
  | 0, _ => fun s hs => by simp [dgF] at hs
  | f + 1, z => by
    intro s hs
    rw [dgF] at hs
    split at hs
    · simp at hs
    · rcases List.mem_cons.mp hs with rfl | h
      · omega
      · exact dgF_in f _ s h
theorem syR_in {n : Nat} : ∀ (bs l : List Int) (z : Nat) (e : Int), (∀ b ∈ bs, inL l b) → l.length + 2 ≤ n → (0 ≤ e ∧ e < (n : Int)) → inS (syR bs l z e) n
  | [], l, z, e, _, hn, he => by
    intro s hs
    rw [syR] at hs
    rcases List.mem_append.mp hs with h | h
    · have := dgF_in _ _ s h
      omega
    · simp at h
      omega
  | b :: t, l, z, e, hb, hn, he => by
    have hf := fidx_lt l b (hb b List.mem_cons_self)
    intro s hs
    rw [syR] at hs
    split at hs
    · exact syR_in t l (z + 1) e (fun x hx => hb x (List.mem_cons_of_mem _ hx)) hn he s hs
    · rcases List.mem_append.mp hs with h | h
      · have := dgF_in _ _ s h
        omega
      · rcases List.mem_cons.mp h with rfl | h
        · omega
        · exact syR_in t _ 0 e (fun x hx => inL_mtf hf.1 (hb x (List.mem_cons_of_mem _ hx))) (by rw [mtf_len]; exact hn) he s h
theorem sy_in {xs : List Int} (hb : Bs xs) : inS (sy xs) ((lst xs).length + 2) := by
  refine syR_in xs _ 0 _ (fun b hbm => ?_) (Nat.le_refl _) (by omega)
  obtain ⟨j, hj, e⟩ := mem_inL hbm
  rw [← e]
  exact inL_lst hb hj
theorem syR_len : ∀ (bs l : List Int) (z : Nat) (e : Int), (syR bs l z e).length ≤ bs.length + z + 1
  | [], l, z, e => by
    have : (dg z).length ≤ z := dgF_len z z
    rw [syR, List.length_append]
    simp
    omega
  | b :: t, l, z, e => by
    have h0 : (dg z).length ≤ z := dgF_len z z
    rw [syR]
    split
    · have := syR_len t l (z + 1) e
      rw [List.length_cons]
      omega
    · have := syR_len t (mtf l (fidx l b)) 0 e
      rw [List.length_append, List.length_cons, List.length_cons]
      omega
theorem sy_len (xs : List Int) : (sy xs).length ≤ xs.length + 1 := syR_len xs _ 0 _
theorem okS_sy {xs : List Int} (hb : Bs xs) : okS (sy xs) := by
  intro i hi
  have h1 := sy_in hb ((sy xs).getD i 0) (inL_mem ⟨i, hi, rfl⟩)
  have h2 := lst_len xs
  omega
/-! the lengths of a row's symbols -/
def jT (ss : List Int) (n : Nat) : Nat := ((List.range 12).find? (fun j => (List.range n).all (fun k => decide (lenH (hv (wS ss) j) n k ≤ 12)))).getD 0
theorem gd_all {ss : List Int} {n j : Nat} : (List.range n).all (fun k => decide (lenH (hv (wS ss) j) n k ≤ 12)) = true ↔ gd (wS ss) n j := by
  rw [List.all_eq_true]
  constructor
  · intro h k hk
    exact of_decide_eq_true (h k (List.mem_range.mpr hk))
  · intro h k hk
    exact decide_eq_true (h k (List.mem_range.mp hk))
theorem jT_eq {ss : List Int} {n j : Nat} (hj : j < 12) (h1 : gd (wS ss) n j) (h2 : ∀ i : Nat, i < j → ¬ gd (wS ss) n i) : jT ss n = j := by
  unfold jT
  have : (List.range 12).find? (fun j => (List.range n).all (fun k => decide (lenH (hv (wS ss) j) n k ≤ 12))) = some j := by
    rw [List.find?_range_eq_some]
    refine ⟨gd_all.mpr h1, List.mem_range.mpr hj, fun i hi => ?_⟩
    have := h2 i hi
    rw [← gd_all] at this
    simpa using this
  rw [this]
  rfl
theorem wS_pos (ss : List Int) (k : Nat) : 1 ≤ wS ss k := by unfold wS; omega
theorem wS_le {ss : List Int} (h : ss.length ≤ 1024) (k : Nat) : wS ss k ≤ 1024 := by
  have : cE ss ss.length k ≤ ss.length := cnt_le _ _
  unfold wS
  omega
theorem jT_lt {ss : List Int} {n j : Nat} (hn : 0 < n) (hn2 : n ≤ 258) (hs : ss.length ≤ 1024) (h2 : ∀ i : Nat, i < j → ¬ gd (wS ss) n i) : j < 12 := by
  have h := gd_11 hn hn2 (fun k _ => wS_pos ss k) (fun k _ => wS_le hs k)
  by_cases w : 11 < j
  · exact absurd h (h2 11 w)
  · omega
def lgT (ss : List Int) (n k : Nat) : Int := lenH (hv (wS ss) (jT ss n)) n k
theorem codeV_cg {a b : Nat → Int} {n : Nat} (h : ∀ k : Nat, k < n → a k = b k) {s : Nat} (hs : s < n) : codeV a n s = codeV b n s := by
  have hc : ∀ (m : Nat) (c : Int), m ≤ n → nlc a m c = nlc b m c := fun m c hm => cnt_congr (fun i hi => by rw [h i (by omega)])
  have hvb : ∀ l : Nat, vb a n l = vb b n l := by
    intro l
    induction l with
    | zero => rfl
    | succ l ih => rw [vb, vb, ih, hc n _ (Nat.le_refl _)]
  rw [codeV, codeV, h s hs, hvb, hc s _ (by omega)]
theorem okLg_cg {a b : Nat → Int} {n : Nat} (h : ∀ k : Nat, k < n → a k = b k) (ha : okLg a n) : okLg b n := fun k hk => by rw [← h k hk]; exact ha k hk
theorem CdOK_T {ss : List Int} {n : Nat} {lg vl bl pl : Nat → Int} (hn : 0 < n) (hn2 : n ≤ 258) (hs : ss.length ≤ 1024) (h : CdOK ss n lg vl bl pl) : (∀ k : Nat, k < n → lg k = lgT ss n k) ∧ (∀ k : Nat, k < n → vl k = codeV (lgT ss n) n k) ∧ okLg (lgT ss n) n := by
  obtain ⟨j, h1, h2, h3, h4, h5, -⟩ := h
  have e := jT_eq (jT_lt hn hn2 hs h2) h1 h2
  have h6 : ∀ k : Nat, k < n → lg k = lgT ss n k := fun k hk => by rw [lgT, e]; exact h3 k hk
  exact ⟨h6, fun k hk => by rw [h5 k hk, codeV_cg h6 hk], okLg_cg h6 h4⟩
/-- a row's bits -/
def nT (ls : List Int) : Nat := (lst ls).length + 2
def lgR (ls : List Int) (k : Nat) : Int := lgT (sy ls) (nT ls) k
def vlR (ls : List Int) (k : Nat) : Int := codeV (lgR ls) (nT ls) k
def rowB (ls : List Int) : List Nat := listB ls ++ (lenB (lgR ls) (nT ls) ++ codB (lgR ls) (vlR ls) (sy ls))
theorem okB_row (ls : List Int) : okB (rowB ls) := okB_app (okB_list _) (okB_app (okB_lenB _ _) (okB_cod _ _ _))
/-- the stream of a packed row with its check, ahead of the filling bits -/
def strB (xs : List Int) (chk : Int) : List Nat := bitsV 21332 16 ++ (bitsV xs.length 16 ++ (bitsV (if xs.length = 0 then 0 else (plT xs 0 : Int)) 16 ++ (bitsV chk 32 ++ (if xs.length = 0 then [] else rowB (lastT xs)))))
theorem okB_str (xs : List Int) (chk : Int) : okB (strB xs chk) := by
  refine okB_app (okB_V _ _) (okB_app (okB_V _ _) (okB_app (okB_V _ _) (okB_app (okB_V _ _) ?_)))
  split
  · exact fun b hb => by simp at hb
  · exact okB_row _
def padN (B : List Nat) : Nat := (8 - (P0 B).2.2) % 8
def outT (xs : List Int) (chk : Int) : List Int := (P0 (strB xs chk ++ bitsV 0 (padN (strB xs chk)))).1
