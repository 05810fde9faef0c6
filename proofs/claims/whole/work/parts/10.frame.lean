/-! frames and known cells -/
def Fr (S : List Nat) (h h' : ax_H) : Prop := h'.length = h.length ∧ ax_sl h' = ax_sl h ∧ ∀ x : Nat, S.contains x = false → h'[x]? = h[x]?
theorem Fr.rf {S : List Nat} {h : ax_H} : Fr S h h := ⟨rfl, rfl, fun _ _ => rfl⟩
theorem Fr.tr {S : List Nat} {a b c : ax_H} (h1 : Fr S a b) (h2 : Fr S b c) : Fr S a c := ⟨h2.1.trans h1.1, h2.2.1.trans h1.2.1, fun x hx => (h2.2.2 x hx).trans (h1.2.2 x hx)⟩
theorem Fr.wide {S S' : List Nat} {a b : ax_H} (h1 : Fr S a b) (hs : S.all (fun x => S'.contains x) = true) : Fr S' a b := by
  refine ⟨h1.1, h1.2.1, fun x hx => h1.2.2 x ?_⟩
  cases hc : S.contains x with
  | false => rfl
  | true =>
    have h2 : x ∈ S := List.contains_iff_mem.mp hc
    have h3 := List.all_eq_true.mp hs x h2
    rw [hx] at h3
    cases h3
theorem Fr.st {S : List Nat} {h0 h : ax_H} {a : Nat} {c c0 : ax_C} (hF : Fr S h0 h) (haS : S.contains a = true) (ha : h[a]? = some c0) (e : ax_n c = ax_n c0) : Fr S h0 (h.set a c) := by
  refine ⟨by rw [List.length_set]; exact hF.1, (ax_sl_set ha e).trans hF.2.1, fun x hx => ?_⟩
  have hne : a ≠ x := by
    intro q
    rw [q, hx] at haS
    cases haS
  rw [List.getElem?_set_ne hne]
  exact hF.2.2 x hx
def Hs (h : ax_H) (L : List (Nat × ax_C)) : Prop := (∀ (i a : Nat) (c : ax_C), L[i]? = some (a, c) → h[a]? = some c) ∧ ∀ (i j a : Nat) (c c' : ax_C), L[i]? = some (a, c) → L[j]? = some (a, c') → i = j
theorem Hs.g {h : ax_H} {L : List (Nat × ax_C)} {a : Nat} {c : ax_C} (hH : Hs h L) (i : Nat) (e : L[i]? = some (a, c)) : h[a]? = some c := hH.1 i a c e
theorem Hs.n {h : ax_H} : Hs h [] := ⟨fun i a c e => by simp at e, fun i j a c c' e => by simp at e⟩
theorem Hs.c {h : ax_H} {L : List (Nat × ax_C)} {a : Nat} {c : ax_C} (ha : h[a]? = some c) (hn : (L.map Prod.fst).contains a = false) (hH : Hs h L) : Hs h ((a, c) :: L) := by
  have key : ∀ (j : Nat) (c' : ax_C), L[j]? ≠ some (a, c') := by
    intro j c' e
    have : a ∈ L.map Prod.fst := List.mem_map.mpr ⟨(a, c'), List.mem_of_getElem? e, rfl⟩
    rw [List.contains_iff_mem.mpr this] at hn
    cases hn
  refine ⟨fun i b c' e => ?_, fun i j b c1 c2 e1 e2 => ?_⟩
  · cases i with
    | zero => rw [List.getElem?_cons_zero] at e; cases e; exact ha
    | succ i => rw [List.getElem?_cons_succ] at e; exact hH.1 i b c' e
  · cases i with
    | zero =>
      rw [List.getElem?_cons_zero] at e1
      cases e1
      cases j with
      | zero => rfl
      | succ j => rw [List.getElem?_cons_succ] at e2; exact absurd e2 (key j _)
    | succ i =>
      rw [List.getElem?_cons_succ] at e1
      cases j with
      | zero => rw [List.getElem?_cons_zero] at e2; cases e2; exact absurd e1 (key i _)
      | succ j => rw [List.getElem?_cons_succ] at e2; rw [hH.2 i j b c1 c2 e1 e2]
theorem Hs.s {h : ax_H} {L : List (Nat × ax_C)} {a : Nat} {c0 : ax_C} (hH : Hs h L) (i : Nat) (e : L[i]? = some (a, c0)) (c : ax_C) : Hs (h.set a c) (L.set i (a, c)) := by
  have hl := (List.getElem?_eq_some_iff.mp e).1
  have hla := (List.getElem?_eq_some_iff.mp (hH.1 i a c0 e)).1
  have key : ∀ (j b : Nat) (c' : ax_C), (L.set i (a, c))[j]? = some (b, c') → ∃ c'', L[j]? = some (b, c'') ∧ (j = i → b = a ∧ c' = c) ∧ (j ≠ i → c'' = c') := by
    intro j b c' e'
    rw [List.getElem?_set] at e'
    by_cases hj : i = j
    · subst hj
      rw [if_pos rfl, if_pos hl] at e'
      cases e'
      exact ⟨c0, e, fun _ => ⟨rfl, rfl⟩, fun q => absurd rfl q⟩
    · rw [if_neg hj] at e'
      exact ⟨c', e', fun q => absurd q.symm hj, fun _ => rfl⟩
  refine ⟨fun j b c' e' => ?_, fun j k b c1 c2 e1 e2 => ?_⟩
  · obtain ⟨c'', h1, h2, h3⟩ := key j b c' e'
    by_cases hj : j = i
    · obtain ⟨rfl, rfl⟩ := h2 hj
      rw [List.getElem?_set_self hla]
    · have hb : a ≠ b := fun q => by
        subst q
        exact hj (hH.2 j i a c'' c0 h1 e)
      rw [List.getElem?_set_ne hb]
      rw [← h3 hj]
      exact hH.1 j b c'' h1
  · obtain ⟨c1', h1, -⟩ := key j b c1 e1
    obtain ⟨c2', h2, -⟩ := key k b c2 e2
    exact hH.2 j k b c1' c2' h1 h2
theorem Hs.fr {h h1 : ax_H} {S : List Nat} {L : List (Nat × ax_C)} (hH : Hs h L) (hF : Fr S h h1) (hd : (L.map Prod.fst).all (fun a => !S.contains a) = true) : Hs h1 L := by
  refine ⟨fun i a c e => ?_, hH.2⟩
  have h2 := List.all_eq_true.mp hd a (List.mem_map.mpr ⟨(a, c), List.mem_of_getElem? e, rfl⟩)
  rw [hF.2.2 a (by simpa using h2)]
  exact hH.1 i a c e
section AXF
variable {M : ax_M} {d pc : Nat} {lv : ax_L} {st : List Value} {h h0 : ax_H} {Q : Option Value → ax_H → Prop} {S : List Nat} {L : List (Nat × ax_C)}
theorem ah_iast {a n : Nat} {g : Nat → Int} {z x : Int} (hd : decode M.2.1 pc = .ok (.iastore, 1)) (hH : Hs h L) (hF : Fr S h0 h) (i : Nat) (e : L[i]? = some (a, ia n g)) (haS : S.contains a = true) (ha0 : 0 < a) (hz0 : 0 ≤ z) (hz1 : z < n) (hn : n ≤ 100000000)
    (kk : ∀ h1 : ax_H, Hs h1 (L.set i (a, ia n (up g z.toNat x))) → Fr S h0 h1 → ax_W M d (pc + 1) lv st h1 Q) : ax_W M d pc lv (.int (iv x) :: .int (iv z) :: .ref a :: st) h Q :=
  az_iast hd (hH.g i e) ha0 hz0 hz1 hn (kk _ (hH.s i e _) (hF.st haS (hH.g i e) rfl))
theorem ah_put {ci a k idx : Nat} {ty : FieldType} {fs : List Value} {v : Value} (hd : decode M.2.1 pc = .ok (.putfield idx, 3)) (hP : ax_FP M.1.cls idx ci k ty) (hH : Hs h L) (hF : Fr S h0 h) (i : Nat) (e : L[i]? = some (a, ob ci fs)) (haS : S.contains a = true) (hn : narrow ty v = v) (hfit : fits ty v = true) (hlf : k < fs.length)
    (kk : ∀ h1 : ax_H, Hs h1 (L.set i (a, ob ci (fs.set k v))) → Fr S h0 h1 → ax_W M d (pc + 3) lv st h1 Q) : ax_W M d pc lv (v :: .ref a :: st) h Q :=
  ax_put hd hP (hH.g i e) hn hfit hlf (kk _ (hH.s i e _) (hF.st haS (hH.g i e) (by simp [ax_n])))
end AXF
/-! contracts by what they answer -/
def bz (b : Bool) : Int := if b = true then 1 else 0
def ax_Ci (N : ax_M) (d : Nat) (av : List Value) (h : ax_H) (P : Int → ax_H → Prop) : Prop := ax_Cl N d av h (fun r h1 => ∃ z : Int, r = some (.int (iv z)) ∧ P z h1)
def ax_Cz (N : ax_M) (d : Nat) (av : List Value) (h : ax_H) (P : Bool → ax_H → Prop) : Prop := ax_Cl N d av h (fun r h1 => ∃ b : Bool, r = some (.int (iv (bz b))) ∧ P b h1)
def ax_Cv (N : ax_M) (d : Nat) (av : List Value) (h : ax_H) (P : ax_H → Prop) : Prop := ax_Cl N d av h (fun r h1 => r = none ∧ P h1)
section AXK
variable {M N : ax_M} {d d' pc : Nat} {lv : ax_L} {st av : List Value} {h : ax_H} {Q : Option Value → ax_H → Prop}
theorem cm_i {P : Int → ax_H → Prop} (k : ax_Ci N d' av h P) (f : ∀ (z : Int) (h1 : ax_H), P z h1 → ax_W M d pc lv (.int (iv z) :: st) h1 Q) : ax_Cl N d' av h (fun r h1 => ax_W M d pc lv (r.toList ++ st) h1 Q) :=
  ax_Cl.mono k (fun r h1 hp => by obtain ⟨z, rfl, hp⟩ := hp; exact f z h1 hp)
theorem cm_z {P : Bool → ax_H → Prop} (k : ax_Cz N d' av h P) (f : ∀ (b : Bool) (h1 : ax_H), P b h1 → ax_W M d pc lv (.int (iv (bz b)) :: st) h1 Q) : ax_Cl N d' av h (fun r h1 => ax_W M d pc lv (r.toList ++ st) h1 Q) :=
  ax_Cl.mono k (fun r h1 hp => by obtain ⟨z, rfl, hp⟩ := hp; exact f z h1 hp)
theorem cm_v {P : ax_H → Prop} (k : ax_Cv N d' av h P) (f : ∀ h1 : ax_H, P h1 → ax_W M d pc lv st h1 Q) : ax_Cl N d' av h (fun r h1 => ax_W M d pc lv (r.toList ++ st) h1 Q) :=
  ax_Cl.mono k (fun r h1 hp => by obtain ⟨rfl, hp⟩ := hp; exact f h1 hp)
end AXK
theorem bz_eq (b : Bool) : bz b = 0 ∨ bz b = 1 := by cases b <;> simp [bz]
theorem bz_t {b : Bool} (h : bz b ≠ 0) : b = true := by cases b <;> simp_all [bz]
theorem bz_f {b : Bool} (h : bz b = 0) : b = false := by cases b <;> simp_all [bz]
theorem bz_in (b : Bool) : -2147483648 ≤ bz b ∧ bz b < 2147483648 := by cases b <;> simp [bz]
