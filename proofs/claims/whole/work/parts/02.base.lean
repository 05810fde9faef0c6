/-! THE BASE: an abstract heap (a list of cells; place 0 is the law's script), and a judgement over it that the kit's rows carry to the machine. -/
abbrev ax_C : Type := (Nat × vp_A) ⊕ (Nat × List Value)
abbrev ax_H : Type := List ax_C
abbrev ax_M : Type := MethodName × ByteArray × Nat × Option FieldType
abbrev ax_L : Type := List (Option Value)
def ax_ad (b base i : Nat) : Nat := match i with
  | 0 => b
  | j + 1 => base + j
def ax_v (b base : Nat) (v : Value) : Value := match v with
  | .ref i => .ref (ax_ad b base i)
  | .int x => .int x
  | .long x => .long x
  | .float x => .float x
  | .double x => .double x
  | .null => .null
  | .retAddr x => .retAddr x
theorem ax_v_cat (b base : Nat) (v : Value) : (ax_v b base v).category = v.category := by cases v <;> rfl
def ax_arr (b base : Nat) (a : vp_A) : vp_A := match a with
  | (n, .inl f) => (n, .inl f)
  | (n, .inr (.inl f)) => (n, .inr (.inl f))
  | (n, .inr (.inr (.inl f))) => (n, .inr (.inr (.inl f)))
  | (n, .inr (.inr (.inr (.inl f)))) => (n, .inr (.inr (.inr (.inl f))))
  | (n, .inr (.inr (.inr (.inr f)))) => (n, .inr (.inr (.inr (.inr (fun j => (f j).map (ax_ad b base))))))
def ax_e (b base : Nat) (tc : Nat → ClassId) (c : ax_C) : va_E := match c with
  | .inl a => .inl (tc a.1, ax_arr b base a.2)
  | .inr o => .inr (o.1, o.2.map (ax_v b base))
def ax_w (b base : Nat) (tc : Nat → ClassId) (h : ax_H) : va_W := (h.drop 1).mapIdx (fun i c => (base + i, ax_e b base tc c))
theorem ax_w_at {b base : Nat} {tc : Nat → ClassId} {h : ax_H} {i : Nat} : (ax_w b base tc h)[i]? = (h[i + 1]?).map (fun c => (base + i, ax_e b base tc c)) := by
  rw [ax_w, List.getElem?_mapIdx, List.getElem?_drop, Nat.add_comm 1 i]
theorem ax_w_len {b base : Nat} {tc : Nat → ClassId} {h : ax_H} : (ax_w b base tc h).length = h.length - 1 := by simp [ax_w]
theorem ax_w_set {b base : Nat} {tc : Nat → ClassId} {h : ax_H} {i : Nat} {c : ax_C} : ax_w b base tc (h.set (i + 1) c) = (ax_w b base tc h).set i (base + i, ax_e b base tc c) := by
  apply List.ext_getElem?
  intro j
  rw [ax_w_at, List.getElem?_set, List.getElem?_set, ax_w_len, ax_w_at]
  by_cases e : i = j
  · subst e
    by_cases hl : i + 1 < h.length
    · rw [if_pos rfl, if_pos hl, if_pos rfl, if_pos (by omega)]; rfl
    · rw [if_pos rfl, if_neg hl, if_pos rfl, if_neg (by omega)]; rfl
  · rw [if_neg (by omega), if_neg e]
theorem ax_w_push {b base : Nat} {tc : Nat → ClassId} {h : ax_H} {c : ax_C} (h1 : 1 ≤ h.length) : ax_w b base tc (h ++ [c]) = ax_w b base tc h ++ [(base + (h.length - 1), ax_e b base tc c)] := by
  apply List.ext_getElem?
  intro j
  rw [ax_w_at, List.getElem?_append, List.getElem?_append, ax_w_len]
  by_cases e : j + 1 < h.length
  · rw [if_pos e, if_pos (by omega), ax_w_at]
  · rw [if_neg e, if_neg (by omega)]
    by_cases e2 : j + 1 = h.length
    · have e3 : h.length - 1 = j := by omega
      rw [e3, show j + 1 - h.length = 0 by omega, Nat.sub_self]; rfl
    · rw [List.getElem?_eq_none (by simp; omega), List.getElem?_eq_none (by simp; omega)]; rfl
theorem ax_w_D {b base : Nat} {tc : Nat → ClassId} {h : ax_H} : va_D (fun q => base ≤ q) (ax_w b base tc h) := by
  refine ⟨fun i j x y hi hj hxy => ?_, fun k q hk => ?_⟩
  · rw [ax_w_at] at hi hj
    obtain ⟨c1, _, rfl⟩ := Option.map_eq_some_iff.mp hi
    obtain ⟨c2, _, rfl⟩ := Option.map_eq_some_iff.mp hj
    have : base + i = base + j := hxy
    omega
  · rw [ax_w_at] at hk
    obtain ⟨c1, _, rfl⟩ := Option.map_eq_some_iff.mp hk
    exact Nat.le_add_right _ _
def ax_n (c : ax_C) : Nat := match c with
  | .inl a => a.2.1
  | .inr o => o.2.length
def ax_sl (h : ax_H) : Nat := (h.map ax_n).sum
theorem ax_sl_push {h : ax_H} {c : ax_C} : ax_sl (h ++ [c]) = ax_sl h + ax_n c := by simp [ax_sl]
theorem ax_sl_set {h : ax_H} {a : Nat} {c c0 : ax_C} (ha : h[a]? = some c0) (e : ax_n c = ax_n c0) : ax_sl (h.set a c) = ax_sl h := by
  have key : (h.set a c).map ax_n = h.map ax_n := by
    apply List.ext_getElem?
    intro j
    rw [List.getElem?_map, List.getElem?_map, List.getElem?_set]
    by_cases hj : a = j
    · subst hj
      have hl := (List.getElem?_eq_some_iff.mp ha).1
      rw [if_pos rfl, if_pos hl, ha]
      simp [e]
    · rw [if_neg hj]
  rw [ax_sl, key, ax_sl]
/-! the tables' words -/
def ax_good (w : Cond) : Bool := (w.onTables && w.keeps) || (match w with
  | .arrayClass _ => true
  | _ => false)
def ax_all : List Cond := lw_tbl.filter ax_good
theorem ax_all_in {w : Cond} (h : w ∈ lw_tbl) (g : ax_good w = true) : w ∈ ax_all := List.mem_filter.mpr ⟨h, g⟩
theorem ax_all_good {w : Cond} (h : w ∈ ax_all) : (w.onTables && w.keeps) = true ∨ ∃ ty, w = .arrayClass ty := by
  have h2 := (List.mem_filter.mp h).2
  unfold ax_good at h2
  rcases Bool.or_eq_true_iff.mp h2 with h3 | h3
  · exact Or.inl h3
  · split at h3
    · exact Or.inr ⟨_, rfl⟩
    · cases h3
def ax_isN (w : Cond) : Bool := match w with
  | .fieldLinkNest _ _ _ _ _ _ => true
  | .methodLinkNest _ _ _ _ => true
  | _ => false
def ax_nest : List Cond := lw_tbl.filter ax_isN
theorem ax_nest_in {w : Cond} (h : w ∈ lw_tbl) (g : ax_isN w = true) : w ∈ ax_nest := List.mem_filter.mpr ⟨h, g⟩
theorem ax_nest_tab (w : Cond) (hw : w ∈ ax_nest) : w.onTables = true := by
  have h := (List.mem_filter.mp hw).2
  unfold ax_isN at h
  split at h
  · rfl
  · rfl
  · cases h
theorem ax_nest_warm (w : Cond) (hw : w ∈ ax_nest) {s U : State} (hW : s.WarmedH U.vm) (hZ : va_Nw w s) : va_Nw w U := by
  have h := (List.mem_filter.mp hw).2
  unfold ax_isN at h
  split at h
  · exact va_Nw.warmF hW hZ
  · exact va_Nw.warmM hW hZ
  · cases h
def ax_cd (M : ax_M) : Cond := .code M.1 M.2.1 M.2.2.1 M.2.2.2
def ax_ws (M : ax_M) : List Cond := ax_cd M :: ax_all
theorem ax_goodIn {N : ax_M} (hN : ax_cd N ∈ ax_all) : GoodIn ax_all (ax_ws N) := by
  intro w hw
  rcases List.mem_cons.mp hw with rfl | h
  · exact ⟨hN, ax_all_good hN⟩
  · exact ⟨h, ax_all_good h⟩
/-! the judgement -/
def ax_tys (tc : Nat → ClassId) : List (ClassId × FieldType) := ax_ty.mapIdx (fun i t => (tc i, t))
theorem ax_tys_at {tc : Nat → ClassId} {t0 : Nat} {ty : FieldType} (h : ax_ty[t0]? = some ty) : (ax_tys tc)[t0]? = some (tc t0, ty) := by
  rw [ax_tys, List.getElem?_mapIdx, h]; rfl
def ax_At (D : va_G) (tc : Nat → ClassId) (b base : Nat) (h : ax_H) (U : State) (H : Heap) : Prop :=
  va_P D vwCl (ax_w b base tc h) H ∧ H.size + 1 = base + h.length ∧ ∃ (L : Nat) (xs : Nat → Int32), h[0]? = some (.inl (0, L, .inl xs)) ∧ va_X b L xs U H
def ax_K (D : va_G) (tc : Nat → ClassId) (U : State) : Prop := va_K D vwCl (ax_tys tc) U ∧ ∀ w ∈ ax_nest, va_Nw w U
def ax_Cx (M : ax_M) (D : va_G) (tc : Nat → ClassId) (b base : Nat) (p : Program) (s : State) (m : MethodId) (args : Array Value) (meth : Method) (c : Code) : Prop :=
  p.tables.exec = Jvm.exec ∧ c.code = M.2.1 ∧ c.maxLocals = M.2.2.1 ∧ meth.sig.returnType = M.2.2.2 ∧ meth.locks = false ∧ (M.1.name = "<init>" → meth.name = "<init>") ∧ s.vm.findClass M.1.cls = some m.cls ∧ (∀ w ∈ ax_all, w.before args s = true) ∧ ax_K D tc s ∧ b < base
def ax_lv (b base : Nat) (ls : Array Slot) (n : Nat) (lv : ax_L) : Prop := ls.size = n ∧ lv_wf ls ∧ ∀ (i : Nat) (v : Value), lv[i]? = some (some v) → ls[i]? = some (.val (ax_v b base v))
def ax_mono (h h' : ax_H) : Prop := h.length ≤ h'.length ∧ ax_sl h ≤ ax_sl h'
theorem ax_mono.rf {h : ax_H} : ax_mono h h := ⟨Nat.le_refl _, Nat.le_refl _⟩
theorem ax_mono.tr {a b c : ax_H} (h1 : ax_mono a b) (h2 : ax_mono b c) : ax_mono a c := ⟨Nat.le_trans h1.1 h2.1, Nat.le_trans h1.2 h2.2⟩
def ax_R (R : Room) (d mc ms : Nat) : Prop := d ≤ R.frames ∧ 45 * d ≤ R.locals ∧ mc ≤ R.cells ∧ ms ≤ R.slots
def ax_Q (D : va_G) (tc : Nat → ClassId) (b base : Nat) (r : Option Value) (h' : ax_H) : Array Value → State → Outcome → State → Prop := fun _ st oc t =>
  oc = .returned (r.map (ax_v b base)) ∧ ax_At D tc b base h' t t.heap ∧ va_F (fun q => base ≤ q) st t
def ax_X (M : ax_M) (d pc : Nat) (lv : ax_L) (st : List Value) (h : ax_H) (r : Option Value) (h' : ax_H) : Prop :=
  ax_mono h h' ∧ ∀ (l : Launch) (D : va_G) (tc : Nat → ClassId) (b base : Nat) (p : Program) (e : Env) (R : Room) (s : State) (m : MethodId) (args : Array Value) (below : List Frame) (meth : Method) (c : Code), ax_Cx M D tc b base p s m args meth c →
    ∀ (H : Heap) (locs : List Loc) (ls : Array Slot) (cells slots : Nat), ax_R R d (cells + (h'.length - h.length)) (slots + (ax_sl h' - ax_sl h)) → ax_At D tc b base h s H → va_S (fun q => base ≤ q) s.heap H locs → ax_lv b base ls M.2.2.1 lv →
      W p l e R s m args below meth c H locs cells slots (MQ below (ax_Q D tc b base r h') args s (cells + (h'.length - h.length)) (slots + (ax_sl h' - ax_sl h)) (fun q => base ≤ q)) (F0 m pc ls (st.map (ax_v b base)))
def ax_W (M : ax_M) (d pc : Nat) (lv : ax_L) (st : List Value) (h : ax_H) (Q : Option Value → ax_H → Prop) : Prop := ∃ (r : Option Value) (h' : ax_H), Q r h' ∧ ax_X M d pc lv st h r h'
def ax_rm (d mc ms : Nat) : Room := { frames := d, cells := mc, slots := ms, locals := 45 * d }
def ax_Call (M : ax_M) (d : Nat) (av : List Value) (h : ax_H) (r : Option Value) (h' : ax_H) : Prop :=
  ax_mono h h' ∧ ∀ (l : Launch) (D : va_G) (tc : Nat → ClassId) (b base : Nat), b < base → Met l M.1 (ax_ws M) (ax_rm d (h'.length - h.length) (ax_sl h' - ax_sl h)) (va_Pc (av.map (ax_v b base)) (fun U => ax_At D tc b base h U U.heap ∧ ax_K D tc U)) (ax_Q D tc b base r h') (h'.length - h.length) (ax_sl h' - ax_sl h) (fun q => base ≤ q)
def ax_Cl (M : ax_M) (d : Nat) (av : List Value) (h : ax_H) (Q : Option Value → ax_H → Prop) : Prop := ∃ (r : Option Value) (h' : ax_H), Q r h' ∧ ax_Call M d av h r h'
theorem ax_Cl.mono {M : ax_M} {d : Nat} {av : List Value} {h : ax_H} {Q Q' : Option Value → ax_H → Prop} (k : ax_Cl M d av h Q) (f : ∀ r h', Q r h' → Q' r h') : ax_Cl M d av h Q' := by
  obtain ⟨r, h', q, c⟩ := k
  exact ⟨r, h', f r h' q, c⟩
theorem ax_W.mono {M : ax_M} {d pc : Nat} {lv : ax_L} {st : List Value} {h : ax_H} {Q Q' : Option Value → ax_H → Prop} (k : ax_W M d pc lv st h Q) (f : ∀ r h', Q r h' → Q' r h') : ax_W M d pc lv st h Q' := by
  obtain ⟨r, h', q, c⟩ := k
  exact ⟨r, h', f r h' q, c⟩
/-! a method's start -/
def ax_fl (av : List Value) : ax_L := av.flatMap (fun v => if v.category = 2 then [some v, none] else [some v])
def ax_l0 (n : Nat) (av : List Value) : ax_L := ax_fl av ++ List.replicate (n - (ax_fl av).length) none
theorem ax_sl_len (b base : Nat) (av : List Value) : (lg_sl (av.map (ax_v b base))).length = (ax_fl av).length := by
  induction av with
  | nil => rfl
  | cons v t ih =>
    have e1 : lg_sl ((v :: t).map (ax_v b base)) = (if (ax_v b base v).category = 2 then [Slot.val (ax_v b base v), Slot.second] else [Slot.val (ax_v b base v)]) ++ lg_sl (t.map (ax_v b base)) := by simp [lg_sl]
    have e2 : ax_fl (v :: t) = (if v.category = 2 then [some v, none] else [some v]) ++ ax_fl t := by simp [ax_fl]
    rw [e1, e2, List.length_append, List.length_append, ih, ax_v_cat]
    split <;> rfl
theorem ax_fl_args (b base : Nat) : ∀ (av : List Value) (k i : Nat) (v : Value), (ax_fl av)[i]? = some (some v) → (k + i, ax_v b base v) ∈ lv_args k (av.map (ax_v b base))
  | [], k, i, v, h => by simp [ax_fl] at h
  | w :: t, k, i, v, h => by
    have e2 : ax_fl (w :: t) = (if w.category = 2 then [some w, none] else [some w]) ++ ax_fl t := by simp [ax_fl]
    rw [e2] at h
    show _ ∈ (k, ax_v b base w) :: lv_args (if (ax_v b base w).category = 2 then k + 2 else k + 1) (t.map (ax_v b base))
    rw [ax_v_cat]
    by_cases hc : w.category = 2
    · rw [if_pos hc] at h ⊢
      match i, h with
      | 0, h => simp at h; subst h; exact List.mem_cons_self
      | 1, h => simp at h
      | i + 2, h =>
        have h' : (ax_fl t)[i]? = some (some v) := by simpa using h
        have := ax_fl_args b base t (k + 2) i v h'
        rw [show k + (i + 2) = k + 2 + i by omega]
        exact List.mem_cons_of_mem _ this
    · rw [if_neg hc] at h ⊢
      match i, h with
      | 0, h => simp at h; subst h; exact List.mem_cons_self
      | i + 1, h =>
        have h' : (ax_fl t)[i]? = some (some v) := by simpa using h
        have := ax_fl_args b base t (k + 1) i v h'
        rw [show k + (i + 1) = k + 1 + i by omega]
        exact List.mem_cons_of_mem _ this
theorem ax_lv_entry {b base n : Nat} {av : List Value} (hlen : (ax_fl av).length ≤ n) : ax_lv b base ((lg_sl (av.map (ax_v b base)) ++ List.replicate (n - (lg_sl (av.map (ax_v b base))).length) Slot.unset).toArray) n (ax_l0 n av) := by
  obtain ⟨h1, h2, h3⟩ := lv_entry (av.map (ax_v b base)) (n := n) (by rw [ax_sl_len]; exact hlen)
  refine ⟨h1, h2, fun i v hv => ?_⟩
  have hv' : (ax_fl av)[i]? = some (some v) := by
    unfold ax_l0 at hv
    rw [List.getElem?_append] at hv
    split at hv
    · exact hv
    · exfalso
      rw [List.getElem?_replicate] at hv
      split at hv <;> simp at hv
  have := ax_fl_args b base av 0 i v hv'
  rw [Nat.zero_add] at this
  exact h3 _ this
theorem ax_enter {M : ax_M} {d : Nat} {av : List Value} {h : ax_H} {Q : Option Value → ax_H → Prop} (lv : ax_L) (hlv : ax_l0 M.2.2.1 av = lv) (hlen : (ax_fl av).length ≤ M.2.2.1) (hpl : plainName M.1.cls = true)
    (k : ax_W M d 0 lv [] h Q) : ax_Cl M d av h Q := by
  obtain ⟨r, h', hq, hp, k⟩ := k
  subst hlv
  refine ⟨r, h', hq, hp, fun l D tc b base hbb => ?_⟩
  refine Met.ofW (cc := M.2.1) (maxL := M.2.2.1) (ret := M.2.2.2) hpl rfl ?_
  intro p e s m args below meth c s₁ B hml hv
  obtain ⟨rfl, hA, hK⟩ := hv
  rw [lg_entry_eq]
  have hts := atoms_spec (ws := ax_ws M) B.pre
  have := k l D tc b base p e (headSpec (ax_ws M) (ax_rm d (h'.length - h.length) (ax_sl h' - ax_sl h))).room s m _ below meth c ⟨B.exec, B.bytes, hml, B.returns, B.notSynchronized, fun hi => (name_of_methodNamed B.named B.method).1.trans hi, findClass_of_methodNamed B.named, fun w hw => hts w (List.mem_cons_of_mem _ hw), hK, hbb⟩ s.heap [] _ 0 0 ⟨Nat.le_refl _, Nat.le_refl _, by rw [Nat.zero_add]; exact Nat.le_refl _, by rw [Nat.zero_add]; exact Nat.le_refl _⟩ hA va_S.rf (ax_lv_entry hlen)
  rw [Nat.zero_add, Nat.zero_add] at this
  exact this
/-! a step that touches no cell -/
theorem ax_step {M : ax_M} {d pc pc' : Nat} {lv lv' : ax_L} {st st' : List Value} {h : ax_H} {Q : Option Value → ax_H → Prop}
    (f : ∀ (p : Program) (l : Launch) (e : Env) (R : Room) (s : State) (m : MethodId) (args : Array Value) (below : List Frame) (meth : Method) (c : Code) (H : Heap) (locs : List Loc) (cells slots : Nat) (Qs : State → Prop) (ls : Array Slot) (b base : Nat),
      p.tables.exec = Jvm.exec → c.code = M.2.1 → s.vm.findClass M.1.cls = some m.cls → (∀ w ∈ ax_all, w.before args s = true) → ax_lv b base ls M.2.2.1 lv →
      (∀ ls' : Array Slot, ax_lv b base ls' M.2.2.1 lv' → W p l e R s m args below meth c H locs cells slots Qs (F0 m pc' ls' (st'.map (ax_v b base)))) → W p l e R s m args below meth c H locs cells slots Qs (F0 m pc ls (st.map (ax_v b base))))
    (k : ax_W M d pc' lv' st' h Q) : ax_W M d pc lv st h Q := by
  obtain ⟨r, h', hq, hp, k⟩ := k
  refine ⟨r, h', hq, hp, fun l D tc b base p e R s m args below meth c C H locs ls cells slots hR hA hS hl => ?_⟩
  have C' := C
  obtain ⟨hx, hb, hml, hr, hlk, hnm, how, hts, hK, hbb⟩ := C
  exact f p l e R s m args below meth c H locs cells slots _ ls b base hx hb how hts hl (fun ls' hl' => k l D tc b base p e R s m args below meth c C' H locs ls' cells slots hR hA hS hl')
/-! locals -/
theorem ax_lv_at {b base n i : Nat} {ls : Array Slot} {lv : ax_L} {v : Value} (h : ax_lv b base ls n lv) (hv : lv[i]? = some (some v)) : ls[i]? = some (.val (ax_v b base v)) := h.2.2 i v hv
def ax_c2 (lv : ax_L) (i : Nat) : Bool := match i with
  | 0 => false
  | j + 1 => match lv[j]? with
    | some (some v) => v.category == 2
    | _ => false
def ax_as (b base : Nat) (lv : ax_L) : List (Nat × Value) := lv.zipIdx.filterMap (fun q => q.1.map (fun v => (q.2, ax_v b base v)))
theorem ax_as_mem {b base : Nat} {lv : ax_L} {q : Nat × Value} : q ∈ ax_as b base lv ↔ ∃ v, lv[q.1]? = some (some v) ∧ q.2 = ax_v b base v := by
  unfold ax_as
  rw [List.mem_filterMap]
  constructor
  · rintro ⟨⟨x, i⟩, hx, hq⟩
    have h1 : lv[i]? = some x := List.mem_zipIdx_iff_getElem?.mp hx
    cases x with
    | none => simp at hq
    | some v =>
      have hq' : (i, ax_v b base v) = q := by simpa using hq
      subst hq'
      exact ⟨v, h1, rfl⟩
  · rintro ⟨v, h1, h2⟩
    obtain ⟨i, w⟩ := q
    refine ⟨(some v, i), List.mem_zipIdx_iff_getElem?.mpr h1, ?_⟩
    have h2' : w = ax_v b base v := h2
    rw [h2']
    rfl
theorem ax_lv_has {b base n : Nat} {ls : Array Slot} {lv : ax_L} (h : ax_lv b base ls n lv) : lv_has ls n (ax_as b base lv) := by
  refine ⟨h.1, h.2.1, fun q hq => ?_⟩
  obtain ⟨v, h1, h2⟩ := ax_as_mem.mp hq
  rw [h2]
  exact h.2.2 _ v h1
theorem ax_lv_st1 {b base n i : Nat} {ls : Array Slot} {lv : ax_L} {v : Value} (hc2 : ax_c2 lv i = false) (h : lv_has ls n ((i, ax_v b base v) :: (ax_as b base lv).filter (fun q => !(q.1 == i) && !(q.1 + 1 == i && q.2.category == 2)))) : ax_lv b base ls n (lv.set i (some v)) := by
  refine ⟨h.1, h.2.1, fun j w hw => ?_⟩
  rw [List.getElem?_set] at hw
  by_cases e : i = j
  · subst e
    rw [if_pos rfl] at hw
    split at hw
    · cases hw
      exact h.2.2 _ List.mem_cons_self
    · cases hw
  · rw [if_neg e] at hw
    refine h.2.2 (j, ax_v b base w) (List.mem_cons_of_mem _ (List.mem_filter.mpr ⟨ax_as_mem.mpr ⟨w, hw, rfl⟩, ?_⟩))
    have e1 : (j == i) = false := by simpa using Ne.symm e
    have e2 : (j + 1 == i && (ax_v b base w).category == 2) = false := by
      by_cases e3 : j + 1 = i
      · subst e3
        have : (w.category == 2) = false := by simpa [ax_c2, hw] using hc2
        rw [ax_v_cat, this, Bool.and_false]
      · rw [show (j + 1 == i) = false by simpa using e3, Bool.false_and]
    show (!(j == i) && !(j + 1 == i && (ax_v b base w).category == 2)) = true
    rw [e1, e2]
    rfl
theorem ax_lv_st2 {b base n i : Nat} {ls : Array Slot} {lv : ax_L} {v : Value} (hc2 : ax_c2 lv i = false) (h : lv_has ls n ((i, ax_v b base v) :: (ax_as b base lv).filter (fun q => !(q.1 == i) && (!(q.1 == i + 1) && !(q.1 + 1 == i && q.2.category == 2))))) : ax_lv b base ls n ((lv.set i (some v)).set (i + 1) none) := by
  refine ⟨h.1, h.2.1, fun j w hw => ?_⟩
  rw [List.getElem?_set] at hw
  by_cases e0 : i + 1 = j
  · rw [if_pos e0] at hw
    split at hw <;> simp at hw
  rw [if_neg e0, List.getElem?_set] at hw
  by_cases e : i = j
  · subst e
    rw [if_pos rfl] at hw
    split at hw
    · cases hw
      exact h.2.2 _ List.mem_cons_self
    · cases hw
  · rw [if_neg e] at hw
    refine h.2.2 (j, ax_v b base w) (List.mem_cons_of_mem _ (List.mem_filter.mpr ⟨ax_as_mem.mpr ⟨w, hw, rfl⟩, ?_⟩))
    have e1 : (j == i) = false := by simpa using Ne.symm e
    have e4 : (j == i + 1) = false := by simpa using Ne.symm e0
    have e2 : (j + 1 == i && (ax_v b base w).category == 2) = false := by
      by_cases e3 : j + 1 = i
      · subst e3
        have : (w.category == 2) = false := by simpa [ax_c2, hw] using hc2
        rw [ax_v_cat, this, Bool.and_false]
      · rw [show (j + 1 == i) = false by simpa using e3, Bool.false_and]
    show (!(j == i) && (!(j == i + 1) && !(j + 1 == i && (ax_v b base w).category == 2))) = true
    rw [e1, e2, e4]
    rfl
