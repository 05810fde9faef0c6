/-! rules that touch cells: reads, writes, new cells, calls, returns -/
def ax_cls (ci : Nat) (C : String) (T : u_T) (N : Nat) : Prop := vwCl[ci]? = some (C, T, N) ∧ ∀ w ∈ u_ws C T N, w ∈ ax_all
def ax_fL (own : String) (idx : Nat) (f : String × String × String × Bool) : Prop := Cond.fieldLink own idx f.1 f.2.1 f.2.2.1 ∈ ax_all ∨ ∃ host, Cond.fieldLinkNest own idx f.1 f.2.1 f.2.2.1 host ∈ ax_nest
/-- the pool's field idx in class own is field k of class ci -/
def ax_FG (own : String) (idx ci k : Nat) : Prop := ∃ (C : String) (T : u_T) (N : Nat), ax_cls ci C T N ∧ k < N ∧ ax_fL own idx (T k)
def ax_tyN (T : u_T) (N : Nat) (ty0 : Nat → FieldType) : Prop := (∀ k, k < N → parseFieldDescriptor (T k).2.2.1 = some (ty0 k)) ∧ ∀ a, a < N → ∀ b, b < N → a ≠ b → (T a).2.1 ≠ (T b).2.1
def ax_FP (own : String) (idx ci k : Nat) (ty : FieldType) : Prop := ∃ (C : String) (T : u_T) (N : Nat) (ty0 : Nat → FieldType), ax_cls ci C T N ∧ k < N ∧ ax_fL own idx (T k) ∧ ax_tyN T N ty0 ∧ (T k).2.2.2 = false ∧ parseFieldDescriptor (T k).2.2.1 = some ty
def ax_FF (own : String) (idx ci k : Nat) (ty : FieldType) : Prop := ∃ (C : String) (T : u_T) (N : Nat) (ty0 : Nat → FieldType), ax_cls ci C T N ∧ k < N ∧ Cond.fieldLink own idx (T k).1 (T k).2.1 (T k).2.2.1 ∈ ax_all ∧ ax_tyN T N ty0 ∧ (T k).2.2.2 = true ∧ (T k).1 = own ∧ parseFieldDescriptor (T k).2.2.1 = some ty
theorem ax_narrow {ty : FieldType} {v : Value} (b base : Nat) (h : narrow ty v = v) : narrow ty (ax_v b base v) = ax_v b base v := by
  cases v with
  | ref a => cases ty <;> rfl
  | _ => exact h
theorem ax_fits {ty : FieldType} {v : Value} (b base : Nat) (h : fits ty v = true) : fits ty (ax_v b base v) = true := by
  cases v with
  | ref a => cases ty <;> first | rfl | cases h
  | _ => exact h
theorem ax_pos {D : va_G} {tc : Nat → ClassId} {b base : Nat} {h : ax_H} {U : State} {H : Heap} {a : Nat} {o : Nat × List Value} (hA : ax_At D tc b base h U H) (ha : h[a]? = some (.inr o)) : ∃ i, a = i + 1 := by
  obtain ⟨-, -, L, xs, h0, -⟩ := hA
  cases a with
  | zero => rw [h0] at ha; cases ha
  | succ i => exact ⟨i, rfl⟩
theorem ax_stepH {M : ax_M} {d pc pc' : Nat} {lv : ax_L} {st st' : List Value} {h h2 : ax_H} {Q : Option Value → ax_H → Prop} (e1 : h2.length = h.length) (e2 : ax_sl h2 = ax_sl h)
    (f : ∀ (p : Program) (l : Launch) (e : Env) (R : Room) (s : State) (m : MethodId) (args : Array Value) (below : List Frame) (meth : Method) (c : Code) (H : Heap) (locs : List Loc) (cells slots : Nat) (Qs : State → Prop) (ls : Array Slot) (b base : Nat) (D : va_G) (tc : Nat → ClassId),
      ax_Cx M D tc b base p s m args meth c → ax_R R d cells slots → ax_At D tc b base h s H → va_S (fun q => base ≤ q) s.heap H locs → ls.size = M.2.2.1 →
      (∀ (H2 : Heap) (locs2 : List Loc), ax_At D tc b base h2 s H2 → va_S (fun q => base ≤ q) s.heap H2 locs2 → W p l e R s m args below meth c H2 locs2 cells slots Qs (F0 m pc' ls (st'.map (ax_v b base)))) → W p l e R s m args below meth c H locs cells slots Qs (F0 m pc ls (st.map (ax_v b base))))
    (k : ax_W M d pc' lv st' h2 Q) : ax_W M d pc lv st h Q := by
  obtain ⟨r, h', hq, ⟨m1, m2⟩, k⟩ := k
  rw [e1] at m1
  rw [e2] at m2
  refine ⟨r, h', hq, ⟨m1, m2⟩, fun l D tc b base p e R s m args below meth c C H locs ls cells slots hR hA hS hl => ?_⟩
  refine f p l e R s m args below meth c H locs cells slots _ ls b base D tc C ⟨hR.1, hR.2.1, Nat.le_trans (Nat.le_add_right _ _) hR.2.2.1, Nat.le_trans (Nat.le_add_right _ _) hR.2.2.2⟩ hA hS hl.1 (fun H2 locs2 hA2 hS2 => ?_)
  have := k l D tc b base p e R s m args below meth c C H2 locs2 ls cells slots (by rw [e1, e2]; exact hR) hA2 hS2 hl
  rw [e1, e2] at this
  exact this
section AXH
variable {M : ax_M} {d pc : Nat} {lv : ax_L} {st : List Value} {h : ax_H} {Q : Option Value → ax_H → Prop}
theorem ax_get {ci a k idx : Nat} {fs : List Value} {v : Value} (hd : decode M.2.1 pc = .ok (.getfield idx, 3)) (hF : ax_FG M.1.cls idx ci k) (ha : h[a]? = some (.inr (ci, fs))) (hv : fs[k]? = some v) (kk : ax_W M d (pc + 3) lv (v :: st) h Q) : ax_W M d pc lv (.ref a :: st) h Q := by
  refine ax_stepH rfl rfl (fun p l e R s m args below meth c H locs cells slots Qs ls b base D tc C hR hA hS hl kk => ?_) kk
  obtain ⟨hx, hb, hml, hr, hlk, hnm, how, hts, hK, hbb⟩ := C
  have kk := kk H locs hA hS
  obtain ⟨C, T, N, ⟨hci, hin⟩, hk, hF⟩ := hF
  obtain ⟨i, rfl⟩ := ax_pos hA ha
  have hw : (ax_w b base tc h)[i]? = some (base + i, .inr (ci, fs.map (ax_v b base))) := by rw [ax_w_at, ha]; rfl
  have hv' : (fs.map (ax_v b base))[k]? = some (ax_v b base v) := by rw [List.getElem?_map, hv]; rfl
  rcases hF with hF | ⟨host, hF⟩
  · exact va_get (ref := (T k).1) hx hb hts hin how hK.1 hA.1 i hw hci k hk (hts _ hF) (fun _ h9 => h9) hv' hd kk
  · exact va_getN (ref := (T k).1) (host := host) hx hb hts hin how hK.1 hA.1 i hw hci k hk (va_Nw.use (ax_nest_tab _ hF) (hK.2 _ hF)) (fun _ h9 => h9) hv' hd kk
/-- behind a write to a cell -/
theorem ax_wrote {D : va_G} {tc : Nat → ClassId} {b base i : Nat} {s : State} {H H1 : Heap} {c0 c1 : ax_C} (hA : ax_At D tc b base h s H) (hbb : b < base) (ha : h[i + 1]? = some c0) (he : va_at D vwCl (base + i, ax_e b base tc c1) H1) (z : H1.size = H.size) (oq : ∀ q, q ≠ base + i → H1[q]? = H[q]?) : ax_At D tc b base (h.set (i + 1) c1) s H1 := by
  have hw : (ax_w b base tc h)[i]? = some (base + i, ax_e b base tc c0) := by rw [ax_w_at, ha]; rfl
  obtain ⟨hP, hz, L, xs, h0, hX⟩ := hA
  refine ⟨?_, by rw [z, List.length_set]; exact hz, L, xs, ?_, hX.kept (oq b (by omega))⟩
  · rw [ax_w_set]
    exact hP.set ax_w_D hw he oq
  · rw [List.getElem?_set_ne (by omega)]
    exact h0
theorem ax_put {ci a k idx : Nat} {ty : FieldType} {fs : List Value} {v : Value} (hd : decode M.2.1 pc = .ok (.putfield idx, 3)) (hF : ax_FP M.1.cls idx ci k ty) (ha : h[a]? = some (.inr (ci, fs))) (hn : narrow ty v = v) (hfit : fits ty v = true) (hlf : k < fs.length) (kk : ax_W M d (pc + 3) lv st (h.set a (.inr (ci, fs.set k v))) Q) : ax_W M d pc lv (v :: .ref a :: st) h Q := by
  refine ax_stepH (by rw [List.length_set]) (ax_sl_set ha (by simp [ax_n])) (fun p l e R s m args below meth c H locs cells slots Qs ls b base D tc C hR hA hS hl kk => ?_) kk
  obtain ⟨hx, hb, hml, hr, hlk, hnm, how, hts, hK, hbb⟩ := C
  obtain ⟨C, T, N, ty0, ⟨hci, hin⟩, hk, hF, ⟨hty, hnn⟩, hfin, hdsc⟩ := hF
  obtain ⟨i, rfl⟩ := ax_pos hA ha
  have hw : (ax_w b base tc h)[i]? = some (base + i, .inr (ci, fs.map (ax_v b base))) := by rw [ax_w_at, ha]; rfl
  have hap := va_apart (own := M.1.cls) hts hin ty0 hty hnn hK.1 hci
  obtain ⟨rr, h1, cell, q1, q2, q3, q4⟩ := hA.1 i _ hw
  have hrr : rr = (C, T, N) := Option.some.inj (h1.symm.trans hci)
  subst hrr
  obtain ⟨hSl, hfc, kC, hkC, hkind⟩ := hK.1.1 ci _ hci
  obtain ⟨cf, kf, fi, f, hi, hsl⟩ := hSl k hk
  have hlay := hts _ (hin _ (u_in_lay hk))
  unfold u_lay at hlay
  rw [if_neg (by rw [hfin]; decide)] at hlay
  have hst := (u_facts hfc hkC (u_lays hts hin hk) hi).1
  have h6 := u_store hfc hkC hkind hlay hi hdsc (ax_narrow b base hn) (ax_fits b base hfit)
  have fin : ∀ H' : Heap, H'[base + i]? = some (cell.setSlot f.slot (ax_v b base v)) → H'.size = H.size → (∀ q, q ≠ base + i → H'[q]? = H[q]?) → W p l e R s m args below meth c H' (locs ++ [⟨base + i, f.slot⟩]) cells slots Qs (F0 m (pc + 3) ls (st.map (ax_v b base))) := by
    intro H' e1 e2 e3
    refine kk H' _ (ax_wrote hA hbb ha ?_ e2 e3) (hS.put e2 e3 (Nat.le_add_right _ _))
    rw [hsl] at e1
    refine ⟨_, hci, t_OB.to (V := updV (vp_V (fs.map (ax_v b base))) k (ax_v b base v)) ⟨_, e1, q2, q3, t_set q4 hap hk (ax_v b base v)⟩ (fun j _ => ?_)⟩
    rw [vp_updV_set (by rw [List.length_map]; exact hlf), List.map_set]
  rcases hF with hF | ⟨host, hF⟩
  · exact W.putK hx hb (f := f) ⟨how, hts _ hF, ⟨_, _, _, hi⟩, hst⟩ (by rw [q2]; exact h6) q1 q3 (by rw [hsl]; exact k2_hasslot (q4 k hk)) rfl rfl hd fin
  · exact va_WputK hx hb (f := f) how (va_Nw.use (ax_nest_tab _ hF) (hK.2 _ hF)) hi hst (by rw [q2]; exact h6) q1 q3 (by rw [hsl]; exact k2_hasslot (q4 k hk)) rfl rfl hd fin
theorem ax_putF {ci a k idx : Nat} {ty : FieldType} {fs : List Value} {v : Value} (hd : decode M.2.1 pc = .ok (.putfield idx, 3)) (hF : ax_FF M.1.cls idx ci k ty) (hini : M.1.name = "<init>") (ha : h[a]? = some (.inr (ci, fs))) (hn : narrow ty v = v) (hfit : fits ty v = true) (hlf : k < fs.length) (kk : ax_W M d (pc + 3) lv st (h.set a (.inr (ci, fs.set k v))) Q) : ax_W M d pc lv (v :: .ref a :: st) h Q := by
  refine ax_stepH (by rw [List.length_set]) (ax_sl_set ha (by simp [ax_n])) (fun p l e R s m args below meth c H locs cells slots Qs ls b base D tc C hR hA hS hl kk => ?_) kk
  obtain ⟨hx, hb, hml, hr, hlk, hnm, how, hts, hK, hbb⟩ := C
  obtain ⟨C, T, N, ty0, ⟨hci, hin⟩, hk, hF, ⟨hty, hnn⟩, hfin, hdecl, hdsc⟩ := hF
  obtain ⟨i, rfl⟩ := ax_pos hA ha
  have hw : (ax_w b base tc h)[i]? = some (base + i, .inr (ci, fs.map (ax_v b base))) := by rw [ax_w_at, ha]; rfl
  have hap := va_apart (own := M.1.cls) hts hin ty0 hty hnn hK.1 hci
  obtain ⟨rr, h1, cell, q1, q2, q3, q4⟩ := hA.1 i _ hw
  have hrr : rr = (C, T, N) := Option.some.inj (h1.symm.trans hci)
  subst hrr
  obtain ⟨hSl, hfc, kC, hkC, hkind⟩ := hK.1.1 ci _ hci
  obtain ⟨cf, kf, fi, f, hi, hsl⟩ := hSl k hk
  have hlay := hts _ (hin _ (u_in_lay hk))
  unfold u_lay at hlay
  rw [if_pos hfin] at hlay
  have hst := (u_facts hfc hkC (u_lays hts hin hk) hi).1
  have hcf : m.cls = cf := by
    obtain ⟨_, _, c', _, _, _, -, -, hf', -, -, -, hown2, -⟩ := Cond.laysFinal_spec hlay
    have e1 : c' = cf := by have := hi.symm.trans hf'; simp at this; exact this.1.symm
    rw [hdecl] at hown2
    rw [← e1]; exact Option.some.inj (how.symm.trans hown2)
  have h6 := u_fits hfc hkC hkind (Or.inr hlay) hi hdsc (ax_narrow b base hn) (ax_fits b base hfit)
  refine W.putFinK hx hb how (hts _ hF) hi hst hcf (hnm hini) (by rw [q2]; exact h6) q1 q3 (by rw [hsl]; exact k2_hasslot (q4 k hk)) rfl rfl hd fun H' e1 e2 e3 => ?_
  refine kk H' _ (ax_wrote hA hbb ha ?_ e2 e3) (hS.put e2 e3 (Nat.le_add_right _ _))
  rw [hsl] at e1
  refine ⟨_, hci, t_OB.to (V := updV (vp_V (fs.map (ax_v b base))) k (ax_v b base v)) ⟨_, e1, q2, q3, t_set q4 hap hk (ax_v b base v)⟩ (fun j _ => ?_)⟩
  rw [vp_updV_set (by rw [List.length_map]; exact hlf), List.map_set]
theorem ax_iald {a n : Nat} {f : Nat → Int32} {i : Int32} (hd : decode M.2.1 pc = .ok (.iaload, 1)) (ha : h[a]? = some (.inl (0, n, .inl f))) (hin : vp_in i n) (kk : ax_W M d (pc + 1) lv (.int (f i.toNatClampNeg) :: st) h Q) : ax_W M d pc lv (.int i :: .ref a :: st) h Q := by
  refine ax_stepH rfl rfl (fun p l e R s m args below meth c H locs cells slots Qs ls b base D tc C hR hA hS hl kk => ?_) kk
  obtain ⟨hx, hb, hml, hr, hlk, hnm, how, hts, hK, hbb⟩ := C
  have kk := kk H locs hA hS
  cases a with
  | zero =>
    obtain ⟨-, -, L, xs, h0, scr, h1, h2, h3, h4, h5⟩ := hA
    rw [h0] at ha
    cases ha
    have hlt : i.toNatClampNeg < n := Nat.not_le.mp fun q => hin (Or.inr q)
    exact W.iald (v := .int (f i.toNatClampNeg)) hx hb h1 h2 h3 (by rw [h4]; exact hin) (h5 _ hlt) rfl rfl hd kk
  | succ a =>
    have hw : (ax_w b base tc h)[a]? = some (base + a, .inl (tc 0, n, .inl f)) := by rw [ax_w_at, ha]; rfl
    exact va_iald hx hb hK.1 hA.1 a 0 hw (ax_tys_at rfl) hin hd kk
theorem ax_alen {a t n : Nat} {f : Nat → Int32} {ty : FieldType} (hd : decode M.2.1 pc = .ok (.arraylength, 1)) (ha : h[a]? = some (.inl (t, n, .inl f))) (ht : ax_ty[t]? = some ty) (kk : ax_W M d (pc + 1) lv (.int (Int32.ofNat n) :: st) h Q) : ax_W M d pc lv (.ref a :: st) h Q := by
  refine ax_stepH rfl rfl (fun p l e R s m args below meth c H locs cells slots Qs ls b base D tc C hR hA hS hl kk => ?_) kk
  obtain ⟨hx, hb, hml, hr, hlk, hnm, how, hts, hK, hbb⟩ := C
  have kk := kk H locs hA hS
  cases a with
  | zero =>
    obtain ⟨-, -, L, xs, h0, scr, h1, h2, h3, h4, h5⟩ := hA
    rw [h0] at ha
    cases ha
    exact W.alen (n := Int32.ofNat n) hx hb h1 h2 (by rw [h4] <;> rfl) rfl rfl hd kk
  | succ a =>
    have hw : (ax_w b base tc h)[a]? = some (base + a, .inl (tc t, n, .inl f)) := by rw [ax_w_at, ha]; rfl
    exact va_alen hx hb hK.1 hA.1 a t hw (ax_tys_at ht) rfl hd kk
theorem ax_iast {a n : Nat} {f : Nat → Int32} {i x : Int32} (hd : decode M.2.1 pc = .ok (.iastore, 1)) (ha : h[a]? = some (.inl (0, n, .inl f))) (h0 : 0 < a) (hin : vp_in i n) (kk : ax_W M d (pc + 1) lv st (h.set a (.inl (0, n, .inl (upd f i.toNatClampNeg x)))) Q) : ax_W M d pc lv (.int x :: .int i :: .ref a :: st) h Q := by
  refine ax_stepH (by rw [List.length_set]) (by exact ax_sl_set ha rfl) (fun p l e R s m args below meth c H locs cells slots Qs ls b base D tc C hR hA hS hl kk => ?_) kk
  obtain ⟨hx, hb, hml, hr, hlk, hnm, how, hts, hK, hbb⟩ := C
  obtain ⟨q0, rfl⟩ : ∃ q, a = q + 1 := ⟨a - 1, by omega⟩
  have hw : (ax_w b base tc h)[q0]? = some (base + q0, .inl (tc 0, n, .inl f)) := by rw [ax_w_at, ha]; rfl
  refine W.iast hx hb (hA.1 q0 _ hw) ((hK.1.2 0 _ (ax_tys_at rfl)).1 n (fun j => .int (f j))) (fun q => by cases q) (by show ¬ (i < 0 ∨ (arrV _ _ _).slots.size ≤ _); rw [arrV_size]; exact hin) rfl rfl hd fun H1 e z oq => ?_
  refine kk H1 _ (ax_wrote hA hbb ha ?_ z oq) (hS.put z oq (Nat.le_add_right _ _))
  show H1[base + q0]? = some (vp_cell _ _)
  rw [e]
  show some ((vp_cell (tc 0) (n, .inl f)).setSlot _ _) = some (vp_cell (tc 0) (n, .inl _))
  rw [vp_cell_i, vp_cell_i, arrV_store]
  congr 2
  funext q
  by_cases hq : q = i.toNatClampNeg
  · subst hq
    simp [updV, upd]
  · simp [updV, upd, hq]
/-! new cells -/
theorem ax_ad_len {D : va_G} {tc : Nat → ClassId} {b base : Nat} {s : State} {H : Heap} (hA : ax_At D tc b base h s H) : ax_ad b base h.length = H.size ∧ H.size = base + (h.length - 1) ∧ 1 ≤ h.length := by
  obtain ⟨-, hz, L, xs, h0, -⟩ := hA
  have hl := (List.getElem?_eq_some_iff.mp h0).1
  obtain ⟨n, hn⟩ : ∃ n, h.length = n + 1 := ⟨h.length - 1, by omega⟩
  rw [hn] at hz ⊢
  refine ⟨?_, by omega, by omega⟩
  show base + n = H.size
  omega
theorem ax_made {D : va_G} {tc : Nat → ClassId} {b base : Nat} {s : State} {H H1 : Heap} {c1 : ax_C} (hA : ax_At D tc b base h s H) (hbb : b < base) (he : va_at D vwCl (H.size, ax_e b base tc c1) H1) (z : H1.size = H.size + 1) (oq : ∀ q, q < H.size → H1[q]? = H[q]?) : ax_At D tc b base (h ++ [c1]) s H1 := by
  obtain ⟨e1, e2, e3⟩ := ax_ad_len hA
  obtain ⟨hP, hz, L, xs, h0, hX⟩ := hA
  refine ⟨?_, by rw [z, List.length_append]; simp; omega, L, xs, ?_, hX.kept (oq b (by omega))⟩
  · rw [ax_w_push e3, ← e2]
    refine va_P.app (hP.kept (fun k q hq => oq _ (hP k q hq).lt)) (fun k x hx => ?_)
    have hz2 : k < 1 := (List.getElem?_eq_some_iff.mp hx).1
    rw [show k = 0 by omega] at hx
    cases hx
    exact he
  · rw [List.getElem?_append_left (by omega)]
    exact h0
theorem ax_S_new {base : Nat} {s : State} {H H1 : Heap} {locs : List Loc} (hS : va_S (fun q => base ≤ q) s.heap H locs) (z : H1.size = H.size + 1) (oq : ∀ q, q < H.size → H1[q]? = H[q]?) : va_S (fun q => base ≤ q) s.heap H1 locs :=
  ⟨Nat.le_trans hS.1 (by omega), fun x h1 h2 => (oq x (Nat.lt_of_lt_of_le h1 hS.1)).trans (hS.2.1 x h1 h2), hS.2.2⟩
theorem ax_stepN {pc' : Nat} {st' : List Value} {c1 : ax_C}
    (f : ∀ (p : Program) (l : Launch) (e : Env) (R : Room) (s : State) (m : MethodId) (args : Array Value) (below : List Frame) (meth : Method) (c : Code) (H : Heap) (locs : List Loc) (cells slots : Nat) (Qs : State → Prop) (ls : Array Slot) (b base : Nat) (D : va_G) (tc : Nat → ClassId),
      ax_Cx M D tc b base p s m args meth c → cells + 1 ≤ R.cells → slots + ax_n c1 ≤ R.slots → ax_At D tc b base h s H → va_S (fun q => base ≤ q) s.heap H locs →
      (∀ (H2 : Heap) (locs2 : List Loc), ax_At D tc b base (h ++ [c1]) s H2 → va_S (fun q => base ≤ q) s.heap H2 locs2 → W p l e R s m args below meth c H2 locs2 (cells + 1) (slots + ax_n c1) Qs (F0 m pc' ls (st'.map (ax_v b base)))) → W p l e R s m args below meth c H locs cells slots Qs (F0 m pc ls (st.map (ax_v b base))))
    (k : ax_W M d pc' lv st' (h ++ [c1]) Q) : ax_W M d pc lv st h Q := by
  obtain ⟨r, h', hq, ⟨m1, m2⟩, k⟩ := k
  have e1 : (h ++ [c1]).length = h.length + 1 := by simp
  have e2 : ax_sl (h ++ [c1]) = ax_sl h + ax_n c1 := ax_sl_push
  rw [e1] at m1
  rw [e2] at m2
  refine ⟨r, h', hq, ⟨by omega, by omega⟩, fun l D tc b base p e R s m args below meth c C H locs ls cells slots hR hA hS hl => ?_⟩
  have q1 : cells + 1 + (h'.length - (h.length + 1)) = cells + (h'.length - h.length) := by omega
  have q2 : slots + ax_n c1 + (ax_sl h' - (ax_sl h + ax_n c1)) = slots + (ax_sl h' - ax_sl h) := by omega
  refine f p l e R s m args below meth c H locs cells slots _ ls b base D tc C (Nat.le_trans (by omega) hR.2.2.1) (Nat.le_trans (by omega) hR.2.2.2) hA hS (fun H2 locs2 hA2 hS2 => ?_)
  have := k l D tc b base p e R s m args below meth c C H2 locs2 ls (cells + 1) (slots + ax_n c1) (by rw [e1, e2, q1, q2]; exact hR) hA2 hS2 hl
  rw [e1, e2, q1, q2] at this
  exact this
def ax_NW (own : String) (idx ci : Nat) (fs : List Value) : Prop := ∃ (C : String) (T : u_T) (N : Nat) (ty : Nat → FieldType), ax_cls ci C T N ∧ (∀ k, k < N → parseFieldDescriptor (T k).2.2.1 = some (ty k)) ∧ Cond.classLink own idx C ∈ ax_all ∧ Cond.instantiable C N ∈ ax_all ∧ Cond.initialized C ∈ ax_all ∧ fs.length = N ∧ (∀ j, j < N → defaultValue (ty j) = vp_V fs j) ∧ ∀ b base, fs.map (ax_v b base) = fs
theorem ax_new {ci idx : Nat} (fs : List Value) (hd : decode M.2.1 pc = .ok (.new idx, 3)) (hN : ax_NW M.1.cls idx ci fs) (kk : ax_W M d (pc + 3) lv (.ref h.length :: st) (h ++ [.inr (ci, fs)]) Q) : ax_W M d pc lv st h Q := by
  refine ax_stepN (fun p l e R s m args below meth c H locs cells slots Qs ls b base D tc C hc hs hA hS kk => ?_) kk
  obtain ⟨hx, hb, hml, hr, hlk, hnm, how, hts, hK, hbb⟩ := C
  obtain ⟨C, T, N, ty, ⟨hci, hin⟩, hty, hcl, hinst, hini, hlen, hfs, hmp⟩ := hN
  have hKn := hK.1.1 ci _ hci
  have hn : ax_n (.inr (ci, fs)) = N := hlen
  rw [hn] at hs kk
  obtain ⟨a1, a2, a3⟩ := ax_ad_len hA
  refine W.newcK hx hb how (hts _ hcl) (hts _ hinst) (hts _ hini) rfl hd hc hs hKn.2.1 rfl fun H1 kC hkC e1 z1 o1 => ?_
  have K := kk H1 locs (ax_made hA hbb ?_ z1 o1) (ax_S_new hS z1 o1)
  · have e9 : ((Value.ref h.length :: st).map (ax_v b base)) = .ref H.size :: st.map (ax_v b base) := by
      show Value.ref (ax_ad b base h.length) :: _ = _
      rw [a1]
    rw [e9] at K
    exact K
  · refine ⟨_, hci, ?_⟩
    show t_OB H.size _ N _ H1 (vp_V (fs.map (ax_v b base)))
    rw [hmp]
    exact (u_born ty hts hin hKn hkC e1 hty).to hfs
theorem ax_newI {n : Int32} (N : Nat) (hd : decode M.2.1 pc = .ok (.newarray .int, 2)) (hn : ¬ n < 0) (hN : n.toNatClampNeg = N) (hb8 : N ≤ 100000000) (hw : Cond.arrayClass .int ∈ ax_all) (kk : ax_W M d (pc + 2) lv (.ref h.length :: st) (h ++ [.inl (0, N, .inl (fun _ => 0))]) Q) : ax_W M d pc lv (.int n :: st) h Q := by
  refine ax_stepN (fun p l e R s m args below meth c H locs cells slots Qs ls b base D tc C hc hs hA hS kk => ?_) kk
  obtain ⟨hx, hb, hml, hr, hlk, hnm, how, hts, hK, hbb⟩ := C
  obtain ⟨a1, a2, a3⟩ := ax_ad_len hA
  have hs : slots + N ≤ R.slots := hs
  refine va_newaK (atype := .int) hx hb (hts _ hw) rfl hd rfl hn hN (by show N * 4 ≤ 536870912; omega) hc hs rfl fun H1 cA e1 z1 o1 hAr hNm => ?_
  have hcA : cA = tc 0 := by
    have h2 : s.vm.findClass ("[" ++ FieldType.toString .int) = some (tc 0) := (hK.1.2 0 _ (ax_tys_at rfl)).2
    exact Option.some.inj (hNm.symm.trans h2)
  subst hcA
  have K := kk H1 locs (ax_made hA hbb ?_ z1 o1) (ax_S_new hS z1 o1)
  · have e9 : ((Value.ref h.length :: st).map (ax_v b base)) = .ref H.size :: st.map (ax_v b base) := by
      show Value.ref (ax_ad b base h.length) :: _ = _
      rw [a1]
    rw [e9] at K
    exact K
  · show H1[H.size]? = some (vp_cell _ _)
    rw [e1]
    rfl
/-! returns -/
theorem ax_ret_At {D : va_G} {tc : Nat → ClassId} {b base : Nat} {s t : State} {H : Heap} (hA : ax_At D tc b base h s H) (ht : t.heap = H) (hW : s.WarmedH t.vm) : ax_At D tc b base h t t.heap := by
  obtain ⟨h1, h2, L, xs, h3, h4⟩ := hA
  rw [ht]
  exact ⟨h1, h2, L, xs, h3, h4.moved hW.alike⟩
theorem ax_iret {x : Int32} (hd : decode M.2.1 pc = .ok (.ireturn, 1)) (hr0 : M.2.2.2 = some .int) (hq : Q (some (.int x)) h) : ax_W M d pc lv [.int x] h Q := by
  refine ⟨some (.int x), h, hq, ax_mono.rf, fun l D tc b base p e R s m args below meth c C H locs ls cells slots hR hA hS hl => ?_⟩
  obtain ⟨hx, hb, hml, hr, hlk, hnm, how, hts, hK, hbb⟩ := C
  rw [Nat.sub_self, Nat.add_zero, Nat.sub_self, Nat.add_zero]
  exact W.iret hx hb (hr.trans hr0) (fun t ht hW => ⟨rfl, ax_ret_At hA ht hW, hS.F ht⟩) hS.2.2 hd hlk
theorem ax_zret {x : Int32} (hd : decode M.2.1 pc = .ok (.ireturn, 1)) (hr0 : M.2.2.2 = some .boolean) (hx01 : x &&& 1 = x) (hq : Q (some (.int x)) h) : ax_W M d pc lv [.int x] h Q := by
  refine ⟨some (.int x), h, hq, ax_mono.rf, fun l D tc b base p e R s m args below meth c C H locs ls cells slots hR hA hS hl => ?_⟩
  obtain ⟨hx, hb, hml, hr, hlk, hnm, how, hts, hK, hbb⟩ := C
  rw [Nat.sub_self, Nat.add_zero, Nat.sub_self, Nat.add_zero]
  exact W.zret hx hb (hr.trans hr0) (by show Value.int (x &&& 1) = _; rw [hx01]) (fun t ht hW => ⟨rfl, ax_ret_At hA ht hW, hS.F ht⟩) hS.2.2 hd hlk
theorem ax_vret (hd : decode M.2.1 pc = .ok (.return_, 1)) (hr0 : M.2.2.2 = none) (hq : Q none h) : ax_W M d pc lv [] h Q := by
  refine ⟨none, h, hq, ax_mono.rf, fun l D tc b base p e R s m args below meth c C H locs ls cells slots hR hA hS hl => ?_⟩
  obtain ⟨hx, hb, hml, hr, hlk, hnm, how, hts, hK, hbb⟩ := C
  rw [Nat.sub_self, Nat.add_zero, Nat.sub_self, Nat.add_zero]
  exact W.vret hx hb (hr.trans hr0) (fun t ht hW => ⟨rfl, ax_ret_At hA ht hW, hS.F ht⟩) hS.2.2 hd hlk
/-! calls -/
theorem ax_cats (b base : Nat) (st : List Value) : ((st.map (ax_v b base)).map fun v => v.category).sum = (st.map fun v => v.category).sum := by
  rw [List.map_map]
  congr 1
  apply List.map_congr_left
  intro v _
  exact ax_v_cat b base v
theorem ax_objInit {a idx : Nat} (hd : decode M.2.1 pc = .ok (.invokespecial idx, 3)) (hl : Cond.methodLink M.1.cls idx Lib.objectInit ∈ ax_all) (hi : Cond.instanceMethod Lib.objectInit ∈ ax_all) (hc : Cond.code Lib.objectInit ⟨#[0xb1]⟩ 1 none ∈ ax_all) (hd1 : 1 ≤ d) (hcat : (st.map fun v => v.category).sum ≤ 8) (kk : ax_W M d (pc + 3) lv st h Q) : ax_W M d pc lv (.ref a :: st) h Q := by
  refine ax_stepH rfl rfl (fun p l e R s m args below meth c H locs cells slots Qs ls b base D tc C hR hA hS hls kk => ?_) kk
  obtain ⟨hx, hb, hml, hr, hlk, hnm, how, hts, hK, hbb⟩ := C
  have e1 := ax_cats b base st
  exact W.objInit hx hb how (hts _ hl) (hts _ hi) (hts _ hc) rfl (by show ls.size = _; rw [hls, hml]) rfl hd (Nat.le_trans hd1 hR.1) (by show 2 * 0 + _ + 12 ≤ _; rw [e1]; have := hR.2.1; omega) (kk H locs hA hS)
theorem ax_blind {av : List Value} {D : va_G} {tc : Nat → ClassId} {b base : Nat} : FrameBlind (va_Pc (av.map (ax_v b base)) (fun U => ax_At D tc b base h U U.heap ∧ ax_K D tc U)) := by
  intro a U g mk q
  obtain ⟨q0, ⟨q1, q2, L, xs, q3, q4⟩, qK, qN⟩ := q
  exact ⟨q0, ⟨q1, q2, L, xs, q3, va_X.moved (u := U) (U := U.calling g mk a) (Vm.Alike.refl U.vm) q4⟩, va_K.moved (u := U) (U := U.calling g mk a) (Vm.Alike.refl U.vm) qK, fun w hw => va_Nw.same (u := U) (U := U.calling g mk a) (ax_nest_tab w hw) rfl (qN w hw)⟩
theorem ax_pre {av : List Value} {D : va_G} {tc : Nat → ClassId} {b base : Nat} {s : State} {H : Heap} (hA : ax_At D tc b base h s H) (hK : ax_K D tc s) : PreS s H (va_Pc (av.map (ax_v b base)) (fun U => ax_At D tc b base h U U.heap ∧ ax_K D tc U)) (av.map (ax_v b base)) :=
  ⟨ax_blind, fun U hU hW => ⟨rfl, ax_ret_At hA hU hW, va_K.moved hW.alike hK.1, fun w hw => ax_nest_warm w hw hW (hK.2 w hw)⟩⟩
theorem ax_back {p : Program} {l : Launch} {e : Env} {R : Room} {s : State} {m : MethodId} {args : Array Value} {below : List Frame} {meth : Method} {c : Code} {H : Heap} {locs : List Loc} {cells slots mc ms b base : Nat} {Qs : State → Prop} {D : va_G} {tc : Nat → ClassId} {ls : Array Slot} {st0 rest : List Value} {r : Option Value} {h1 : ax_H} {a : Array Value}
    (hr : va_Run p l e R s m args below meth c H locs cells slots mc ms (F0 m pc ls st0) rest (ax_Q D tc b base r h1 a) (fun q => base ≤ q)) (hS : va_S (fun q => base ≤ q) s.heap H locs)
    (kk : ∀ (H1 : Heap) (locs1 : List Loc), ax_At D tc b base h1 s H1 → va_S (fun q => base ≤ q) s.heap H1 locs1 → W p l e R s m args below meth c H1 locs1 (cells + mc) (slots + ms) Qs (F0 m (pc + 3) ls ((r.map (ax_v b base)).toList ++ rest))) : W p l e R s m args below meth c H locs cells slots Qs (F0 m pc ls st0) := by
  intro T hT X
  obtain ⟨v, st₀, t, T', L, h0, X', hL, e1, e2, ⟨hv, ⟨hP, hz, Ln, xs, h3, h4⟩, hF1, hF2⟩, st⟩ := hr T hT X
  cases hv
  rw [h0] at hF1 hF2
  have hal : t.vm.Alike s.vm := by rw [← e2]; exact X'.warmed.alike.symm
  obtain ⟨t2, a1, b1⟩ := kk T'.heap (locs ++ L) (by rw [e1]; exact ⟨hP, hz, Ln, xs, h3, h4.moved hal⟩) ⟨Nat.le_trans hS.1 (by rw [e1]; exact hF1), fun q g1 g2 => by rw [e1, hF2 q (Nat.lt_of_lt_of_le g1 hS.1) g2]; exact hS.2.1 q g1 g2, fun q hq => by
      rcases List.mem_append.mp hq with h | h
      · exact hS.2.2 q h
      · exact hL q h⟩ T' rfl X'
  exact ⟨t2, st t2 a1, b1⟩
def ax_okM (N : ax_M) (n : Nat) : Prop := ax_cd N ∈ ax_all ∧ Cond.initialized N.1.cls ∈ ax_all ∧ N.1.cls ≠ "java/lang/invoke/MethodHandle" ∧ N.1.cls ≠ "java/lang/invoke/VarHandle" ∧ (parseMethodDescriptor N.1.desc).map (fun d => d.parameters.length) = some n ∧ N.2.2.1 ≤ 26
def ax_lk (own : String) (idx : Nat) (y : MethodName) : Prop := Cond.methodLink own idx y ∈ ax_all ∨ ∃ host, Cond.methodLinkNest own idx y host ∈ ax_nest
theorem ax_call0 {N : ax_M} {d' : Nat} {As rest st0 : List Value} (hdd : d' + 1 ≤ d)
    (f : ∀ (p : Program) (l : Launch) (e : Env) (R : Room) (s : State) (m : MethodId) (args : Array Value) (below : List Frame) (meth : Method) (c : Code) (H : Heap) (locs : List Loc) (cells slots : Nat) (ls : Array Slot) (b base : Nat) (D : va_G) (tc : Nat → ClassId) (r1 : Option Value) (h1 : ax_H),
      ax_Cx M D tc b base p s m args meth c → ax_At D tc b base h s H → ls.size = M.2.2.1 → (d' + 1 ≤ R.frames ∧ 45 * d ≤ R.locals) → Met l N.1 (ax_ws N) (ax_rm d' (h1.length - h.length) (ax_sl h1 - ax_sl h)) (va_Pc (As.map (ax_v b base)) (fun U => ax_At D tc b base h U U.heap ∧ ax_K D tc U)) (ax_Q D tc b base r1 h1) (h1.length - h.length) (ax_sl h1 - ax_sl h) (fun q => base ≤ q) →
      (cells + (h1.length - h.length) ≤ R.cells ∧ slots + (ax_sl h1 - ax_sl h) ≤ R.slots) →
      va_Run p l e R s m args below meth c H locs cells slots (h1.length - h.length) (ax_sl h1 - ax_sl h) (F0 m pc ls (st0.map (ax_v b base))) (rest.map (ax_v b base)) (ax_Q D tc b base r1 h1 (As.map (ax_v b base)).toArray) (fun q => base ≤ q))
    (k : ax_Cl N d' As h (fun r h1 => ax_W M d (pc + 3) lv (r.toList ++ rest) h1 Q)) : ax_W M d pc lv st0 h Q := by
  obtain ⟨r1, h1, ⟨r, h', hq, hm2, k⟩, hm1, hM⟩ := k
  refine ⟨r, h', hq, hm1.tr hm2, fun l D tc b base p e R s m args below meth c C H locs ls cells slots hR hA hS hl => ?_⟩
  obtain ⟨m11, m12⟩ := hm1
  obtain ⟨m21, m22⟩ := hm2
  have hbb : b < base := C.2.2.2.2.2.2.2.2.2
  have q1 : cells + (h1.length - h.length) + (h'.length - h1.length) = cells + (h'.length - h.length) := by omega
  have q2 : slots + (ax_sl h1 - ax_sl h) + (ax_sl h' - ax_sl h1) = slots + (ax_sl h' - ax_sl h) := by omega
  have run := f p l e R s m args below meth c H locs cells slots ls b base D tc r1 h1 C hA hl.1 ⟨Nat.le_trans hdd hR.1, hR.2.1⟩ (hM l D tc b base hbb) ⟨Nat.le_trans (by omega) hR.2.2.1, Nat.le_trans (by omega) hR.2.2.2⟩
  refine ax_back run hS (fun H1 locs1 hA1 hS1 => ?_)
  have K := k l D tc b base p e R s m args below meth c C H1 locs1 ls (cells + (h1.length - h.length)) (slots + (ax_sl h1 - ax_sl h)) (by rw [q1, q2]; exact hR) hA1 hS1 hl
  rw [q1, q2] at K
  have e9 : (r1.toList ++ rest).map (ax_v b base) = (r1.map (ax_v b base)).toList ++ rest.map (ax_v b base) := by cases r1 <;> simp
  rw [e9] at K
  exact K
theorem ax_callS {N : ax_M} {d' idx n : Nat} {As rest : List Value} (hd : decode M.2.1 pc = .ok (.invokestatic idx, 3)) (hN : ax_okM N n) (hst : Cond.static N.1 ∈ ax_all) (hL : ax_lk M.1.cls idx N.1) (hn : As.length = n) (hdd : d' + 1 ≤ d) (hcat : (rest.map fun v => v.category).sum ≤ 8)
    (k : ax_Cl N d' As h (fun r h1 => ax_W M d (pc + 3) lv (r.toList ++ rest) h1 Q)) : ax_W M d pc lv (As.reverse ++ rest) h Q := by
  refine ax_call0 hdd (fun p l e R s m args below meth c H locs cells slots ls b base D tc r1 h1 C hA hls hR hM hf => ?_) k
  obtain ⟨hx, hb, hml, hr, hlk, hnm, how, hts, hK, hbb⟩ := C
  obtain ⟨hcd, hini, hy1, hy2, hpar, hmL⟩ := hN
  have e1 : (As.reverse ++ rest).map (ax_v b base) = (As.map (ax_v b base)).reverse ++ rest.map (ax_v b base) := by rw [List.map_append, List.map_reverse]
  have hR1 : (ax_rm d' (h1.length - h.length) (ax_sl h1 - ax_sl h)).frames + 1 ≤ R.frames ∧ 8 + (N.2.2.1 + 11) + (ax_rm d' (h1.length - h.length) (ax_sl h1 - ax_sl h)).locals ≤ R.locals := ⟨hR.1, by show 8 + (N.2.2.1 + 11) + 45 * d' ≤ _; have := hR.2; omega⟩
  have hca : ((rest.map (ax_v b base)).map fun v => v.category).sum ≤ 8 := by rw [ax_cats]; exact hcat
  rcases hL with hL | ⟨host, hL⟩
  · exact va_runS (Ts := ax_all) (nL := M.2.2.1) (n := n) ⟨hx, hb, hml, how, hts⟩ hM ⟨callB_of n hts (ax_goodIn hcd) rfl rfl rfl (hts _ hini) (hts _ hL) ⟨hy1, hy2, hpar⟩ hR1, hts _ hst⟩ (ax_pre hA hK) rfl (by rw [List.length_map]; exact hn) hls e1 (lv_room hca) hd hf
  · exact va_runSN (Ts := ax_all) (nL := M.2.2.1) (n := n) (host := host) ⟨hx, hb, hml, how, hts⟩ hM ⟨va_cnB n hts (ax_goodIn hcd) rfl rfl rfl (hK.2 _ hL) (hts _ hini) ⟨hy1, hy2, hpar⟩ hR1, hts _ hst, trivial⟩ (ax_pre hA hK) rfl (by rw [List.length_map]; exact hn) hls e1 (lv_room hca) hd hf
theorem ax_callI {N : ax_M} {d' idx n a : Nat} {As rest : List Value} (hd : decode M.2.1 pc = .ok (.invokespecial idx, 3)) (hN : ax_okM N n) (hret : N.2.2.2 = none) (hi : N.1.name = "<init>") (hst : Cond.instanceMethod N.1 ∈ ax_all) (hL : ax_lk M.1.cls idx N.1) (hn : As.length = n) (hdd : d' + 1 ≤ d) (hcat : (rest.map fun v => v.category).sum ≤ 8)
    (k : ax_Cl N d' (.ref a :: As) h (fun r h1 => ax_W M d (pc + 3) lv (r.toList ++ rest) h1 Q)) : ax_W M d pc lv (As.reverse ++ .ref a :: rest) h Q := by
  refine ax_call0 hdd (fun p l e R s m args below meth c H locs cells slots ls b base D tc r1 h1 C hA hls hR hM hf => ?_) k
  obtain ⟨hx, hb, hml, hr, hlk, hnm, how, hts, hK, hbb⟩ := C
  obtain ⟨hcd, hini, hy1, hy2, hpar, hmL⟩ := hN
  have e1 : (As.reverse ++ .ref a :: rest).map (ax_v b base) = (As.map (ax_v b base)).reverse ++ .ref (ax_ad b base a) :: rest.map (ax_v b base) := by rw [List.map_append, List.map_reverse]; rfl
  have hR1 : (ax_rm d' (h1.length - h.length) (ax_sl h1 - ax_sl h)).frames + 1 ≤ R.frames ∧ 8 + (N.2.2.1 + 11) + (ax_rm d' (h1.length - h.length) (ax_sl h1 - ax_sl h)).locals ≤ R.locals := ⟨hR.1, by show 8 + (N.2.2.1 + 11) + 45 * d' ≤ _; have := hR.2; omega⟩
  have hca : ((rest.map (ax_v b base)).map fun v => v.category).sum ≤ 8 := by rw [ax_cats]; exact hcat
  have hcd2 : ax_ws N = Cond.code N.1 N.2.1 N.2.2.1 none :: ax_all := by rw [← hret]; rfl
  rcases hL with hL | ⟨host, hL⟩
  · exact va_runI (Ts := ax_all) (nL := M.2.2.1) (n := n) ⟨hx, hb, hml, how, hts⟩ hM ⟨callB_of n hts (ax_goodIn hcd) hcd2 rfl rfl (hts _ hini) (hts _ hL) ⟨hy1, hy2, hpar⟩ hR1, hi, hts _ hst⟩ (ax_pre (av := .ref a :: As) hA hK) rfl (by rw [List.length_map]; exact hn) hls e1 (lv_room hca) hd hf
  · exact va_runIN (Ts := ax_all) (nL := M.2.2.1) (n := n) (host := host) ⟨hx, hb, hml, how, hts⟩ hM ⟨va_cnB n hts (ax_goodIn hcd) hcd2 rfl rfl (hK.2 _ hL) (hts _ hini) ⟨hy1, hy2, hpar⟩ hR1, hi, hts _ hst⟩ (ax_pre (av := .ref a :: As) hA hK) rfl (by rw [List.length_map]; exact hn) hls e1 (lv_room hca) hd hf
theorem ax_callV {N : ax_M} {d' idx n a ci : Nat} {fs As rest : List Value} {C : vw_C} (hd : decode M.2.1 pc = .ok (.invokevirtual idx, 3)) (hN : ax_okM N n) (hst : Cond.instanceMethod N.1 ∈ ax_all) (hse : Cond.selects N.1.cls N.1 N.1 ∈ ax_all) (hL : ax_lk M.1.cls idx N.1) (hci : vwCl[ci]? = some C) (hC : C.1 = N.1.cls) (ha : h[a]? = some (.inr (ci, fs))) (hn : As.length = n) (hdd : d' + 1 ≤ d) (hcat : (rest.map fun v => v.category).sum ≤ 8)
    (k : ax_Cl N d' (.ref a :: As) h (fun r h1 => ax_W M d (pc + 3) lv (r.toList ++ rest) h1 Q)) : ax_W M d pc lv (As.reverse ++ .ref a :: rest) h Q := by
  refine ax_call0 hdd (fun p l e R s m args below meth c H locs cells slots ls b base D tc r1 h1 C hA hls hR hM hf => ?_) k
  obtain ⟨hx, hb, hml, hr, hlk, hnm, how, hts, hK, hbb⟩ := C
  obtain ⟨hcd, hini, hy1, hy2, hpar, hmL⟩ := hN
  obtain ⟨i, rfl⟩ := ax_pos hA ha
  have e1 : (As.reverse ++ .ref (i + 1) :: rest).map (ax_v b base) = (As.map (ax_v b base)).reverse ++ .ref (base + i) :: rest.map (ax_v b base) := by rw [List.map_append, List.map_reverse]; rfl
  have hR1 : (ax_rm d' (h1.length - h.length) (ax_sl h1 - ax_sl h)).frames + 1 ≤ R.frames ∧ 8 + (N.2.2.1 + 11) + (ax_rm d' (h1.length - h.length) (ax_sl h1 - ax_sl h)).locals ≤ R.locals := ⟨hR.1, by show 8 + (N.2.2.1 + 11) + 45 * d' ≤ _; have := hR.2; omega⟩
  have hca : ((rest.map (ax_v b base)).map fun v => v.category).sum ≤ 8 := by rw [ax_cats]; exact hcat
  have hw : (ax_w b base tc h)[i]? = some (base + i, .inr (ci, fs.map (ax_v b base))) := by rw [ax_w_at, ha]; rfl
  have hpr := ax_pre (av := .ref (i + 1) :: As) hA hK
  have hrc := va_recv hK.1 hA.1 hci hw
  rw [hC] at hrc
  rcases hL with hL | ⟨host, hL⟩
  · exact va_runV (Ts := ax_all) (nL := M.2.2.1) (n := n) (C := N.1.cls) ⟨hx, hb, hml, how, hts⟩ hM ⟨callB_of n hts (ax_goodIn hcd) rfl rfl rfl (hts _ hini) (hts _ hL) ⟨hy1, hy2, hpar⟩ hR1, hts _ hst, hts _ hse⟩ ⟨hpr.1, hrc, hpr.2⟩ rfl (by rw [List.length_map]; exact hn) hls e1 (lv_room hca) hd hf
  · exact va_runVN (Ts := ax_all) (nL := M.2.2.1) (n := n) (C := N.1.cls) (host := host) ⟨hx, hb, hml, how, hts⟩ hM ⟨va_cnB n hts (ax_goodIn hcd) rfl rfl rfl (hK.2 _ hL) (hts _ hini) ⟨hy1, hy2, hpar⟩ hR1, hts _ hst, hts _ hse⟩ ⟨hpr.1, hrc, hpr.2⟩ rfl (by rw [List.length_map]; exact hn) hls e1 (lv_room hca) hd hf
theorem ax_mmax {x y : Int32} {idx : Nat} (hd : decode M.2.1 pc = .ok (.invokestatic idx, 3)) (hl : Cond.methodLink M.1.cls idx Lib.Math.max.name ∈ ax_all) (hst : Cond.static Lib.Math.max.name ∈ ax_all) (hini : Cond.initialized "java/lang/Math" ∈ ax_all) (hc : Cond.code Lib.Math.max.name Lib.Math.max.code 2 (some .int) ∈ ax_all) (hd1 : 1 ≤ d) (hcat : (st.map fun v => v.category).sum ≤ 8) (kk : ax_W M d (pc + 3) lv (.int (if x < y then y else x) :: st) h Q) : ax_W M d pc lv (.int y :: .int x :: st) h Q := by
  refine ax_stepH rfl rfl (fun p l e R s m args below meth c H locs cells slots Qs ls b base D tc C hR hA hS hls kk => ?_) kk
  obtain ⟨hx, hb, hml, hr, hlk, hnm, how, hts, hK, hbb⟩ := C
  have e1 := ax_cats b base st
  exact va_mmax hx hb (hml.trans hls.symm) how (hts _ hl) (hts _ hst) (hts _ hini) (hts _ hc) (Nat.le_trans hd1 hR.1) (by rw [e1]; have := hR.2.1; omega) hR.2.2.1 hR.2.2.2 hd (kk H locs hA hS)
theorem ax_mmin {x y : Int32} {idx : Nat} (hd : decode M.2.1 pc = .ok (.invokestatic idx, 3)) (hl : Cond.methodLink M.1.cls idx Lib.Math.min.name ∈ ax_all) (hst : Cond.static Lib.Math.min.name ∈ ax_all) (hini : Cond.initialized "java/lang/Math" ∈ ax_all) (hc : Cond.code Lib.Math.min.name Lib.Math.min.code 2 (some .int) ∈ ax_all) (hd1 : 1 ≤ d) (hcat : (st.map fun v => v.category).sum ≤ 8) (kk : ax_W M d (pc + 3) lv (.int (if y < x then y else x) :: st) h Q) : ax_W M d pc lv (.int y :: .int x :: st) h Q := by
  refine ax_stepH rfl rfl (fun p l e R s m args below meth c H locs cells slots Qs ls b base D tc C hR hA hS hls kk => ?_) kk
  obtain ⟨hx, hb, hml, hr, hlk, hnm, how, hts, hK, hbb⟩ := C
  have e1 := ax_cats b base st
  exact va_mmin hx hb (hml.trans hls.symm) how (hts _ hl) (hts _ hst) (hts _ hini) (hts _ hc) (Nat.le_trans hd1 hR.1) (by rw [e1]; have := hR.2.1; omega) hR.2.2.1 hR.2.2.2 hd (kk H locs hA hS)
end AXH
