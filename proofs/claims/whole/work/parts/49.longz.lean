/-! longs as Int: lz z; arrays of longs and bytes -/
def lz (z : Int) : Int64 := Int64.ofInt z
theorem lz_add (a b : Int) : lz a + lz b = lz (a + b) := (Int64.ofInt_add a b).symm
theorem lz_nat (n : Nat) : lz (n : Int) = lN n := Int64.ofInt_eq_ofNat
theorem lz_toInt {z : Int} (h : -9000000000000000000 ≤ z ∧ z < 9000000000000000000) : (lz z).toInt = z := Int64.toInt_ofInt_of_le (by omega) (by omega)
theorem lz_lt {a b : Int} (ha : -9000000000000000000 ≤ a ∧ a < 9000000000000000000) (hb : -9000000000000000000 ≤ b ∧ b < 9000000000000000000) : lz a < lz b ↔ a < b := by
  rw [Int64.lt_iff_toInt_lt, lz_toInt ha, lz_toInt hb]
theorem lz_eq {a b : Int} (ha : -9000000000000000000 ≤ a ∧ a < 9000000000000000000) (hb : -9000000000000000000 ≤ b ∧ b < 9000000000000000000) : lz a = lz b ↔ a = b := by
  rw [← Int64.toInt_inj, lz_toInt ha, lz_toInt hb]
theorem lz_of (x : Int64) : lz x.toInt = x := Int64.ofInt_toInt x
theorem lz_i2l {z : Int} (h : -2147483648 ≤ z ∧ z < 2147483648) : (iv z).toInt64 = lz z := by
  apply Int64.toInt_inj.mp
  rw [lz_toInt (by omega), Int32.toInt_toInt64, iv_toInt h]
theorem lz_l2i (z : Int) : (lz z).toInt32 = iv z := Int64.toInt32_ofInt
def cmp3 (a b : Int) : Int := if a < b then -1 else if a = b then 0 else 1
theorem cmp3_sp (a b : Int) : (a < b ∧ cmp3 a b = -1) ∨ (a = b ∧ cmp3 a b = 0) ∨ (b < a ∧ cmp3 a b = 1) := by
  unfold cmp3
  by_cases h1 : a < b
  · rw [if_pos h1]; exact Or.inl ⟨h1, rfl⟩
  · rw [if_neg h1]
    by_cases h2 : a = b
    · rw [if_pos h2]; exact Or.inr (Or.inl ⟨h2, rfl⟩)
    · rw [if_neg h2]; exact Or.inr (Or.inr ⟨by omega, rfl⟩)
theorem lz_cmp {a b : Int} (ha : -9000000000000000000 ≤ a ∧ a < 9000000000000000000) (hb : -9000000000000000000 ≤ b ∧ b < 9000000000000000000) : lg_cmp (lz a) (lz b) = iv (cmp3 a b) := by
  unfold lg_cmp
  have h1 := cmp3_sp a b
  have h2 := lz_lt ha hb
  have h3 := lz_eq ha hb
  have h4 := lz_lt hb ha
  rcases h1 with ⟨q, e⟩ | ⟨q, e⟩ | ⟨q, e⟩
  · rw [e]
    have n1 : ¬ b < a := by omega
    have n2 : ¬ a = b := by omega
    simp [h3, h4, n1, n2]
    rfl
  · subst q
    rw [e]
    simp
    rfl
  · rw [e]
    simp [h4, q]
    rfl
abbrev ja (n : Nat) (g : Nat → Int) : ax_C := .inl (1, n, .inr (.inl (fun j => lz (g j))))
abbrev ba (n : Nat) (g : Nat → Int) : ax_C := .inl (2, n, .inl (fun j => iv (g j)))
/-- a byte with its sign -/
def sb (z : Int) : Int := if z % 256 < 128 then z % 256 else z % 256 - 256
theorem sb_in (z : Int) : -128 ≤ sb z ∧ sb z < 128 := by
  unfold sb
  split <;> omega
theorem sb_i (z : Int) : (iv z).toInt8.toInt32 = iv (sb z) := by
  apply Int32.toInt_inj.mp
  rw [Int8.toInt_toInt32, iv_toInt (by have := sb_in z; omega)]
  have e1 : (iv z).toInt8 = Int8.ofInt z := Int32.toInt8_ofInt
  rw [e1, Int8.toInt_ofInt, Int.bmod_def]
  unfold sb
  have e2 : ((Int8.size : Nat) : Int) = 256 := rfl
  rw [e2]
  rfl
section AXL2
variable {M : ax_M} {d pc : Nat} {lv : ax_L} {st : List Value} {h h0 : ax_H} {Q : Option Value → ax_H → Prop} {S : List Nat} {L : List (Nat × ax_C)}
theorem ax_ldiv {x y : Int64} (hd : decode M.2.1 pc = .ok (.ldiv, 1)) (hne : ¬ y = 0) (k : ax_W M d (pc + 1) lv (.long (x / y) :: st) h Q) : ax_W M d pc lv (.long y :: .long x :: st) h Q :=
  ax_step (fun p l e R s m args below meth c H locs cells slots Qs ls b base hx hb ho ht hl k => lv_ldiv hx hb hd hne (k ls hl)) k
theorem ax_lret {x : Int64} (hd : decode M.2.1 pc = .ok (.lreturn, 1)) (hr0 : M.2.2.2 = some .long) (hq : Q (some (.long x)) h) : ax_W M d pc lv [.long x] h Q := by
  refine ⟨some (.long x), h, hq, ax_mono.rf, fun l D tc b base p e R s m args below meth c C H locs ls cells slots hR hA hS hl => ?_⟩
  obtain ⟨hx, hb, hml, hr, hlk, hnm, how, hts, hK, hbb⟩ := C
  rw [Nat.sub_self, Nat.add_zero, Nat.sub_self, Nat.add_zero]
  exact W.lret hx hb (hr.trans hr0) (fun t ht hW => ⟨rfl, ax_ret_At hA ht hW, hS.F ht⟩) hS.2.2 hd hlk
theorem ax_lald {a n : Nat} {f : Nat → Int64} {i : Int32} (hd : decode M.2.1 pc = .ok (.laload, 1)) (ha : h[a]? = some (.inl (1, n, .inr (.inl f)))) (hin : vp_in i n) (kk : ax_W M d (pc + 1) lv (.long (f i.toNatClampNeg) :: st) h Q) : ax_W M d pc lv (.int i :: .ref a :: st) h Q := by
  refine ax_stepH rfl rfl (fun p l e R s m args below meth c H locs cells slots Qs ls b base D tc C hR hA hS hl kk => ?_) kk
  obtain ⟨hx, hb, hml, hr, hlk, hnm, how, hts, hK, hbb⟩ := C
  have kk := kk H locs hA hS
  cases a with
  | zero =>
    obtain ⟨-, -, L, xs, h0, -⟩ := hA
    rw [h0] at ha
    cases ha
  | succ a =>
    have hw : (ax_w b base tc h)[a]? = some (base + a, .inl (tc 1, n, .inr (.inl f))) := by rw [ax_w_at, ha]; rfl
    exact va_lald hx hb hK.1 hA.1 a 1 hw (ax_tys_at rfl) hin hd kk
theorem ax_bald {a n : Nat} {f : Nat → Int32} {i : Int32} (hd : decode M.2.1 pc = .ok (.baload, 1)) (ha : h[a]? = some (.inl (2, n, .inl f))) (hin : vp_in i n) (kk : ax_W M d (pc + 1) lv (.int (f i.toNatClampNeg) :: st) h Q) : ax_W M d pc lv (.int i :: .ref a :: st) h Q := by
  refine ax_stepH rfl rfl (fun p l e R s m args below meth c H locs cells slots Qs ls b base D tc C hR hA hS hl kk => ?_) kk
  obtain ⟨hx, hb, hml, hr, hlk, hnm, how, hts, hK, hbb⟩ := C
  have kk := kk H locs hA hS
  cases a with
  | zero =>
    obtain ⟨-, -, L, xs, h0, -⟩ := hA
    rw [h0] at ha
    cases ha
  | succ a =>
    have hw : (ax_w b base tc h)[a]? = some (base + a, .inl (tc 2, n, .inl f)) := by rw [ax_w_at, ha]; rfl
    exact va_bald hx hb hK.1 hA.1 a 2 hw (ax_tys_at rfl) hin hd kk
theorem ax_last {a n : Nat} {f : Nat → Int64} {i : Int32} {x : Int64} (hd : decode M.2.1 pc = .ok (.lastore, 1)) (ha : h[a]? = some (.inl (1, n, .inr (.inl f)))) (h0 : 0 < a) (hin : vp_in i n) (kk : ax_W M d (pc + 1) lv st (h.set a (.inl (1, n, .inr (.inl (vp_updL f i.toNatClampNeg x))))) Q) : ax_W M d pc lv (.long x :: .int i :: .ref a :: st) h Q := by
  refine ax_stepH (by rw [List.length_set]) (by exact ax_sl_set ha rfl) (fun p l e R s m args below meth c H locs cells slots Qs ls b base D tc C hR hA hS hl kk => ?_) kk
  obtain ⟨hx, hb, hml, hr, hlk, hnm, how, hts, hK, hbb⟩ := C
  obtain ⟨q0, rfl⟩ : ∃ q, a = q + 1 := ⟨a - 1, by omega⟩
  have hw : (ax_w b base tc h)[q0]? = some (base + q0, .inl (tc 1, n, .inr (.inl f))) := by rw [ax_w_at, ha]; rfl
  refine W.last hx hb (hA.1 q0 _ hw) ((hK.1.2 1 _ (ax_tys_at rfl)).1 n (fun j => .long (f j))) (fun q => by cases q) (by show ¬ (i < 0 ∨ (arrV _ _ _).slots.size ≤ _); rw [arrV_size]; exact hin) rfl rfl hd fun H1 e z oq => ?_
  refine kk H1 _ (ax_wrote hA hbb ha ?_ z oq) (hS.put z oq (Nat.le_add_right _ _))
  show H1[base + q0]? = some (vp_cell _ _)
  rw [e]
  show some ((vp_cell (tc 1) (n, .inr (.inl f))).setSlot _ _) = some (vp_cell (tc 1) (n, .inr (.inl _)))
  rw [vp_cell_l, vp_cell_l, arrV_store]
  congr 2
  funext q
  by_cases hq : q = i.toNatClampNeg
  · subst hq
    simp [updV, vp_updL]
  · simp [updV, vp_updL, hq]
theorem ax_bast {a n : Nat} {f : Nat → Int32} {i x : Int32} (hd : decode M.2.1 pc = .ok (.bastore, 1)) (ha : h[a]? = some (.inl (2, n, .inl f))) (h0 : 0 < a) (hin : vp_in i n) (kk : ax_W M d (pc + 1) lv st (h.set a (.inl (2, n, .inl (upd f i.toNatClampNeg (vp_nar .byte x))))) Q) : ax_W M d pc lv (.int x :: .int i :: .ref a :: st) h Q := by
  refine ax_stepH (by rw [List.length_set]) (by exact ax_sl_set ha rfl) (fun p l e R s m args below meth c H locs cells slots Qs ls b base D tc C hR hA hS hl kk => ?_) kk
  obtain ⟨hx, hb, hml, hr, hlk, hnm, how, hts, hK, hbb⟩ := C
  obtain ⟨q0, rfl⟩ : ∃ q, a = q + 1 := ⟨a - 1, by omega⟩
  have hw : (ax_w b base tc h)[q0]? = some (base + q0, .inl (tc 2, n, .inl f)) := by rw [ax_w_at, ha]; rfl
  refine W.bast hx hb (hA.1 q0 _ hw) ((hK.1.2 2 _ (ax_tys_at rfl)).1 n (fun j => .int (f j))) (fun q => by cases q) (by show ¬ (i < 0 ∨ (arrV _ _ _).slots.size ≤ _); rw [arrV_size]; exact hin) rfl rfl hd fun H1 e z oq => ?_
  refine kk H1 _ (ax_wrote hA hbb ha ?_ z oq) (hS.put z oq (Nat.le_add_right _ _))
  show H1[base + q0]? = some (vp_cell _ _)
  rw [e]
  show some ((vp_cell (tc 2) (n, .inl f)).setSlot _ _) = some (vp_cell (tc 2) (n, .inl _))
  rw [vp_cell_i, vp_cell_i, arrV_store]
  congr 2
  funext q
  by_cases hq : q = i.toNatClampNeg
  · subst hq
    simp [updV, upd, vp_nar]
    try rfl
  · simp [updV, upd, hq]
theorem ax_newL {n : Int32} (N : Nat) (hd : decode M.2.1 pc = .ok (.newarray .long, 2)) (hn : ¬ n < 0) (hN : n.toNatClampNeg = N) (hb8 : N ≤ 10000000) (hw : Cond.arrayClass .long ∈ ax_all) (kk : ax_W M d (pc + 2) lv (.ref h.length :: st) (h ++ [.inl (1, N, .inr (.inl (fun _ => 0)))]) Q) : ax_W M d pc lv (.int n :: st) h Q := by
  refine ax_stepN (fun p l e R s m args below meth c H locs cells slots Qs ls b base D tc C hc hs hA hS kk => ?_) kk
  obtain ⟨hx, hb, hml, hr, hlk, hnm, how, hts, hK, hbb⟩ := C
  obtain ⟨a1, a2, a3⟩ := ax_ad_len hA
  have hs : slots + N ≤ R.slots := hs
  refine va_newaK (atype := .long) hx hb (hts _ hw) rfl hd rfl hn hN (by show N * 8 ≤ 536870912; omega) hc hs rfl fun H1 cA e1 z1 o1 hAr hNm => ?_
  have hcA : cA = tc 1 := by
    have h2 : s.vm.findClass ("[" ++ FieldType.toString .long) = some (tc 1) := (hK.1.2 1 _ (ax_tys_at rfl)).2
    exact Option.some.inj (hNm.symm.trans h2)
  subst hcA
  have K := kk H1 locs (ax_made hA hbb ?_ z1 o1) (ax_S_new hS z1 o1)
  · have e9 : ((Value.ref h.length :: st).map (ax_v b base)) = .ref H.size :: st.map (ax_v b base) := by
      show Value.ref (ax_ad b base h.length) :: _ = _
      rw [a1]
    rw [e9] at K
    exact K
  · show H1[H.size]? = some (vp_cell _ _)
    rw [e1]
    rfl
theorem ax_newB {n : Int32} (N : Nat) (hd : decode M.2.1 pc = .ok (.newarray .byte, 2)) (hn : ¬ n < 0) (hN : n.toNatClampNeg = N) (hb8 : N ≤ 10000000) (hw : Cond.arrayClass .byte ∈ ax_all) (kk : ax_W M d (pc + 2) lv (.ref h.length :: st) (h ++ [.inl (2, N, .inl (fun _ => 0))]) Q) : ax_W M d pc lv (.int n :: st) h Q := by
  refine ax_stepN (fun p l e R s m args below meth c H locs cells slots Qs ls b base D tc C hc hs hA hS kk => ?_) kk
  obtain ⟨hx, hb, hml, hr, hlk, hnm, how, hts, hK, hbb⟩ := C
  obtain ⟨a1, a2, a3⟩ := ax_ad_len hA
  have hs : slots + N ≤ R.slots := hs
  refine va_newaK (atype := .byte) hx hb (hts _ hw) rfl hd rfl hn hN (by show N * 1 ≤ 536870912; omega) hc hs rfl fun H1 cA e1 z1 o1 hAr hNm => ?_
  have hcA : cA = tc 2 := by
    have h2 : s.vm.findClass ("[" ++ FieldType.toString .byte) = some (tc 2) := (hK.1.2 2 _ (ax_tys_at rfl)).2
    exact Option.some.inj (hNm.symm.trans h2)
  subst hcA
  have K := kk H1 locs (ax_made hA hbb ?_ z1 o1) (ax_S_new hS z1 o1)
  · have e9 : ((Value.ref h.length :: st).map (ax_v b base)) = .ref H.size :: st.map (ax_v b base) := by
      show Value.ref (ax_ad b base h.length) :: _ = _
      rw [a1]
    rw [e9] at K
    exact K
  · show H1[H.size]? = some (vp_cell _ _)
    rw [e1]
    rfl
theorem ax_tabOut {dflt lo hi : Int} {offs : Array Int} {len tgt : Nat} {x : Int32} (hd : decode M.2.1 pc = .ok (.tableswitch dflt lo hi offs, len)) (hr : x.toInt < lo ∨ hi < x.toInt) (ht : (pc : Int) + dflt = (tgt : Int)) (k : ax_W M d tgt lv st h Q) : ax_W M d pc lv (.int x :: st) h Q :=
  ax_step (fun p l e R s m args below meth c H locs cells slots Qs ls b base hx hb ho hts hl k => lv_tableOut hx hb hd hr ht (k ls hl)) k
theorem ax_tabIn {dflt lo hi : Int} {offs : Array Int} {len tgt : Nat} {x : Int32} {off : Int} (hd : decode M.2.1 pc = .ok (.tableswitch dflt lo hi offs, len)) (h1 : ¬ x.toInt < lo) (h2 : ¬ hi < x.toInt) (ho : offs[(x.toInt - lo).toNat]? = some off) (ht : (pc : Int) + off = (tgt : Int)) (k : ax_W M d tgt lv st h Q) : ax_W M d pc lv (.int x :: st) h Q :=
  ax_step (fun p l e R s m args below meth c H locs cells slots Qs ls b base hx hb ho' hts hl k => lv_tableIn hx hb hd h1 h2 ho ht (k ls hl)) k
/-! the same over Int -/
theorem aj_lald {a n : Nat} {g : Nat → Int} {z : Int} (hd : decode M.2.1 pc = .ok (.laload, 1)) (ha : h[a]? = some (ja n g)) (h0 : 0 ≤ z) (h1 : z < n) (hn : n ≤ 100000000) (kk : ax_W M d (pc + 1) lv (.long (lz (g z.toNat)) :: st) h Q) : ax_W M d pc lv (.int (iv z) :: .ref a :: st) h Q :=
  ax_lald hd ha (iv_in h0 h1 hn) (by rw [iv_cl (by omega)]; exact kk)
theorem aj_bald {a n : Nat} {g : Nat → Int} {z : Int} (hd : decode M.2.1 pc = .ok (.baload, 1)) (ha : h[a]? = some (ba n g)) (h0 : 0 ≤ z) (h1 : z < n) (hn : n ≤ 100000000) (kk : ax_W M d (pc + 1) lv (.int (iv (g z.toNat)) :: st) h Q) : ax_W M d pc lv (.int (iv z) :: .ref a :: st) h Q :=
  ax_bald hd ha (iv_in h0 h1 hn) (by rw [iv_cl (by omega)]; exact kk)
theorem ja_up (n : Nat) (g : Nat → Int) (k : Nat) (x : Int) : (Sum.inl (1, n, Sum.inr (Sum.inl (vp_updL (fun j => lz (g j)) k (lz x)))) : ax_C) = ja n (up g k x) := by
  unfold ja
  congr 5
  funext j
  unfold vp_updL up
  split <;> rfl
theorem ba_up (n : Nat) (g : Nat → Int) (k : Nat) (x : Int) : (Sum.inl (2, n, Sum.inl (upd (fun j => iv (g j)) k (vp_nar .byte (iv x)))) : ax_C) = ba n (up g k (sb x)) := by
  unfold ba
  have e : vp_nar .byte (iv x) = iv (sb x) := sb_i x
  rw [e]
  congr 4
  funext j
  unfold upd up
  split <;> rfl
theorem ah_last {a n : Nat} {g : Nat → Int} {z x : Int} (hd : decode M.2.1 pc = .ok (.lastore, 1)) (hH : Hs h L) (hF : Fr S h0 h) (i : Nat) (e : L[i]? = some (a, ja n g)) (haS : S.contains a = true) (ha0 : 0 < a) (hz0 : 0 ≤ z) (hz1 : z < n) (hn : n ≤ 100000000)
    (kk : ∀ h1 : ax_H, Hs h1 (L.set i (a, ja n (up g z.toNat x))) → Fr S h0 h1 → ax_W M d (pc + 1) lv st h1 Q) : ax_W M d pc lv (.long (lz x) :: .int (iv z) :: .ref a :: st) h Q :=
  ax_last hd (hH.g i e) ha0 (iv_in hz0 hz1 hn) (by rw [iv_cl (by omega), ja_up]; exact kk _ (hH.s i e _) (hF.st haS (hH.g i e) rfl))
theorem ah_bast {a n : Nat} {g : Nat → Int} {z x : Int} (hd : decode M.2.1 pc = .ok (.bastore, 1)) (hH : Hs h L) (hF : Fr S h0 h) (i : Nat) (e : L[i]? = some (a, ba n g)) (haS : S.contains a = true) (ha0 : 0 < a) (hz0 : 0 ≤ z) (hz1 : z < n) (hn : n ≤ 100000000)
    (kk : ∀ h1 : ax_H, Hs h1 (L.set i (a, ba n (up g z.toNat (sb x)))) → Fr S h0 h1 → ax_W M d (pc + 1) lv st h1 Q) : ax_W M d pc lv (.int (iv x) :: .int (iv z) :: .ref a :: st) h Q :=
  ax_bast hd (hH.g i e) ha0 (iv_in hz0 hz1 hn) (by rw [iv_cl (by omega), ba_up]; exact kk _ (hH.s i e _) (hF.st haS (hH.g i e) rfl))
theorem aj_i2l {a : Int} (hd : decode M.2.1 pc = .ok (.i2l, 1)) (ha : -2147483648 ≤ a ∧ a < 2147483648) (k : ax_W M d (pc + 1) lv (.long (lz a) :: st) h Q) : ax_W M d pc lv (.int (iv a) :: st) h Q := ax_i2l hd (by rw [lz_i2l ha]; exact k)
theorem aj_l2i {a : Int} (hd : decode M.2.1 pc = .ok (.l2i, 1)) (k : ax_W M d (pc + 1) lv (.int (iv a) :: st) h Q) : ax_W M d pc lv (.long (lz a) :: st) h Q := ax_l2i hd (by rw [lz_l2i]; exact k)
theorem aj_i2b {a : Int} (hd : decode M.2.1 pc = .ok (.i2b, 1)) (k : ax_W M d (pc + 1) lv (.int (iv (sb a)) :: st) h Q) : ax_W M d pc lv (.int (iv a) :: st) h Q := ax_i2b hd (by rw [sb_i]; exact k)
theorem aj_ladd {a b : Int} (hd : decode M.2.1 pc = .ok (.ladd, 1)) (k : ax_W M d (pc + 1) lv (.long (lz (a + b)) :: st) h Q) : ax_W M d pc lv (.long (lz b) :: .long (lz a) :: st) h Q := ax_ladd hd (by rw [lz_add]; exact k)
theorem aj_lcmp {a b : Int} (hd : decode M.2.1 pc = .ok (.lcmp, 1)) (ha : -9000000000000000000 ≤ a ∧ a < 9000000000000000000) (hb : -9000000000000000000 ≤ b ∧ b < 9000000000000000000) (k : ax_W M d (pc + 1) lv (.int (iv (cmp3 a b)) :: st) h Q) : ax_W M d pc lv (.long (lz b) :: .long (lz a) :: st) h Q := ax_lcmp hd (by rw [lz_cmp ha hb]; exact k)
theorem aj_lconst {n : Fin 2} (v : Int) (hd : decode M.2.1 pc = .ok (.lconst n, 1)) (hv : ((n : Nat) : Int) = v) (k : ax_W M d (pc + 1) lv (.long (lz v) :: st) h Q) : ax_W M d pc lv st h Q := by
  subst hv
  exact ax_lconst _ hd Int64.ofInt_eq_ofNat.symm k
theorem aj_ldc2 {index : Nat} (v : Int) (hd : decode M.2.1 pc = .ok (.ldc2_w index, 3)) (hw : Cond.constantLong M.1.cls index (lz v) ∈ ax_all) (k : ax_W M d (pc + 3) lv (.long (lz v) :: st) h Q) : ax_W M d pc lv st h Q := ax_ldc2 hd hw k
def lzand (a b : Int) : Int := (lz a &&& lz b).toInt
def lzor (a b : Int) : Int := (lz a ||| lz b).toInt
def lzshl (a b : Int) : Int := (lz a <<< ((iv b).toInt64 &&& 63)).toInt
def lzshr (a b : Int) : Int := (lz a >>> ((iv b).toInt64 &&& 63)).toInt
theorem aj_land {a b : Int} (hd : decode M.2.1 pc = .ok (.land, 1)) (k : ax_W M d (pc + 1) lv (.long (lz (lzand a b)) :: st) h Q) : ax_W M d pc lv (.long (lz b) :: .long (lz a) :: st) h Q := ax_land hd (by rw [lzand, lz_of] at k; exact k)
theorem aj_lor {a b : Int} (hd : decode M.2.1 pc = .ok (.lor, 1)) (k : ax_W M d (pc + 1) lv (.long (lz (lzor a b)) :: st) h Q) : ax_W M d pc lv (.long (lz b) :: .long (lz a) :: st) h Q := ax_lor hd (by rw [lzor, lz_of] at k; exact k)
theorem aj_lshl {a b : Int} (hd : decode M.2.1 pc = .ok (.lshl, 1)) (k : ax_W M d (pc + 1) lv (.long (lz (lzshl a b)) :: st) h Q) : ax_W M d pc lv (.int (iv b) :: .long (lz a) :: st) h Q := ax_lshl hd (by rw [lzshl, lz_of] at k; exact k)
theorem aj_lshr {a b : Int} (hd : decode M.2.1 pc = .ok (.lshr, 1)) (k : ax_W M d (pc + 1) lv (.long (lz (lzshr a b)) :: st) h Q) : ax_W M d pc lv (.int (iv b) :: .long (lz a) :: st) h Q := ax_lshr hd (by rw [lzshr, lz_of] at k; exact k)
end AXL2
