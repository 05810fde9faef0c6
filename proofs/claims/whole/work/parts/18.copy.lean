/-! System.arraycopy between two arrays of ints -/
section AXY
variable {M : ax_M} {d pc : Nat} {lv : ax_L} {st : List Value} {h : ax_H} {Q : Option Value → ax_H → Prop}
theorem ax_copy {a0 a1 n0 n1 idx : Nat} {f g : Nat → Int32} {sp dp n : Int32} (hd : decode M.2.1 pc = .ok (.invokestatic idx, 3)) (hl : Cond.methodLink M.1.cls idx arraycopyName ∈ ax_all) (ha0 : h[a0]? = some (.inl (0, n0, .inl f))) (ha1 : h[a1]? = some (.inl (0, n1, .inl g))) (hp0 : 0 < a0) (hp1 : 0 < a1)
    (h1 : ¬ sp < 0) (h2 : ¬ dp < 0) (h3 : ¬ n < 0) (h4 : sp.toNatClampNeg + n.toNatClampNeg ≤ n0) (h5 : dp.toNatClampNeg + n.toNatClampNeg ≤ n1) (hd1 : 1 ≤ d) (hcat : (st.map fun v => v.category).sum ≤ 8)
    (kk : ax_W M d (pc + 3) lv st (h.set a1 (.inl (0, n1, .inl (va_cpy f g sp.toNatClampNeg dp.toNatClampNeg n.toNatClampNeg)))) Q) : ax_W M d pc lv (.int n :: .int dp :: .ref a1 :: .int sp :: .ref a0 :: st) h Q := by
  refine ax_stepH (by rw [List.length_set]) (by exact ax_sl_set ha1 rfl) (fun p l e R s m args below meth c H locs cells slots Qs ls b base D tc C hR hA hS hls kk => ?_) kk
  obtain ⟨hx, hb, hml, hr, hlk, hnm, how, hts, hK, hbb⟩ := C
  obtain ⟨q0, rfl⟩ : ∃ q, a0 = q + 1 := ⟨a0 - 1, by omega⟩
  obtain ⟨q1, rfl⟩ : ∃ q, a1 = q + 1 := ⟨a1 - 1, by omega⟩
  have hw0 : (ax_w b base tc h)[q0]? = some (base + q0, .inl (tc 0, n0, .inl f)) := by rw [ax_w_at, ha0]; rfl
  have hw1 : (ax_w b base tc h)[q1]? = some (base + q1, .inl (tc 0, n1, .inl g)) := by rw [ax_w_at, ha1]; rfl
  have nn : ∀ z : Int32, ¬ z < 0 → z.toInt = (z.toNatClampNeg : Int) := by
    intro z hz
    have hz0 : (0 : Int) ≤ z.toInt := by
      have := Int32.not_lt.mp hz
      simpa using Int32.le_iff_toInt_le.mp this
    show z.toInt = ((z.toInt.toNat : Nat) : Int)
    omega
  have hc0 : H[base + q0]? = some (vp_cell (tc 0) (n0, .inl f)) := hA.1 q0 _ hw0
  have hc1 : H[base + q1]? = some (vp_cell (tc 0) (n1, .inl g)) := hA.1 q1 _ hw1
  have e1 := ax_cats b base st
  intro T hT X
  obtain ⟨-, k0, hk0, cm0, hkk0⟩ := (hK.1.2 0 _ (ax_tys_at rfl)).1 n0 (fun j => .int (f j))
  obtain ⟨-, k1, hk1, cm1, hkk1⟩ := (hK.1.2 0 _ (ax_tys_at rfl)).1 n1 (fun j => .int (g j))
  obtain ⟨vm', X', step⟩ := X.arraycopy hx how (hts _ hl) (hts _ sy_n) (hts _ sy_s) (hts _ sy_i) (src := base + q0) (dst := base + q1) (cs := vp_cell (tc 0) (n0, .inl f)) (cd := vp_cell (tc 0) (n1, .inl g)) (srcPos := sp) (destPos := dp) (n := n) (by rw [hT]; exact hc0) (by rw [hT]; exact hc1)
    (fun _ h => by cases h) (fun _ h => by cases h) (fun h => by cases h) (fun h => by cases h) hk0 hk1 hkk0 hkk1 (by rfl) h1 h2 h3
    (by rw [nn sp h1, nn n h3]; show ¬ _ > ((arrV (tc 0) n0 (fun j => .int (f j))).slots.size : Int); rw [arrV_size]; omega)
    (by rw [nn dp h2, nn n h3]; show ¬ _ > ((arrV (tc 0) n1 (fun j => .int (g j))).slots.size : Int); rw [arrV_size]; omega)
    (fun vm₁ _ i hi => by
      have e : (vp_cell (tc 0) (n0, .inl f)).slots.getD (sp.toNatClampNeg + i) .null = .int (f (sp.toNatClampNeg + i)) := by
        show (arrV (tc 0) n0 (fun j => .int (f j))).slots.getD _ _ = _
        rw [Array.getD_eq_getD_getElem?, arrV_read _ _ (by omega)]
        rfl
      refine ⟨?_, ?_⟩
      · rw [e]
        rfl
      · rw [e]
        exact trivial)
    (g := F0 m pc ls (.int n :: .int dp :: .ref (base + q1) :: .int sp :: .ref (base + q0) :: st.map (ax_v b base))) rfl (by rw [hml]; exact hls) (rest := st.map (ax_v b base)) rfl (by rw [hb]; exact hd) (Nat.le_trans hd1 hR.1) (by
      show 2 * 0 + _ + _ ≤ _
      rw [e1]
      have h9 : nativeFrameWords "java/lang/System" "arraycopy" 5 + 11 ≤ 37 := by decide
      have := hR.2.1
      omega)
  have ec : copied (vp_cell (tc 0) (n0, .inl f)) (vp_cell (tc 0) (n1, .inl g)) sp dp n = vp_cell (tc 0) (n1, .inl (va_cpy f g sp.toNatClampNeg dp.toNatClampNeg n.toNatClampNeg)) := va_copied (fun z => .int z) (tc 0) (tc 0) f g h4
  rw [ec] at X' step
  have hlt : base + q1 < H.size := (Array.getElem?_eq_some_iff.mp hc1).1
  have hheap : ((T.setVm vm').setCell (base + q1) (vp_cell (tc 0) (n1, .inl (va_cpy f g sp.toNatClampNeg dp.toNatClampNeg n.toNatClampNeg)))).heap = H.setIfInBounds (base + q1) (vp_cell (tc 0) (n1, .inl (va_cpy f g sp.toNatClampNeg dp.toNatClampNeg n.toNatClampNeg))) := by rw [← hT]; rfl
  have oq : ∀ q : Nat, q ≠ base + q1 → (H.setIfInBounds (base + q1) (vp_cell (tc 0) (n1, .inl (va_cpy f g sp.toNatClampNeg dp.toNatClampNeg n.toNatClampNeg))))[q]? = H[q]? := fun q hq => by simp [Array.getElem?_setIfInBounds, Ne.symm hq]
  have zz : (H.setIfInBounds (base + q1) (vp_cell (tc 0) (n1, .inl (va_cpy f g sp.toNatClampNeg dp.toNatClampNeg n.toNatClampNeg)))).size = H.size := by simp
  obtain ⟨t, a1, b1⟩ := kk _ _ (ax_wrote hA hbb ha1 (show (H.setIfInBounds (base + q1) _)[base + q1]? = some _ by simp [Array.getElem?_setIfInBounds, hlt]; rfl) zz oq) ⟨by rw [zz]; exact hS.1, fun q g1 g2 => by
      rw [oq q (fun e => g2 (by rw [e]; exact Nat.le_add_right _ _))]
      exact hS.2.1 q g1 g2, fun q hq => by
      rcases List.mem_append.mp hq with h | h
      · exact hS.2.2 q h
      · obtain ⟨z, -, hz⟩ := List.mem_map.mp h
        rw [← hz]
        exact Nat.le_add_right _ _⟩ _ hheap X'
  exact ⟨t, step t a1, b1⟩
end AXY
/-- the first n places of one array over another's -/
def cpy0 (f g : Nat → Int) (n : Nat) : Nat → Int := fun j => if j < n then f j else g j
section AXY2
variable {M : ax_M} {d pc : Nat} {lv : ax_L} {st : List Value} {h h0 : ax_H} {Q : Option Value → ax_H → Prop} {S : List Nat} {L : List (Nat × ax_C)}
theorem ah_copy0 {a0 a1 n0 n1 idx : Nat} {f g : Nat → Int} {n : Nat} (hd : decode M.2.1 pc = .ok (.invokestatic idx, 3)) (hl : Cond.methodLink M.1.cls idx arraycopyName ∈ ax_all) (hH : Hs h L) (hF : Fr S h0 h) (i0 i1 : Nat) (e0 : L[i0]? = some (a0, ia n0 f)) (e1 : L[i1]? = some (a1, ia n1 g)) (haS : S.contains a1 = true) (hp0 : 0 < a0) (hp1 : 0 < a1) (h4 : n ≤ n0) (h5 : n ≤ n1) (hn : n ≤ 3000) (hd1 : 1 ≤ d) (hcat : (st.map fun v => v.category).sum ≤ 8)
    (kk : ∀ h1 : ax_H, Hs h1 (L.set i1 (a1, ia n1 (cpy0 f g n))) → Fr S h0 h1 → ax_W M d (pc + 3) lv st h1 Q) : ax_W M d pc lv (.int (iv n) :: .int (iv 0) :: .ref a1 :: .int (iv 0) :: .ref a0 :: st) h Q := by
  have hz : (iv 0).toNatClampNeg = 0 := by rw [iv_cl (by omega)]; rfl
  have hm : (iv (n : Int)).toNatClampNeg = n := by rw [iv_cl (by omega)]; omega
  have n0 : ¬ iv 0 < 0 := by decide
  have nn : ¬ iv (n : Int) < 0 := by rw [iv_0, iv_lt (by omega) (by omega)]; omega
  refine ax_copy hd hl (hH.g i0 e0) (hH.g i1 e1) hp0 hp1 n0 n0 nn (by rw [hz, hm]; omega) (by rw [hz, hm]; omega) hd1 hcat ?_
  have e : (Sum.inl (0, n1, Sum.inl (va_cpy (fun j => iv (f j)) (fun j => iv (g j)) (iv 0).toNatClampNeg (iv 0).toNatClampNeg (iv (n : Int)).toNatClampNeg)) : ax_C) = ia n1 (cpy0 f g n) := by
    unfold ia
    congr 4
    funext j
    rw [hz, hm]
    unfold va_cpy cpy0
    by_cases q : j < n
    · rw [if_pos ⟨Nat.zero_le _, by omega⟩, if_pos q, Nat.sub_zero, Nat.zero_add]
    · rw [if_neg (by omega), if_neg q]
  rw [e]
  exact kk _ (hH.s i1 e1 _) (hF.st haS (hH.g i1 e1) rfl)
end AXY2
