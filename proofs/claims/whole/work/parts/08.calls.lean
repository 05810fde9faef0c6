/-! calls by the number of their arguments; words by their places in the tables -/
theorem w_in (i : Nat) {w : Cond} (h : tables_1[i]? = some w) (g : ax_good w = true) : w ∈ ax_all := ax_all_in (List.mem_append_right _ (List.mem_of_getElem? h)) g
theorem w_nt (i : Nat) {w : Cond} (h : tables_1[i]? = some w) (g : ax_isN w = true) : w ∈ ax_nest := ax_nest_in (List.mem_append_right _ (List.mem_of_getElem? h)) g
theorem w_se (i : Nat) {w : Cond} (h : (k2_sels lw_privs)[i]? = some w) (g : ax_good w = true) : w ∈ ax_all := ax_all_in (List.mem_append_left _ (List.mem_of_getElem? h)) g
def ax_V (N : ax_M) (n ci : Nat) : Prop := ax_okM N n ∧ Cond.instanceMethod N.1 ∈ ax_all ∧ Cond.selects N.1.cls N.1 N.1 ∈ ax_all ∧ ∃ C : vw_C, vwCl[ci]? = some C ∧ C.1 = N.1.cls
def ax_S (N : ax_M) (n : Nat) : Prop := ax_okM N n ∧ Cond.static N.1 ∈ ax_all
def ax_I (N : ax_M) (n : Nat) : Prop := ax_okM N n ∧ N.2.2.2 = none ∧ N.1.name = "<init>" ∧ Cond.instanceMethod N.1 ∈ ax_all
section AXC
variable {M : ax_M} {d pc : Nat} {lv : ax_L} {st : List Value} {h : ax_H} {Q : Option Value → ax_H → Prop}
theorem ax_cV {N : ax_M} {d' idx n a ci : Nat} {fs As rest : List Value} (hd : decode M.2.1 pc = .ok (.invokevirtual idx, 3)) (hN : ax_V N n ci) (hL : ax_lk M.1.cls idx N.1) (ha : h[a]? = some (.inr (ci, fs))) (hn : As.length = n) (hdd : d' + 1 ≤ d) (hcat : (rest.map fun v => v.category).sum ≤ 8)
    (k : ax_Cl N d' (.ref a :: As) h (fun r h1 => ax_W M d (pc + 3) lv (r.toList ++ rest) h1 Q)) : ax_W M d pc lv (As.reverse ++ .ref a :: rest) h Q := by
  obtain ⟨h1, h2, h3, C, h4, h5⟩ := hN
  exact ax_callV hd h1 h2 h3 hL h4 h5 ha hn hdd hcat k
theorem ax_cV0 {N : ax_M} {d' idx a ci : Nat} {fs : List Value} (hd : decode M.2.1 pc = .ok (.invokevirtual idx, 3)) (hN : ax_V N 0 ci) (hL : ax_lk M.1.cls idx N.1) (ha : h[a]? = some (.inr (ci, fs))) (hdd : d' + 1 ≤ d) (hcat : (st.map fun v => v.category).sum ≤ 8)
    (k : ax_Cl N d' [.ref a] h (fun r h1 => ax_W M d (pc + 3) lv (r.toList ++ st) h1 Q)) : ax_W M d pc lv (.ref a :: st) h Q := ax_cV (As := []) hd hN hL ha rfl hdd hcat k
theorem ax_cV1 {N : ax_M} {d' idx a ci : Nat} {fs : List Value} {v1 : Value} (hd : decode M.2.1 pc = .ok (.invokevirtual idx, 3)) (hN : ax_V N 1 ci) (hL : ax_lk M.1.cls idx N.1) (ha : h[a]? = some (.inr (ci, fs))) (hdd : d' + 1 ≤ d) (hcat : (st.map fun v => v.category).sum ≤ 8)
    (k : ax_Cl N d' [.ref a, v1] h (fun r h1 => ax_W M d (pc + 3) lv (r.toList ++ st) h1 Q)) : ax_W M d pc lv (v1 :: .ref a :: st) h Q := ax_cV (As := [v1]) hd hN hL ha rfl hdd hcat k
theorem ax_cV2 {N : ax_M} {d' idx a ci : Nat} {fs : List Value} {v1 v2 : Value} (hd : decode M.2.1 pc = .ok (.invokevirtual idx, 3)) (hN : ax_V N 2 ci) (hL : ax_lk M.1.cls idx N.1) (ha : h[a]? = some (.inr (ci, fs))) (hdd : d' + 1 ≤ d) (hcat : (st.map fun v => v.category).sum ≤ 8)
    (k : ax_Cl N d' [.ref a, v1, v2] h (fun r h1 => ax_W M d (pc + 3) lv (r.toList ++ st) h1 Q)) : ax_W M d pc lv (v2 :: v1 :: .ref a :: st) h Q := ax_cV (As := [v1, v2]) hd hN hL ha rfl hdd hcat k
theorem ax_cV3 {N : ax_M} {d' idx a ci : Nat} {fs : List Value} {v1 v2 v3 : Value} (hd : decode M.2.1 pc = .ok (.invokevirtual idx, 3)) (hN : ax_V N 3 ci) (hL : ax_lk M.1.cls idx N.1) (ha : h[a]? = some (.inr (ci, fs))) (hdd : d' + 1 ≤ d) (hcat : (st.map fun v => v.category).sum ≤ 8)
    (k : ax_Cl N d' [.ref a, v1, v2, v3] h (fun r h1 => ax_W M d (pc + 3) lv (r.toList ++ st) h1 Q)) : ax_W M d pc lv (v3 :: v2 :: v1 :: .ref a :: st) h Q := ax_cV (As := [v1, v2, v3]) hd hN hL ha rfl hdd hcat k
theorem ax_cS {N : ax_M} {d' idx n : Nat} {As rest : List Value} (hd : decode M.2.1 pc = .ok (.invokestatic idx, 3)) (hN : ax_S N n) (hL : ax_lk M.1.cls idx N.1) (hn : As.length = n) (hdd : d' + 1 ≤ d) (hcat : (rest.map fun v => v.category).sum ≤ 8)
    (k : ax_Cl N d' As h (fun r h1 => ax_W M d (pc + 3) lv (r.toList ++ rest) h1 Q)) : ax_W M d pc lv (As.reverse ++ rest) h Q := ax_callS hd hN.1 hN.2 hL hn hdd hcat k
theorem ax_cS1 {N : ax_M} {d' idx : Nat} {v1 : Value} (hd : decode M.2.1 pc = .ok (.invokestatic idx, 3)) (hN : ax_S N 1) (hL : ax_lk M.1.cls idx N.1) (hdd : d' + 1 ≤ d) (hcat : (st.map fun v => v.category).sum ≤ 8)
    (k : ax_Cl N d' [v1] h (fun r h1 => ax_W M d (pc + 3) lv (r.toList ++ st) h1 Q)) : ax_W M d pc lv (v1 :: st) h Q := ax_cS (As := [v1]) hd hN hL rfl hdd hcat k
theorem ax_cS2 {N : ax_M} {d' idx : Nat} {v1 v2 : Value} (hd : decode M.2.1 pc = .ok (.invokestatic idx, 3)) (hN : ax_S N 2) (hL : ax_lk M.1.cls idx N.1) (hdd : d' + 1 ≤ d) (hcat : (st.map fun v => v.category).sum ≤ 8)
    (k : ax_Cl N d' [v1, v2] h (fun r h1 => ax_W M d (pc + 3) lv (r.toList ++ st) h1 Q)) : ax_W M d pc lv (v2 :: v1 :: st) h Q := ax_cS (As := [v1, v2]) hd hN hL rfl hdd hcat k
theorem ax_cS3 {N : ax_M} {d' idx : Nat} {v1 v2 v3 : Value} (hd : decode M.2.1 pc = .ok (.invokestatic idx, 3)) (hN : ax_S N 3) (hL : ax_lk M.1.cls idx N.1) (hdd : d' + 1 ≤ d) (hcat : (st.map fun v => v.category).sum ≤ 8)
    (k : ax_Cl N d' [v1, v2, v3] h (fun r h1 => ax_W M d (pc + 3) lv (r.toList ++ st) h1 Q)) : ax_W M d pc lv (v3 :: v2 :: v1 :: st) h Q := ax_cS (As := [v1, v2, v3]) hd hN hL rfl hdd hcat k
theorem ax_cI0 {N : ax_M} {d' idx a : Nat} (hd : decode M.2.1 pc = .ok (.invokespecial idx, 3)) (hN : ax_I N 0) (hL : ax_lk M.1.cls idx N.1) (hdd : d' + 1 ≤ d) (hcat : (st.map fun v => v.category).sum ≤ 8)
    (k : ax_Cl N d' [.ref a] h (fun r h1 => ax_W M d (pc + 3) lv (r.toList ++ st) h1 Q)) : ax_W M d pc lv (.ref a :: st) h Q := ax_callI (As := []) hd hN.1 hN.2.1 hN.2.2.1 hN.2.2.2 hL rfl hdd hcat k
theorem ax_cI1 {N : ax_M} {d' idx a : Nat} {v1 : Value} (hd : decode M.2.1 pc = .ok (.invokespecial idx, 3)) (hN : ax_I N 1) (hL : ax_lk M.1.cls idx N.1) (hdd : d' + 1 ≤ d) (hcat : (st.map fun v => v.category).sum ≤ 8)
    (k : ax_Cl N d' [.ref a, v1] h (fun r h1 => ax_W M d (pc + 3) lv (r.toList ++ st) h1 Q)) : ax_W M d pc lv (v1 :: .ref a :: st) h Q := ax_callI (As := [v1]) hd hN.1 hN.2.1 hN.2.2.1 hN.2.2.2 hL rfl hdd hcat k
end AXC
