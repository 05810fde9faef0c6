/-! both together: frames, the first state -/
theorem MoI.fr {h h1 : ax_H} {xs T out : List Int} {fp : Int} {S : List Nat} (k : MoI h xs T out fp) (hF : Fr S h h1) (hd : (MOS.all fun a => !S.contains a) = true) : MoI h1 xs T out fp := by
  obtain ⟨iz, ar, hH, hQ⟩ := k
  exact ⟨iz, ar, hH.fr hF hd, hQ⟩
theorem ClQ.frM {h h1 : ax_H} {xs T out : List Int} {fp : Int} (k : ClQ h xs T out fp) (hF : Fr MOS h h1) : ClQ h1 xs T out fp := by
  obtain ⟨k1, k2, k3, k4, k5, k6, k7, k8, f, k9⟩ := k
  exact ⟨k1.fr hF rfl rfl, k2, k3.fr hF rfl rfl, k4.fr hF rfl, k5.fr hF rfl, k6.fr hF rfl rfl, k7, k8.fr hF rfl rfl, f, k9.fr hF rfl⟩
theorem ClI.frM {h h1 : ax_H} {xs T out : List Int} {fp : Int} (k : ClI h xs T out fp) (hF : Fr MOS h h1) : ClI h1 xs T out fp := by
  obtain ⟨pf, tf, cf, k0, k1, hp, ht, hc⟩ := k
  exact ⟨pf, tf, cf, k0.fr hF rfl, k1.frM hF, fun q => ⟨(hp q).1.fr hF rfl rfl, (hp q).2⟩, fun q => (ht q).fr hF rfl rfl rfl, fun q => (hc q).fr hF rfl rfl⟩
def z0 : Nat → Int := fun _ => 0
/-- the cells once both are made -/
def H66 (c0 : ax_C) : ax_H := [c0, ob 0 [.ref 2, .ref 4, .ref 6, .ref 39, .ref 42, .int (iv 0), .int (iv 0), .int (iv 0)], ob 6 [.ref 3, .int (iv 0)], ia 600 (fun _ => 0), ob 6 [.ref 5, .int (iv 0)], ia 750 (fun _ => 0), ob 1 [.ref 7, .ref 15, .ref 18, .ref 22, .ref 33, .ref 35, .ref 37], ob 10 [.ref 8, .ref 10, .ref 11, .ref 12, .ref 13, .ref 14, .int (iv 0), .int (iv 0), .int (iv 0)], ob 6 [.ref 9, .int (iv 0)], ia 900 (fun _ => 0), ia 900 (fun _ => 0), ia 900 (fun _ => 0), ia 900 (fun _ => 0), ia 900 (fun _ => 0), ia 901 (fun _ => 0), ob 2 [.ref 16, .ref 17, .int (iv 0)], ia 900 (fun _ => 0), ia 257 (fun _ => 0), ob 9 [.ref 19, .ref 21, .int (iv 0), .int (iv 0)], ob 4 [.ref 20, .int (iv 0)], ia 256 (fun _ => 0), ia 901 (fun _ => 0), ob 3 [.ref 23, .ref 28, .ref 29, .ref 30, .ref 31, .ref 32, .int (iv 0)], ob 5 [.ref 24, .ref 25, .ref 26, .ref 27, .int (iv 0)], ia 258 (fun _ => 0), ia 258 (fun _ => 0), ia 516 (fun _ => 0), ia 516 (fun _ => 0), ia 258 (fun _ => 0), ia 258 (fun _ => 0), ia 258 (fun _ => 0), ia 258 (fun _ => 0), ia 13 (fun _ => 0), ob 6 [.ref 34, .int (iv 0)], ia 900 (fun _ => 0), ob 6 [.ref 36, .int (iv 0)], ia 600 (fun _ => 0), ob 6 [.ref 38, .int (iv 0)], ia 750 (fun _ => 0), ob 8 [.ref 40, .int (iv 0), .int (iv 0)], ob 6 [.ref 41, .int (iv 0)], ia 2000 (fun _ => 0), ob 7 [.ref 43, .ref 45, .int (iv 0), .int (iv 0), .int (iv 0), .int (iv 0), .int (iv 0), .int (iv 0), .int (iv (-2))], ob 6 [.ref 44, .int (iv 0)], ia 3000 (fun _ => 0), ob 6 [.ref 46, .int (iv 0)], ia 900 (fun _ => 0), ob 11 [.int (iv 0), .ref 48, .int (iv 0), .ref 49, .ref 50, .ref 51, .int (iv 0), .ref 52, .int (iv 0), .int (iv 0), .ref 53, .ref 54, .int (iv 0), .ref 55, .int (iv 0), .ref 56, .ref 57, .ref 58, .ref 59, .ref 60, .ref 61, .ref 62, .ref 63, .int (iv 0), .int (iv 0), .ref 64, .int (iv 0), .int (iv 0), .int (iv 0), .int (iv (-2)), .ref 65], ia 600 (fun _ => 0), ia 900 (fun _ => 0), ia 900 (fun _ => 0), ia 900 (fun _ => 0), ia 600 (fun _ => 0), ia 900 (fun _ => 0), ia 900 (fun _ => 0), ia 256 (fun _ => 0), ia 902 (fun _ => 0), ia 258 (fun _ => 0), ia 258 (fun _ => 0), ja 515 (fun _ => 0), ia 515 (fun _ => 0), ia 515 (fun _ => 0), ja 258 (fun _ => 0), ba 3000 (fun _ => 0), ba 3000 (fun _ => 0), ia 600 (fun _ => 0)]
theorem Rw_0 {h : ax_H} {r ra cap : Nat} (h1 : h[r]? = some (ob 6 [.ref ra, .int (iv 0)])) (h2 : h[ra]? = some (ia cap (fun _ => 0))) (hne : ([ra] : List Nat).contains r = false) (hc : cap ≤ 3000) (hp : 0 < ra) : Rw h r ra cap [] :=
  ⟨fun _ => 0, Hs.c h1 hne (Hs.c h2 rfl Hs.n), fun i hi => by simp at hi, by simp, hc, hp⟩
set_option maxRecDepth 100000 in
set_option maxHeartbeats 4000000 in
theorem ClI_0 (c0 : ax_C) : ClI (H66 c0) [] [] [] (-2) := by
  refine ClI.none (Hs.c rfl rfl Hs.n) ⟨Rw_0 rfl rfl rfl (by omega) (by omega), Bs_nil, ⟨[], Rw_0 rfl rfl rfl (by omega) (by omega)⟩, ⟨rfl, ?_, ⟨[], Rw_0 rfl rfl rfl (by omega) (by omega)⟩, ?_, ?_, ?_, ?_, ?_, ⟨[], Rw_0 rfl rfl rfl (by omega) (by omega)⟩, ⟨[], Rw_0 rfl rfl rfl (by omega) (by omega)⟩, ⟨[], Rw_0 rfl rfl rfl (by omega) (by omega)⟩⟩, ?_, Rw_0 rfl rfl rfl (by omega) (by omega), Bs_nil, ⟨[], Rw_0 rfl rfl rfl (by omega) (by omega)⟩, 0, ?_⟩
  · exact ⟨0, 0, 0, fun _ => 0, fun _ => 0, fun _ => 0, fun _ => 0, fun _ => 0, Hs.c rfl rfl (Hs.c rfl rfl (Hs.c rfl rfl (Hs.c rfl rfl (Hs.c rfl rfl (Hs.c rfl rfl Hs.n)))))⟩
  · exact ⟨0, fun _ => 0, fun _ => 0, Hs.c rfl rfl (Hs.c rfl rfl (Hs.c rfl rfl Hs.n))⟩
  · exact ⟨[], 0, fun _ => 0, Hs.c rfl rfl (Hs.c rfl rfl Hs.n), fun i hi => by simp at hi, by simp⟩
  · exact ⟨[], fun _ => 0, Hs.c rfl rfl (Hs.c rfl rfl Hs.n), fun i hi => by simp at hi, by simp⟩
  · exact ⟨0, fun _ => 0, fun _ => 0, fun _ => 0, fun _ => 0, fun _ => 0, Hs.c rfl rfl (Hs.c rfl rfl (Hs.c rfl rfl (Hs.c rfl rfl (Hs.c rfl rfl (Hs.c rfl rfl Hs.n)))))⟩
  · exact ⟨0, fun _ => 0, fun _ => 0, fun _ => 0, fun _ => 0, Hs.c rfl rfl (Hs.c rfl rfl (Hs.c rfl rfl (Hs.c rfl rfl (Hs.c rfl rfl Hs.n))))⟩
  · exact ⟨([], 0, 0), ⟨Hs.c rfl rfl Hs.n, Rw_0 rfl rfl rfl (by omega) (by omega), okW0⟩, rfl⟩
  · exact ⟨0, 0, 0, 0, 0, Hs.c rfl rfl Hs.n⟩
set_option maxRecDepth 100000 in
set_option maxHeartbeats 4000000 in
theorem MoI_0 (c0 : ax_C) : MoI (H66 c0) [] [] [] (-2) := by
  refine ⟨fun j => if j = 29 then -2 else 0, fun _ _ => 0, ?_, ?_⟩
  · exact Hs.c rfl rfl (Hs.c rfl rfl (Hs.c rfl rfl (Hs.c rfl rfl (Hs.c rfl rfl (Hs.c rfl rfl (Hs.c rfl rfl (Hs.c rfl rfl (Hs.c rfl rfl (Hs.c rfl rfl (Hs.c rfl rfl (Hs.c rfl rfl (Hs.c rfl rfl (Hs.c rfl rfl (Hs.c rfl rfl (Hs.c rfl rfl (Hs.c rfl rfl (Hs.c rfl rfl (Hs.c rfl rfl Hs.n))))))))))))))))))
  · exact ⟨rfl, by simp, fun i hi => by simp at hi, Bs_nil, Or.inl rfl, rfl, by simp, fun i hi => by simp at hi, Bs_nil, rfl, by simp, fun i hi => by simp at hi, Bs_nil, rfl⟩
theorem isARnd_uniq {xs : List Int} {a b : Int} (h1 : isARnd xs a) (h2 : isARnd xs b) : a = b := by
  unfold isARnd at h1 h2
  by_cases h : xs.length = 0
  · rw [if_pos h] at h1 h2
    rw [h1, h2]
  · rw [if_neg h] at h1 h2
    obtain ⟨r, rfl, q1⟩ := h1
    obtain ⟨s, rfl, q2⟩ := h2
    rw [isRnd_uniq q1 q2]
theorem zand31 (a : Int) : 0 ≤ zand a 31 ∧ zand a 31 < 32 := by
  obtain ⟨q, m, hm, e, e2⟩ := iv_wrap a
  have : zand a 31 = ((m % 32 : Nat) : Int) := by
    unfold zand
    rw [e2, show iv 31 = nI 31 from rfl]
    have h1 : nI m &&& nI 31 = nI (m &&& 31) := by
      apply Int32.toBitVec_inj.mp
      apply BitVec.eq_of_getLsbD_eq
      intro i hi
      simp [nI, Nat.testBit_and]
    have h2 : m &&& 31 = m % 32 := Nat.and_two_pow_sub_one_eq_mod m 5
    rw [h1, h2, toInt_nI (by omega)]
  rw [this]
  omega
