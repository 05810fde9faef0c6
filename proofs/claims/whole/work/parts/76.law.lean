/-! the law: case by case, its loop (written by gen_law.py) -/
def LwI (h : ax_H) (L : Nat) (g : Nat → Int) (B T out : List Int) (fp : Int) : Prop := Hs h [(0, ia L g)] ∧ ClI h B T out fp ∧ MoI h B T out fp ∧ (∀ j : Nat, -2147483648 ≤ g j ∧ g j < 2147483648) ∧ h.length = 66 ∧ ax_sl h = L + 35691
set_option maxRecDepth 100000 in
set_option maxHeartbeats 4000000 in
theorem lw_feed {h : ax_H} {L : Nat} {g : Nat → Int} {B T out : List Int} {fp : Int} {i : Nat} {Q : Option Value → ax_H → Prop} (hI : LwI h L g B T out fp) (hi : i + 5 ≤ L) (hL : L ≤ 2560) (next : ∀ (h1 : ax_H) (B1 T1 out1 : List Int) (fp1 : Int), LwI h1 L g B1 T1 out1 fp1 → ax_W m_Lw_law 7 820 [some (.ref 0), some (.ref 1), some (.ref 47), some (.int (iv i))] [] h1 Q) : ax_W m_Lw_law 7 152 [some (.ref 0), some (.ref 1), some (.ref 47), some (.int (iv i))] [] h Q := by
  obtain ⟨hH, hC, hM, hg, hn, hsl⟩ := hI
  obtain ⟨pf, tf, cf, c1, -⟩ := id hC
  have c1 : h[1]? = some (SOb pf tf cf) := c1.g 0 rfl
  refine ax_aload_n d_Lw_law_152 rfl ?_
  refine ax_aload_n d_Lw_law_153 rfl ?_
  refine ax_iload_n d_Lw_law_154 rfl ?_
  refine az_iconst d_Lw_law_155 ?_
  refine az_iadd d_Lw_law_156 ?_
  refine az_iald d_Lw_law_157 (by first | assumption | exact hH.g 0 rfl) (by omega) (by omega) (by omega) ?_
  refine ax_i2l d_Lw_law_158 ?_
  refine az_bipush _ d_Lw_law_159 (by decide) ?_
  refine ax_lshl d_Lw_law_161 ?_
  refine ax_aload_n d_Lw_law_162 rfl ?_
  refine ax_iload_n d_Lw_law_163 rfl ?_
  refine az_iconst d_Lw_law_164 ?_
  refine az_iadd d_Lw_law_165 ?_
  refine az_iald d_Lw_law_166 (by first | assumption | exact hH.g 0 rfl) (by omega) (by omega) (by omega) ?_
  refine ax_i2l d_Lw_law_167 ?_
  refine ax_ldc2 d_Lw_law_168 cn_Lw_13 ?_
  refine ax_land d_Lw_law_171 ?_
  refine ax_lor d_Lw_law_172 ?_
  refine ax_aload_n d_Lw_law_173 rfl ?_
  refine ax_iload_n d_Lw_law_174 rfl ?_
  refine az_iconst d_Lw_law_175 ?_
  refine az_iadd d_Lw_law_176 ?_
  refine az_iald d_Lw_law_177 (by first | assumption | exact hH.g 0 rfl) (by omega) (by omega) (by omega) ?_
  refine ax_cV2 d_Lw_law_178 v_S_feed lk_Lw_15 (by first | assumption | exact hH.g 0 rfl) (by decide) (Nat.le_of_ble_eq_true rfl) (cm_i (c_S_feed hC _ (hg _)) (fun z h1 hq => ?_))
  obtain ⟨rfl, hC1, hF1⟩ := hq
  have hM1 := hM.fr hF1 rfl
  have hH : Hs h1 [(0, ia L g)] := hH.fr hF1 rfl
  obtain ⟨iz, ar, hMH, -⟩ := id hM1
  have c47 : h1[47]? = some (MoOb iz) := hMH.g 0 rfl
  refine ax_aload_n d_Lw_law_181 rfl ?_
  refine ax_aload_n d_Lw_law_182 rfl ?_
  refine ax_iload_n d_Lw_law_183 rfl ?_
  refine az_iconst d_Lw_law_184 ?_
  refine az_iadd d_Lw_law_185 ?_
  refine az_iald d_Lw_law_186 (by first | assumption | exact hH.g 0 rfl) (by omega) (by omega) (by omega) ?_
  refine ax_i2l d_Lw_law_187 ?_
  refine az_bipush _ d_Lw_law_188 (by decide) ?_
  refine ax_lshl d_Lw_law_190 ?_
  refine ax_aload_n d_Lw_law_191 rfl ?_
  refine ax_iload_n d_Lw_law_192 rfl ?_
  refine az_iconst d_Lw_law_193 ?_
  refine az_iadd d_Lw_law_194 ?_
  refine az_iald d_Lw_law_195 (by first | assumption | exact hH.g 0 rfl) (by omega) (by omega) (by omega) ?_
  refine ax_i2l d_Lw_law_196 ?_
  refine ax_ldc2 d_Lw_law_197 cn_Lw_13 ?_
  refine ax_land d_Lw_law_200 ?_
  refine ax_lor d_Lw_law_201 ?_
  refine ax_aload_n d_Lw_law_202 rfl ?_
  refine ax_iload_n d_Lw_law_203 rfl ?_
  refine az_iconst d_Lw_law_204 ?_
  refine az_iadd d_Lw_law_205 ?_
  refine az_iald d_Lw_law_206 (by first | assumption | exact hH.g 0 rfl) (by omega) (by omega) (by omega) ?_
  refine ax_cV2 d_Lw_law_207 v_Mo_feed lk_Lw_19 (by first | assumption | exact hH.g 0 rfl) (by decide) (Nat.le_of_ble_eq_true rfl) (cm_i (c_Mo_feed hM1 _ (hg _)) (fun z2 h2 hq => ?_))
  obtain ⟨rfl, hM2, hF2⟩ := hq
  refine ax_icmp_eq 820 d_Lw_law_210 (by decide) (fun _ => ?_) (fun q => absurd rfl q)
  exact next h2 _ _ _ _ ⟨hH.fr hF2 rfl, hC1.frM hF2, hM2, hg, hF2.1.trans (hF1.1.trans hn), hF2.2.1.trans (hF1.2.1.trans hsl)⟩
set_option maxRecDepth 100000 in
set_option maxHeartbeats 4000000 in
theorem lw_fill {h : ax_H} {L : Nat} {g : Nat → Int} {B T out : List Int} {fp : Int} {i : Nat} {Q : Option Value → ax_H → Prop} (hI : LwI h L g B T out fp) (hi : i + 5 ≤ L) (hL : L ≤ 2560) (next : ∀ (h1 : ax_H) (B1 T1 out1 : List Int) (fp1 : Int), LwI h1 L g B1 T1 out1 fp1 → ax_W m_Lw_law 7 820 [some (.ref 0), some (.ref 1), some (.ref 47), some (.int (iv i))] [] h1 Q) : ax_W m_Lw_law 7 215 [some (.ref 0), some (.ref 1), some (.ref 47), some (.int (iv i))] [] h Q := by
  obtain ⟨hH, hC, hM, hg, hn, hsl⟩ := hI
  obtain ⟨pf, tf, cf, c1, -⟩ := id hC
  have c1 : h[1]? = some (SOb pf tf cf) := c1.g 0 rfl
  refine ax_aload_n d_Lw_law_215 rfl ?_
  refine ax_aload_n d_Lw_law_216 rfl ?_
  refine ax_iload_n d_Lw_law_217 rfl ?_
  refine az_iconst d_Lw_law_218 ?_
  refine az_iadd d_Lw_law_219 ?_
  refine az_iald d_Lw_law_220 (by first | assumption | exact hH.g 0 rfl) (by omega) (by omega) (by omega) ?_
  refine ax_aload_n d_Lw_law_221 rfl ?_
  refine ax_iload_n d_Lw_law_222 rfl ?_
  refine az_iconst d_Lw_law_223 ?_
  refine az_iadd d_Lw_law_224 ?_
  refine az_iald d_Lw_law_225 (by first | assumption | exact hH.g 0 rfl) (by omega) (by omega) (by omega) ?_
  refine ax_cV2 d_Lw_law_226 v_S_fill lk_Lw_20 (by first | assumption | exact hH.g 0 rfl) (by decide) (Nat.le_of_ble_eq_true rfl) (cm_i (c_S_fill hC (hg _) (hg _)) (fun z h1 hq => ?_))
  obtain ⟨rfl, hC1, hF1⟩ := hq
  have hM1 := hM.fr hF1 rfl
  have hH : Hs h1 [(0, ia L g)] := hH.fr hF1 rfl
  obtain ⟨iz, ar, hMH, -⟩ := id hM1
  have c47 : h1[47]? = some (MoOb iz) := hMH.g 0 rfl
  refine ax_aload_n d_Lw_law_229 rfl ?_
  refine ax_aload_n d_Lw_law_230 rfl ?_
  refine ax_iload_n d_Lw_law_231 rfl ?_
  refine az_iconst d_Lw_law_232 ?_
  refine az_iadd d_Lw_law_233 ?_
  refine az_iald d_Lw_law_234 (by first | assumption | exact hH.g 0 rfl) (by omega) (by omega) (by omega) ?_
  refine ax_aload_n d_Lw_law_235 rfl ?_
  refine ax_iload_n d_Lw_law_236 rfl ?_
  refine az_iconst d_Lw_law_237 ?_
  refine az_iadd d_Lw_law_238 ?_
  refine az_iald d_Lw_law_239 (by first | assumption | exact hH.g 0 rfl) (by omega) (by omega) (by omega) ?_
  refine ax_cV2 d_Lw_law_240 v_Mo_fill lk_Lw_24 (by first | assumption | exact hH.g 0 rfl) (by decide) (Nat.le_of_ble_eq_true rfl) (cm_i (c_Mo_fill hM1 (hg _) (hg _)) (fun z2 h2 hq => ?_))
  obtain ⟨rfl, hM2, hF2⟩ := hq
  refine ax_icmp_eq 820 d_Lw_law_243 (by decide) (fun _ => ?_) (fun q => absurd rfl q)
  exact next h2 _ _ _ _ ⟨hH.fr hF2 rfl, hC1.frM hF2, hM2, hg, hF2.1.trans (hF1.1.trans hn), hF2.2.1.trans (hF1.2.1.trans hsl)⟩
set_option maxRecDepth 100000 in
set_option maxHeartbeats 4000000 in
theorem lw_clear {h : ax_H} {L : Nat} {g : Nat → Int} {B T out : List Int} {fp : Int} {i : Nat} {Q : Option Value → ax_H → Prop} (hI : LwI h L g B T out fp) (hi : i + 5 ≤ L) (hL : L ≤ 2560) (next : ∀ (h1 : ax_H) (B1 T1 out1 : List Int) (fp1 : Int), LwI h1 L g B1 T1 out1 fp1 → ax_W m_Lw_law 7 820 [some (.ref 0), some (.ref 1), some (.ref 47), some (.int (iv i))] [] h1 Q) : ax_W m_Lw_law 7 248 [some (.ref 0), some (.ref 1), some (.ref 47), some (.int (iv i))] [] h Q := by
  obtain ⟨hH, hC, hM, hg, hn, hsl⟩ := hI
  obtain ⟨pf, tf, cf, c1, -⟩ := id hC
  have c1 : h[1]? = some (SOb pf tf cf) := c1.g 0 rfl
  refine ax_aload_n d_Lw_law_248 rfl ?_
  refine ax_cV0 d_Lw_law_249 v_S_clear lk_Lw_25 (by first | assumption | exact hH.g 0 rfl) (by decide) (Nat.le_of_ble_eq_true rfl) (cm_i (c_S_clear hC) (fun z h1 hq => ?_))
  obtain ⟨rfl, hC1, hF1⟩ := hq
  have hM1 := hM.fr hF1 rfl
  have hH : Hs h1 [(0, ia L g)] := hH.fr hF1 rfl
  obtain ⟨iz, ar, hMH, -⟩ := id hM1
  have c47 : h1[47]? = some (MoOb iz) := hMH.g 0 rfl
  refine ax_aload_n d_Lw_law_252 rfl ?_
  refine ax_cV0 d_Lw_law_253 v_Mo_clear lk_Lw_29 (by first | assumption | exact hH.g 0 rfl) (by decide) (Nat.le_of_ble_eq_true rfl) (cm_i (c_Mo_clear hM1) (fun z2 h2 hq => ?_))
  obtain ⟨rfl, hM2, hF2⟩ := hq
  refine ax_icmp_eq 820 d_Lw_law_256 (by decide) (fun _ => ?_) (fun q => absurd rfl q)
  exact next h2 _ _ _ _ ⟨hH.fr hF2 rfl, hC1.frM hF2, hM2, hg, hF2.1.trans (hF1.1.trans hn), hF2.2.1.trans (hF1.2.1.trans hsl)⟩
set_option maxRecDepth 100000 in
set_option maxHeartbeats 4000000 in
theorem lw_octet {h : ax_H} {L : Nat} {g : Nat → Int} {B T out : List Int} {fp : Int} {i : Nat} {Q : Option Value → ax_H → Prop} (hI : LwI h L g B T out fp) (hi : i + 5 ≤ L) (hL : L ≤ 2560) (next : ∀ (h1 : ax_H) (B1 T1 out1 : List Int) (fp1 : Int), LwI h1 L g B1 T1 out1 fp1 → ax_W m_Lw_law 7 820 [some (.ref 0), some (.ref 1), some (.ref 47), some (.int (iv i))] [] h1 Q) : ax_W m_Lw_law 7 261 [some (.ref 0), some (.ref 1), some (.ref 47), some (.int (iv i))] [] h Q := by
  obtain ⟨hH, hC, hM, hg, hn, hsl⟩ := hI
  obtain ⟨pf, tf, cf, c1, -⟩ := id hC
  have c1 : h[1]? = some (SOb pf tf cf) := c1.g 0 rfl
  refine ax_aload_n d_Lw_law_261 rfl ?_
  refine ax_aload_n d_Lw_law_262 rfl ?_
  refine ax_iload_n d_Lw_law_263 rfl ?_
  refine az_iconst d_Lw_law_264 ?_
  refine az_iadd d_Lw_law_265 ?_
  refine az_iald d_Lw_law_266 (by first | assumption | exact hH.g 0 rfl) (by omega) (by omega) (by omega) ?_
  refine ax_cV1 d_Lw_law_267 v_S_octet lk_Lw_30 (by first | assumption | exact hH.g 0 rfl) (by decide) (Nat.le_of_ble_eq_true rfl) (cm_i (c_S_octet hC (hg _)) (fun z h1 hq => ?_))
  obtain ⟨rfl, hC1, hF1⟩ := hq
  have hM1 := hM.fr hF1 rfl
  have hH : Hs h1 [(0, ia L g)] := hH.fr hF1 rfl
  obtain ⟨iz, ar, hMH, -⟩ := id hM1
  have c47 : h1[47]? = some (MoOb iz) := hMH.g 0 rfl
  refine ax_aload_n d_Lw_law_270 rfl ?_
  refine ax_aload_n d_Lw_law_271 rfl ?_
  refine ax_iload_n d_Lw_law_272 rfl ?_
  refine az_iconst d_Lw_law_273 ?_
  refine az_iadd d_Lw_law_274 ?_
  refine az_iald d_Lw_law_275 (by first | assumption | exact hH.g 0 rfl) (by omega) (by omega) (by omega) ?_
  refine ax_cV1 d_Lw_law_276 v_Mo_octet lk_Lw_34 (by first | assumption | exact hH.g 0 rfl) (by decide) (Nat.le_of_ble_eq_true rfl) (cm_i (c_Mo_octet hM1 (hg _)) (fun z2 h2 hq => ?_))
  obtain ⟨rfl, hM2, hF2⟩ := hq
  refine ax_icmp_eq 820 d_Lw_law_279 (by decide) (fun _ => ?_) (fun q => absurd rfl q)
  exact next h2 _ _ _ _ ⟨hH.fr hF2 rfl, hC1.frM hF2, hM2, hg, hF2.1.trans (hF1.1.trans hn), hF2.2.1.trans (hF1.2.1.trans hsl)⟩
set_option maxRecDepth 100000 in
set_option maxHeartbeats 4000000 in
theorem lw_pack {h : ax_H} {L : Nat} {g : Nat → Int} {B T out : List Int} {fp : Int} {i : Nat} {Q : Option Value → ax_H → Prop} (hI : LwI h L g B T out fp) (hi : i + 5 ≤ L) (hL : L ≤ 2560) (next : ∀ (h1 : ax_H) (B1 T1 out1 : List Int) (fp1 : Int), LwI h1 L g B1 T1 out1 fp1 → ax_W m_Lw_law 7 820 [some (.ref 0), some (.ref 1), some (.ref 47), some (.int (iv i))] [] h1 Q) : ax_W m_Lw_law 7 284 [some (.ref 0), some (.ref 1), some (.ref 47), some (.int (iv i))] [] h Q := by
  obtain ⟨hH, hC, hM, hg, hn, hsl⟩ := hI
  obtain ⟨pf, tf, cf, c1, -⟩ := id hC
  have c1 : h[1]? = some (SOb pf tf cf) := c1.g 0 rfl
  refine ax_aload_n d_Lw_law_284 rfl ?_
  refine ax_cV0 d_Lw_law_285 v_S_pack lk_Lw_35 (by first | assumption | exact hH.g 0 rfl) (by decide) (Nat.le_of_ble_eq_true rfl) (cm_i (c_S_pack hC) (fun z h1 hq => ?_))
  obtain ⟨rfl, hC1, hF1⟩ := hq
  have hM1 := hM.fr hF1 rfl
  have hH : Hs h1 [(0, ia L g)] := hH.fr hF1 rfl
  obtain ⟨iz, ar, hMH, -⟩ := id hM1
  have c47 : h1[47]? = some (MoOb iz) := hMH.g 0 rfl
  refine ax_aload_n d_Lw_law_288 rfl ?_
  refine ax_cV0 d_Lw_law_289 v_Mo_pack lk_Lw_38 (by first | assumption | exact hH.g 0 rfl) (by decide) (Nat.le_of_ble_eq_true rfl) (cm_i (c_Mo_pack hM1) (fun z2 h2 hq => ?_))
  obtain ⟨rfl, hM2, hF2⟩ := hq
  refine ax_icmp_eq 820 d_Lw_law_292 (by decide) (fun _ => ?_) (fun q => absurd rfl q)
  exact next h2 _ _ _ _ ⟨hH.fr hF2 rfl, hC1.frM hF2, hM2, hg, hF2.1.trans (hF1.1.trans hn), hF2.2.1.trans (hF1.2.1.trans hsl)⟩
set_option maxRecDepth 100000 in
set_option maxHeartbeats 4000000 in
theorem lw_packed {h : ax_H} {L : Nat} {g : Nat → Int} {B T out : List Int} {fp : Int} {i : Nat} {Q : Option Value → ax_H → Prop} (hI : LwI h L g B T out fp) (hi : i + 5 ≤ L) (hL : L ≤ 2560) (next : ∀ (h1 : ax_H) (B1 T1 out1 : List Int) (fp1 : Int), LwI h1 L g B1 T1 out1 fp1 → ax_W m_Lw_law 7 820 [some (.ref 0), some (.ref 1), some (.ref 47), some (.int (iv i))] [] h1 Q) : ax_W m_Lw_law 7 297 [some (.ref 0), some (.ref 1), some (.ref 47), some (.int (iv i))] [] h Q := by
  obtain ⟨hH, hC, hM, hg, hn, hsl⟩ := hI
  obtain ⟨pf, tf, cf, c1, -⟩ := id hC
  have c1 : h[1]? = some (SOb pf tf cf) := c1.g 0 rfl
  refine ax_aload_n d_Lw_law_297 rfl ?_
  refine ax_aload_n d_Lw_law_298 rfl ?_
  refine ax_iload_n d_Lw_law_299 rfl ?_
  refine az_iconst d_Lw_law_300 ?_
  refine az_iadd d_Lw_law_301 ?_
  refine az_iald d_Lw_law_302 (by first | assumption | exact hH.g 0 rfl) (by omega) (by omega) (by omega) ?_
  refine ax_cV1 d_Lw_law_303 v_S_packed lk_Lw_39 (by first | assumption | exact hH.g 0 rfl) (by decide) (Nat.le_of_ble_eq_true rfl) (cm_i (c_S_packed hC (hg _)) (fun z h1 hq => ?_))
  obtain ⟨rfl, hC1, hF1⟩ := hq
  have hM1 := hM.fr hF1 rfl
  have hH : Hs h1 [(0, ia L g)] := hH.fr hF1 rfl
  obtain ⟨iz, ar, hMH, -⟩ := id hM1
  have c47 : h1[47]? = some (MoOb iz) := hMH.g 0 rfl
  refine ax_aload_n d_Lw_law_306 rfl ?_
  refine ax_aload_n d_Lw_law_307 rfl ?_
  refine ax_iload_n d_Lw_law_308 rfl ?_
  refine az_iconst d_Lw_law_309 ?_
  refine az_iadd d_Lw_law_310 ?_
  refine az_iald d_Lw_law_311 (by first | assumption | exact hH.g 0 rfl) (by omega) (by omega) (by omega) ?_
  refine ax_cV1 d_Lw_law_312 v_Mo_packed lk_Lw_42 (by first | assumption | exact hH.g 0 rfl) (by decide) (Nat.le_of_ble_eq_true rfl) (cm_i (c_Mo_packed hM1 (hg _)) (fun z2 h2 hq => ?_))
  obtain ⟨rfl, hM2, hF2⟩ := hq
  refine ax_icmp_eq 820 d_Lw_law_315 (by decide) (fun _ => ?_) (fun q => absurd rfl q)
  exact next h2 _ _ _ _ ⟨hH.fr hF2 rfl, hC1.frM hF2, hM2, hg, hF2.1.trans (hF1.1.trans hn), hF2.2.1.trans (hF1.2.1.trans hsl)⟩
set_option maxRecDepth 100000 in
set_option maxHeartbeats 4000000 in
theorem lw_order {h : ax_H} {L : Nat} {g : Nat → Int} {B T out : List Int} {fp : Int} {i : Nat} {Q : Option Value → ax_H → Prop} (hI : LwI h L g B T out fp) (hi : i + 5 ≤ L) (hL : L ≤ 2560) (next : ∀ (h1 : ax_H) (B1 T1 out1 : List Int) (fp1 : Int), LwI h1 L g B1 T1 out1 fp1 → ax_W m_Lw_law 7 820 [some (.ref 0), some (.ref 1), some (.ref 47), some (.int (iv i))] [] h1 Q) : ax_W m_Lw_law 7 320 [some (.ref 0), some (.ref 1), some (.ref 47), some (.int (iv i))] [] h Q := by
  obtain ⟨hH, hC, hM, hg, hn, hsl⟩ := hI
  obtain ⟨pf, tf, cf, c1, -⟩ := id hC
  have c1 : h[1]? = some (SOb pf tf cf) := c1.g 0 rfl
  refine ax_aload_n d_Lw_law_320 rfl ?_
  refine ax_aload_n d_Lw_law_321 rfl ?_
  refine ax_iload_n d_Lw_law_322 rfl ?_
  refine az_iconst d_Lw_law_323 ?_
  refine az_iadd d_Lw_law_324 ?_
  refine az_iald d_Lw_law_325 (by first | assumption | exact hH.g 0 rfl) (by omega) (by omega) (by omega) ?_
  refine ax_cV1 d_Lw_law_326 v_S_order lk_Lw_43 (by first | assumption | exact hH.g 0 rfl) (by decide) (Nat.le_of_ble_eq_true rfl) (cm_i (c_S_order hC (hg _)) (fun z h1 hq => ?_))
  obtain ⟨rfl, hC1, hF1⟩ := hq
  have hM1 := hM.fr hF1 rfl
  have hH : Hs h1 [(0, ia L g)] := hH.fr hF1 rfl
  obtain ⟨iz, ar, hMH, -⟩ := id hM1
  have c47 : h1[47]? = some (MoOb iz) := hMH.g 0 rfl
  refine ax_aload_n d_Lw_law_329 rfl ?_
  refine ax_aload_n d_Lw_law_330 rfl ?_
  refine ax_iload_n d_Lw_law_331 rfl ?_
  refine az_iconst d_Lw_law_332 ?_
  refine az_iadd d_Lw_law_333 ?_
  refine az_iald d_Lw_law_334 (by first | assumption | exact hH.g 0 rfl) (by omega) (by omega) (by omega) ?_
  refine ax_cV1 d_Lw_law_335 v_Mo_order lk_Lw_46 (by first | assumption | exact hH.g 0 rfl) (by decide) (Nat.le_of_ble_eq_true rfl) (cm_i (c_Mo_order hM1 (hg _)) (fun z2 h2 hq => ?_))
  obtain ⟨rfl, hM2, hF2⟩ := hq
  refine ax_icmp_eq 820 d_Lw_law_338 (by decide) (fun _ => ?_) (fun q => absurd rfl q)
  exact next h2 _ _ _ _ ⟨hH.fr hF2 rfl, hC1.frM hF2, hM2, hg, hF2.1.trans (hF1.1.trans hn), hF2.2.1.trans (hF1.2.1.trans hsl)⟩
set_option maxRecDepth 100000 in
set_option maxHeartbeats 4000000 in
theorem lw_last {h : ax_H} {L : Nat} {g : Nat → Int} {B T out : List Int} {fp : Int} {i : Nat} {Q : Option Value → ax_H → Prop} (hI : LwI h L g B T out fp) (hi : i + 5 ≤ L) (hL : L ≤ 2560) (next : ∀ (h1 : ax_H) (B1 T1 out1 : List Int) (fp1 : Int), LwI h1 L g B1 T1 out1 fp1 → ax_W m_Lw_law 7 820 [some (.ref 0), some (.ref 1), some (.ref 47), some (.int (iv i))] [] h1 Q) : ax_W m_Lw_law 7 343 [some (.ref 0), some (.ref 1), some (.ref 47), some (.int (iv i))] [] h Q := by
  obtain ⟨hH, hC, hM, hg, hn, hsl⟩ := hI
  obtain ⟨pf, tf, cf, c1, -⟩ := id hC
  have c1 : h[1]? = some (SOb pf tf cf) := c1.g 0 rfl
  refine ax_aload_n d_Lw_law_343 rfl ?_
  refine ax_aload_n d_Lw_law_344 rfl ?_
  refine ax_iload_n d_Lw_law_345 rfl ?_
  refine az_iconst d_Lw_law_346 ?_
  refine az_iadd d_Lw_law_347 ?_
  refine az_iald d_Lw_law_348 (by first | assumption | exact hH.g 0 rfl) (by omega) (by omega) (by omega) ?_
  refine ax_cV1 d_Lw_law_349 v_S_last lk_Lw_47 (by first | assumption | exact hH.g 0 rfl) (by decide) (Nat.le_of_ble_eq_true rfl) (cm_i (c_S_last hC (hg _)) (fun z h1 hq => ?_))
  obtain ⟨rfl, hC1, hF1⟩ := hq
  have hM1 := hM.fr hF1 rfl
  have hH : Hs h1 [(0, ia L g)] := hH.fr hF1 rfl
  obtain ⟨iz, ar, hMH, -⟩ := id hM1
  have c47 : h1[47]? = some (MoOb iz) := hMH.g 0 rfl
  refine ax_aload_n d_Lw_law_352 rfl ?_
  refine ax_aload_n d_Lw_law_353 rfl ?_
  refine ax_iload_n d_Lw_law_354 rfl ?_
  refine az_iconst d_Lw_law_355 ?_
  refine az_iadd d_Lw_law_356 ?_
  refine az_iald d_Lw_law_357 (by first | assumption | exact hH.g 0 rfl) (by omega) (by omega) (by omega) ?_
  refine ax_cV1 d_Lw_law_358 v_Mo_last lk_Lw_50 (by first | assumption | exact hH.g 0 rfl) (by decide) (Nat.le_of_ble_eq_true rfl) (cm_i (c_Mo_last hM1 (hg _)) (fun z2 h2 hq => ?_))
  obtain ⟨rfl, hM2, hF2⟩ := hq
  refine ax_icmp_eq 820 d_Lw_law_361 (by decide) (fun _ => ?_) (fun q => absurd rfl q)
  exact next h2 _ _ _ _ ⟨hH.fr hF2 rfl, hC1.frM hF2, hM2, hg, hF2.1.trans (hF1.1.trans hn), hF2.2.1.trans (hF1.2.1.trans hsl)⟩
set_option maxRecDepth 100000 in
set_option maxHeartbeats 4000000 in
theorem lw_origin {h : ax_H} {L : Nat} {g : Nat → Int} {B T out : List Int} {fp : Int} {i : Nat} {Q : Option Value → ax_H → Prop} (hI : LwI h L g B T out fp) (hi : i + 5 ≤ L) (hL : L ≤ 2560) (next : ∀ (h1 : ax_H) (B1 T1 out1 : List Int) (fp1 : Int), LwI h1 L g B1 T1 out1 fp1 → ax_W m_Lw_law 7 820 [some (.ref 0), some (.ref 1), some (.ref 47), some (.int (iv i))] [] h1 Q) : ax_W m_Lw_law 7 366 [some (.ref 0), some (.ref 1), some (.ref 47), some (.int (iv i))] [] h Q := by
  obtain ⟨hH, hC, hM, hg, hn, hsl⟩ := hI
  obtain ⟨pf, tf, cf, c1, -⟩ := id hC
  have c1 : h[1]? = some (SOb pf tf cf) := c1.g 0 rfl
  refine ax_aload_n d_Lw_law_366 rfl ?_
  refine ax_cV0 d_Lw_law_367 v_S_origin lk_Lw_51 (by first | assumption | exact hH.g 0 rfl) (by decide) (Nat.le_of_ble_eq_true rfl) (cm_i (c_S_origin hC) (fun z h1 hq => ?_))
  obtain ⟨rfl, hC1, hF1⟩ := hq
  have hM1 := hM.fr hF1 rfl
  have hH : Hs h1 [(0, ia L g)] := hH.fr hF1 rfl
  obtain ⟨iz, ar, hMH, -⟩ := id hM1
  have c47 : h1[47]? = some (MoOb iz) := hMH.g 0 rfl
  refine ax_aload_n d_Lw_law_370 rfl ?_
  refine ax_cV0 d_Lw_law_371 v_Mo_origin lk_Lw_54 (by first | assumption | exact hH.g 0 rfl) (by decide) (Nat.le_of_ble_eq_true rfl) (cm_i (c_Mo_origin hM1) (fun z2 h2 hq => ?_))
  obtain ⟨rfl, hM2, hF2⟩ := hq
  refine ax_icmp_eq 820 d_Lw_law_374 (by decide) (fun _ => ?_) (fun q => absurd rfl q)
  exact next h2 _ _ _ _ ⟨hH.fr hF2 rfl, hC1.frM hF2, hM2, hg, hF2.1.trans (hF1.1.trans hn), hF2.2.1.trans (hF1.2.1.trans hsl)⟩
set_option maxRecDepth 100000 in
set_option maxHeartbeats 4000000 in
theorem lw_rounds {h : ax_H} {L : Nat} {g : Nat → Int} {B T out : List Int} {fp : Int} {i : Nat} {Q : Option Value → ax_H → Prop} (hI : LwI h L g B T out fp) (hi : i + 5 ≤ L) (hL : L ≤ 2560) (next : ∀ (h1 : ax_H) (B1 T1 out1 : List Int) (fp1 : Int), LwI h1 L g B1 T1 out1 fp1 → ax_W m_Lw_law 7 820 [some (.ref 0), some (.ref 1), some (.ref 47), some (.int (iv i))] [] h1 Q) : ax_W m_Lw_law 7 379 [some (.ref 0), some (.ref 1), some (.ref 47), some (.int (iv i))] [] h Q := by
  obtain ⟨hH, hC, hM, hg, hn, hsl⟩ := hI
  obtain ⟨pf, tf, cf, c1, -⟩ := id hC
  have c1 : h[1]? = some (SOb pf tf cf) := c1.g 0 rfl
  refine ax_aload_n d_Lw_law_379 rfl ?_
  refine ax_cV0 d_Lw_law_380 v_S_rounds lk_Lw_55 (by first | assumption | exact hH.g 0 rfl) (by decide) (Nat.le_of_ble_eq_true rfl) (cm_i (c_S_rounds hC) (fun z h1 hq => ?_))
  obtain ⟨hz1, hC1, hF1⟩ := hq
  have hM1 := hM.fr hF1 rfl
  have hH : Hs h1 [(0, ia L g)] := hH.fr hF1 rfl
  obtain ⟨iz, ar, hMH, -⟩ := id hM1
  have c47 : h1[47]? = some (MoOb iz) := hMH.g 0 rfl
  refine ax_aload_n d_Lw_law_383 rfl ?_
  refine ax_cV0 d_Lw_law_384 v_Mo_rounds lk_Lw_58 (by first | assumption | exact hH.g 0 rfl) (by decide) (Nat.le_of_ble_eq_true rfl) (cm_i (c_Mo_rounds hM1) (fun z2 h2 hq => ?_))
  obtain ⟨hz2, hM2, hF2⟩ := hq
  have ez := isARnd_uniq hz1 hz2
  subst ez
  refine ax_icmp_eq 820 d_Lw_law_387 (by decide) (fun _ => ?_) (fun q => absurd rfl q)
  exact next h2 _ _ _ _ ⟨hH.fr hF2 rfl, hC1.frM hF2, hM2, hg, hF2.1.trans (hF1.1.trans hn), hF2.2.1.trans (hF1.2.1.trans hsl)⟩
set_option maxRecDepth 100000 in
set_option maxHeartbeats 4000000 in
theorem lw_start {h : ax_H} {L : Nat} {g : Nat → Int} {B T out : List Int} {fp : Int} {i : Nat} {Q : Option Value → ax_H → Prop} (hI : LwI h L g B T out fp) (hi : i + 5 ≤ L) (hL : L ≤ 2560) (next : ∀ (h1 : ax_H) (B1 T1 out1 : List Int) (fp1 : Int), LwI h1 L g B1 T1 out1 fp1 → ax_W m_Lw_law 7 820 [some (.ref 0), some (.ref 1), some (.ref 47), some (.int (iv i))] [] h1 Q) : ax_W m_Lw_law 7 392 [some (.ref 0), some (.ref 1), some (.ref 47), some (.int (iv i))] [] h Q := by
  obtain ⟨hH, hC, hM, hg, hn, hsl⟩ := hI
  obtain ⟨pf, tf, cf, c1, -⟩ := id hC
  have c1 : h[1]? = some (SOb pf tf cf) := c1.g 0 rfl
  refine ax_aload_n d_Lw_law_392 rfl ?_
  refine ax_aload_n d_Lw_law_393 rfl ?_
  refine ax_iload_n d_Lw_law_394 rfl ?_
  refine az_iconst d_Lw_law_395 ?_
  refine az_iadd d_Lw_law_396 ?_
  refine az_iald d_Lw_law_397 (by first | assumption | exact hH.g 0 rfl) (by omega) (by omega) (by omega) ?_
  refine ax_aload_n d_Lw_law_398 rfl ?_
  refine ax_iload_n d_Lw_law_399 rfl ?_
  refine az_iconst d_Lw_law_400 ?_
  refine az_iadd d_Lw_law_401 ?_
  refine az_iald d_Lw_law_402 (by first | assumption | exact hH.g 0 rfl) (by omega) (by omega) (by omega) ?_
  refine ax_cV2 d_Lw_law_403 v_S_start lk_Lw_59 (by first | assumption | exact hH.g 0 rfl) (by decide) (Nat.le_of_ble_eq_true rfl) (cm_i (c_S_start hC (hg _) (hg _)) (fun z h1 hq => ?_))
  obtain ⟨rfl, hC1, hF1⟩ := hq
  have hM1 := hM.fr hF1 rfl
  have hH : Hs h1 [(0, ia L g)] := hH.fr hF1 rfl
  obtain ⟨iz, ar, hMH, -⟩ := id hM1
  have c47 : h1[47]? = some (MoOb iz) := hMH.g 0 rfl
  refine ax_aload_n d_Lw_law_406 rfl ?_
  refine ax_aload_n d_Lw_law_407 rfl ?_
  refine ax_iload_n d_Lw_law_408 rfl ?_
  refine az_iconst d_Lw_law_409 ?_
  refine az_iadd d_Lw_law_410 ?_
  refine az_iald d_Lw_law_411 (by first | assumption | exact hH.g 0 rfl) (by omega) (by omega) (by omega) ?_
  refine ax_aload_n d_Lw_law_412 rfl ?_
  refine ax_iload_n d_Lw_law_413 rfl ?_
  refine az_iconst d_Lw_law_414 ?_
  refine az_iadd d_Lw_law_415 ?_
  refine az_iald d_Lw_law_416 (by first | assumption | exact hH.g 0 rfl) (by omega) (by omega) (by omega) ?_
  refine ax_cV2 d_Lw_law_417 v_Mo_start lk_Lw_62 (by first | assumption | exact hH.g 0 rfl) (by decide) (Nat.le_of_ble_eq_true rfl) (cm_i (c_Mo_start hM1 (hg _) (hg _)) (fun z2 h2 hq => ?_))
  obtain ⟨rfl, hM2, hF2⟩ := hq
  refine ax_icmp_eq 820 d_Lw_law_420 (by decide) (fun _ => ?_) (fun q => absurd rfl q)
  exact next h2 _ _ _ _ ⟨hH.fr hF2 rfl, hC1.frM hF2, hM2, hg, hF2.1.trans (hF1.1.trans hn), hF2.2.1.trans (hF1.2.1.trans hsl)⟩
set_option maxRecDepth 100000 in
set_option maxHeartbeats 4000000 in
theorem lw_steps {h : ax_H} {L : Nat} {g : Nat → Int} {B T out : List Int} {fp : Int} {i : Nat} {Q : Option Value → ax_H → Prop} (hI : LwI h L g B T out fp) (hi : i + 5 ≤ L) (hL : L ≤ 2560) (next : ∀ (h1 : ax_H) (B1 T1 out1 : List Int) (fp1 : Int), LwI h1 L g B1 T1 out1 fp1 → ax_W m_Lw_law 7 820 [some (.ref 0), some (.ref 1), some (.ref 47), some (.int (iv i))] [] h1 Q) : ax_W m_Lw_law 7 425 [some (.ref 0), some (.ref 1), some (.ref 47), some (.int (iv i))] [] h Q := by
  obtain ⟨hH, hC, hM, hg, hn, hsl⟩ := hI
  obtain ⟨pf, tf, cf, c1, -⟩ := id hC
  have c1 : h[1]? = some (SOb pf tf cf) := c1.g 0 rfl
  refine ax_aload_n d_Lw_law_425 rfl ?_
  refine ax_aload_n d_Lw_law_426 rfl ?_
  refine ax_iload_n d_Lw_law_427 rfl ?_
  refine az_iconst d_Lw_law_428 ?_
  refine az_iadd d_Lw_law_429 ?_
  refine az_iald d_Lw_law_430 (by first | assumption | exact hH.g 0 rfl) (by omega) (by omega) (by omega) ?_
  refine ax_i2l d_Lw_law_431 ?_
  refine az_bipush _ d_Lw_law_432 (by decide) ?_
  refine ax_lshl d_Lw_law_434 ?_
  refine ax_aload_n d_Lw_law_435 rfl ?_
  refine ax_iload_n d_Lw_law_436 rfl ?_
  refine az_iconst d_Lw_law_437 ?_
  refine az_iadd d_Lw_law_438 ?_
  refine az_iald d_Lw_law_439 (by first | assumption | exact hH.g 0 rfl) (by omega) (by omega) (by omega) ?_
  refine ax_i2l d_Lw_law_440 ?_
  refine ax_ldc2 d_Lw_law_441 cn_Lw_13 ?_
  refine ax_land d_Lw_law_444 ?_
  refine ax_lor d_Lw_law_445 ?_
  refine ax_aload_n d_Lw_law_446 rfl ?_
  refine ax_iload_n d_Lw_law_447 rfl ?_
  refine az_iconst d_Lw_law_448 ?_
  refine az_iadd d_Lw_law_449 ?_
  refine az_iald d_Lw_law_450 (by first | assumption | exact hH.g 0 rfl) (by omega) (by omega) (by omega) ?_
  refine ax_aload_n d_Lw_law_451 rfl ?_
  refine ax_iload_n d_Lw_law_452 rfl ?_
  refine az_iconst d_Lw_law_453 ?_
  refine az_iadd d_Lw_law_454 ?_
  refine az_iald d_Lw_law_455 (by first | assumption | exact hH.g 0 rfl) (by omega) (by omega) (by omega) ?_
  refine ax_cV3 d_Lw_law_456 v_S_steps lk_Lw_63 (by first | assumption | exact hH.g 0 rfl) (by decide) (Nat.le_of_ble_eq_true rfl) (cm_i (c_S_steps hC _ (hg _) (hg _)) (fun z h1 hq => ?_))
  obtain ⟨rfl, hC1, hF1⟩ := hq
  have hM1 := hM.fr hF1 rfl
  have hH : Hs h1 [(0, ia L g)] := hH.fr hF1 rfl
  obtain ⟨iz, ar, hMH, -⟩ := id hM1
  have c47 : h1[47]? = some (MoOb iz) := hMH.g 0 rfl
  refine ax_aload_n d_Lw_law_459 rfl ?_
  refine ax_aload_n d_Lw_law_460 rfl ?_
  refine ax_iload_n d_Lw_law_461 rfl ?_
  refine az_iconst d_Lw_law_462 ?_
  refine az_iadd d_Lw_law_463 ?_
  refine az_iald d_Lw_law_464 (by first | assumption | exact hH.g 0 rfl) (by omega) (by omega) (by omega) ?_
  refine ax_i2l d_Lw_law_465 ?_
  refine az_bipush _ d_Lw_law_466 (by decide) ?_
  refine ax_lshl d_Lw_law_468 ?_
  refine ax_aload_n d_Lw_law_469 rfl ?_
  refine ax_iload_n d_Lw_law_470 rfl ?_
  refine az_iconst d_Lw_law_471 ?_
  refine az_iadd d_Lw_law_472 ?_
  refine az_iald d_Lw_law_473 (by first | assumption | exact hH.g 0 rfl) (by omega) (by omega) (by omega) ?_
  refine ax_i2l d_Lw_law_474 ?_
  refine ax_ldc2 d_Lw_law_475 cn_Lw_13 ?_
  refine ax_land d_Lw_law_478 ?_
  refine ax_lor d_Lw_law_479 ?_
  refine ax_aload_n d_Lw_law_480 rfl ?_
  refine ax_iload_n d_Lw_law_481 rfl ?_
  refine az_iconst d_Lw_law_482 ?_
  refine az_iadd d_Lw_law_483 ?_
  refine az_iald d_Lw_law_484 (by first | assumption | exact hH.g 0 rfl) (by omega) (by omega) (by omega) ?_
  refine ax_aload_n d_Lw_law_485 rfl ?_
  refine ax_iload_n d_Lw_law_486 rfl ?_
  refine az_iconst d_Lw_law_487 ?_
  refine az_iadd d_Lw_law_488 ?_
  refine az_iald d_Lw_law_489 (by first | assumption | exact hH.g 0 rfl) (by omega) (by omega) (by omega) ?_
  refine ax_cV3 d_Lw_law_490 v_Mo_steps lk_Lw_67 (by first | assumption | exact hH.g 0 rfl) (by decide) (Nat.le_of_ble_eq_true rfl) (cm_i (c_Mo_steps hM1 _ (hg _) (hg _)) (fun z2 h2 hq => ?_))
  obtain ⟨rfl, hM2, hF2⟩ := hq
  refine ax_icmp_eq 820 d_Lw_law_493 (by decide) (fun _ => ?_) (fun q => absurd rfl q)
  exact next h2 _ _ _ _ ⟨hH.fr hF2 rfl, hC1.frM hF2, hM2, hg, hF2.1.trans (hF1.1.trans hn), hF2.2.1.trans (hF1.2.1.trans hsl)⟩
set_option maxRecDepth 100000 in
set_option maxHeartbeats 4000000 in
theorem lw_back {h : ax_H} {L : Nat} {g : Nat → Int} {B T out : List Int} {fp : Int} {i : Nat} {Q : Option Value → ax_H → Prop} (hI : LwI h L g B T out fp) (hi : i + 5 ≤ L) (hL : L ≤ 2560) (next : ∀ (h1 : ax_H) (B1 T1 out1 : List Int) (fp1 : Int), LwI h1 L g B1 T1 out1 fp1 → ax_W m_Lw_law 7 820 [some (.ref 0), some (.ref 1), some (.ref 47), some (.int (iv i))] [] h1 Q) : ax_W m_Lw_law 7 498 [some (.ref 0), some (.ref 1), some (.ref 47), some (.int (iv i))] [] h Q := by
  obtain ⟨hH, hC, hM, hg, hn, hsl⟩ := hI
  obtain ⟨pf, tf, cf, c1, -⟩ := id hC
  have c1 : h[1]? = some (SOb pf tf cf) := c1.g 0 rfl
  refine ax_aload_n d_Lw_law_498 rfl ?_
  refine ax_aload_n d_Lw_law_499 rfl ?_
  refine ax_iload_n d_Lw_law_500 rfl ?_
  refine az_iconst d_Lw_law_501 ?_
  refine az_iadd d_Lw_law_502 ?_
  refine az_iald d_Lw_law_503 (by first | assumption | exact hH.g 0 rfl) (by omega) (by omega) (by omega) ?_
  refine ax_cV1 d_Lw_law_504 v_S_back lk_Lw_68 (by first | assumption | exact hH.g 0 rfl) (by decide) (Nat.le_of_ble_eq_true rfl) (cm_i (c_S_back hC (hg _)) (fun z h1 hq => ?_))
  obtain ⟨rfl, hC1, hF1⟩ := hq
  have hM1 := hM.fr hF1 rfl
  have hH : Hs h1 [(0, ia L g)] := hH.fr hF1 rfl
  obtain ⟨iz, ar, hMH, -⟩ := id hM1
  have c47 : h1[47]? = some (MoOb iz) := hMH.g 0 rfl
  refine ax_aload_n d_Lw_law_507 rfl ?_
  refine ax_aload_n d_Lw_law_508 rfl ?_
  refine ax_iload_n d_Lw_law_509 rfl ?_
  refine az_iconst d_Lw_law_510 ?_
  refine az_iadd d_Lw_law_511 ?_
  refine az_iald d_Lw_law_512 (by first | assumption | exact hH.g 0 rfl) (by omega) (by omega) (by omega) ?_
  refine ax_cV1 d_Lw_law_513 v_Mo_back lk_Lw_71 (by first | assumption | exact hH.g 0 rfl) (by decide) (Nat.le_of_ble_eq_true rfl) (cm_i (c_Mo_back hM1 (hg _)) (fun z2 h2 hq => ?_))
  obtain ⟨rfl, hM2, hF2⟩ := hq
  refine ax_icmp_eq 820 d_Lw_law_516 (by decide) (fun _ => ?_) (fun q => absurd rfl q)
  exact next h2 _ _ _ _ ⟨hH.fr hF2 rfl, hC1.frM hF2, hM2, hg, hF2.1.trans (hF1.1.trans hn), hF2.2.1.trans (hF1.2.1.trans hsl)⟩
set_option maxRecDepth 100000 in
set_option maxHeartbeats 4000000 in
theorem lw_ring {h : ax_H} {L : Nat} {g : Nat → Int} {B T out : List Int} {fp : Int} {i : Nat} {Q : Option Value → ax_H → Prop} (hI : LwI h L g B T out fp) (hi : i + 5 ≤ L) (hL : L ≤ 2560) (next : ∀ (h1 : ax_H) (B1 T1 out1 : List Int) (fp1 : Int), LwI h1 L g B1 T1 out1 fp1 → ax_W m_Lw_law 7 820 [some (.ref 0), some (.ref 1), some (.ref 47), some (.int (iv i))] [] h1 Q) : ax_W m_Lw_law 7 521 [some (.ref 0), some (.ref 1), some (.ref 47), some (.int (iv i))] [] h Q := by
  obtain ⟨hH, hC, hM, hg, hn, hsl⟩ := hI
  obtain ⟨pf, tf, cf, c1, -⟩ := id hC
  have c1 : h[1]? = some (SOb pf tf cf) := c1.g 0 rfl
  refine ax_aload_n d_Lw_law_521 rfl ?_
  refine ax_aload_n d_Lw_law_522 rfl ?_
  refine ax_iload_n d_Lw_law_523 rfl ?_
  refine az_iconst d_Lw_law_524 ?_
  refine az_iadd d_Lw_law_525 ?_
  refine az_iald d_Lw_law_526 (by first | assumption | exact hH.g 0 rfl) (by omega) (by omega) (by omega) ?_
  refine ax_cV1 d_Lw_law_527 v_S_ring lk_Lw_72 (by first | assumption | exact hH.g 0 rfl) (by decide) (Nat.le_of_ble_eq_true rfl) (cm_i (c_S_ring hC (hg _)) (fun z h1 hq => ?_))
  obtain ⟨rfl, hC1, hF1⟩ := hq
  have hM1 := hM.fr hF1 rfl
  have hH : Hs h1 [(0, ia L g)] := hH.fr hF1 rfl
  obtain ⟨iz, ar, hMH, -⟩ := id hM1
  have c47 : h1[47]? = some (MoOb iz) := hMH.g 0 rfl
  refine ax_aload_n d_Lw_law_530 rfl ?_
  refine ax_aload_n d_Lw_law_531 rfl ?_
  refine ax_iload_n d_Lw_law_532 rfl ?_
  refine az_iconst d_Lw_law_533 ?_
  refine az_iadd d_Lw_law_534 ?_
  refine az_iald d_Lw_law_535 (by first | assumption | exact hH.g 0 rfl) (by omega) (by omega) (by omega) ?_
  refine ax_cV1 d_Lw_law_536 v_Mo_ring lk_Lw_75 (by first | assumption | exact hH.g 0 rfl) (by decide) (Nat.le_of_ble_eq_true rfl) (cm_i (c_Mo_ring hM1 (hg _)) (fun z2 h2 hq => ?_))
  obtain ⟨rfl, hM2, hF2⟩ := hq
  refine ax_icmp_eq 820 d_Lw_law_539 (by decide) (fun _ => ?_) (fun q => absurd rfl q)
  exact next h2 _ _ _ _ ⟨hH.fr hF2 rfl, hC1.frM hF2, hM2, hg, hF2.1.trans (hF1.1.trans hn), hF2.2.1.trans (hF1.2.1.trans hsl)⟩
set_option maxRecDepth 100000 in
set_option maxHeartbeats 4000000 in
theorem lw_symbol {h : ax_H} {L : Nat} {g : Nat → Int} {B T out : List Int} {fp : Int} {i : Nat} {Q : Option Value → ax_H → Prop} (hI : LwI h L g B T out fp) (hi : i + 5 ≤ L) (hL : L ≤ 2560) (next : ∀ (h1 : ax_H) (B1 T1 out1 : List Int) (fp1 : Int), LwI h1 L g B1 T1 out1 fp1 → ax_W m_Lw_law 7 820 [some (.ref 0), some (.ref 1), some (.ref 47), some (.int (iv i))] [] h1 Q) : ax_W m_Lw_law 7 544 [some (.ref 0), some (.ref 1), some (.ref 47), some (.int (iv i))] [] h Q := by
  obtain ⟨hH, hC, hM, hg, hn, hsl⟩ := hI
  obtain ⟨pf, tf, cf, c1, -⟩ := id hC
  have c1 : h[1]? = some (SOb pf tf cf) := c1.g 0 rfl
  refine ax_aload_n d_Lw_law_544 rfl ?_
  refine ax_aload_n d_Lw_law_545 rfl ?_
  refine ax_iload_n d_Lw_law_546 rfl ?_
  refine az_iconst d_Lw_law_547 ?_
  refine az_iadd d_Lw_law_548 ?_
  refine az_iald d_Lw_law_549 (by first | assumption | exact hH.g 0 rfl) (by omega) (by omega) (by omega) ?_
  refine ax_cV1 d_Lw_law_550 v_S_symbol lk_Lw_76 (by first | assumption | exact hH.g 0 rfl) (by decide) (Nat.le_of_ble_eq_true rfl) (cm_i (c_S_symbol hC (hg _)) (fun z h1 hq => ?_))
  obtain ⟨rfl, hC1, hF1⟩ := hq
  have hM1 := hM.fr hF1 rfl
  have hH : Hs h1 [(0, ia L g)] := hH.fr hF1 rfl
  obtain ⟨iz, ar, hMH, -⟩ := id hM1
  have c47 : h1[47]? = some (MoOb iz) := hMH.g 0 rfl
  refine ax_aload_n d_Lw_law_553 rfl ?_
  refine ax_aload_n d_Lw_law_554 rfl ?_
  refine ax_iload_n d_Lw_law_555 rfl ?_
  refine az_iconst d_Lw_law_556 ?_
  refine az_iadd d_Lw_law_557 ?_
  refine az_iald d_Lw_law_558 (by first | assumption | exact hH.g 0 rfl) (by omega) (by omega) (by omega) ?_
  refine ax_cV1 d_Lw_law_559 v_Mo_symbol lk_Lw_79 (by first | assumption | exact hH.g 0 rfl) (by decide) (Nat.le_of_ble_eq_true rfl) (cm_i (c_Mo_symbol hM1 (hg _)) (fun z2 h2 hq => ?_))
  obtain ⟨rfl, hM2, hF2⟩ := hq
  refine ax_icmp_eq 820 d_Lw_law_562 (by decide) (fun _ => ?_) (fun q => absurd rfl q)
  exact next h2 _ _ _ _ ⟨hH.fr hF2 rfl, hC1.frM hF2, hM2, hg, hF2.1.trans (hF1.1.trans hn), hF2.2.1.trans (hF1.2.1.trans hsl)⟩
set_option maxRecDepth 100000 in
set_option maxHeartbeats 4000000 in
theorem lw_code {h : ax_H} {L : Nat} {g : Nat → Int} {B T out : List Int} {fp : Int} {i : Nat} {Q : Option Value → ax_H → Prop} (hI : LwI h L g B T out fp) (hi : i + 5 ≤ L) (hL : L ≤ 2560) (next : ∀ (h1 : ax_H) (B1 T1 out1 : List Int) (fp1 : Int), LwI h1 L g B1 T1 out1 fp1 → ax_W m_Lw_law 7 820 [some (.ref 0), some (.ref 1), some (.ref 47), some (.int (iv i))] [] h1 Q) : ax_W m_Lw_law 7 567 [some (.ref 0), some (.ref 1), some (.ref 47), some (.int (iv i))] [] h Q := by
  obtain ⟨hH, hC, hM, hg, hn, hsl⟩ := hI
  obtain ⟨pf, tf, cf, c1, -⟩ := id hC
  have c1 : h[1]? = some (SOb pf tf cf) := c1.g 0 rfl
  refine ax_aload_n d_Lw_law_567 rfl ?_
  refine ax_aload_n d_Lw_law_568 rfl ?_
  refine ax_iload_n d_Lw_law_569 rfl ?_
  refine az_iconst d_Lw_law_570 ?_
  refine az_iadd d_Lw_law_571 ?_
  refine az_iald d_Lw_law_572 (by first | assumption | exact hH.g 0 rfl) (by omega) (by omega) (by omega) ?_
  refine ax_aload_n d_Lw_law_573 rfl ?_
  refine ax_iload_n d_Lw_law_574 rfl ?_
  refine az_iconst d_Lw_law_575 ?_
  refine az_iadd d_Lw_law_576 ?_
  refine az_iald d_Lw_law_577 (by first | assumption | exact hH.g 0 rfl) (by omega) (by omega) (by omega) ?_
  refine ax_cV2 d_Lw_law_578 v_S_code lk_Lw_80 (by first | assumption | exact hH.g 0 rfl) (by decide) (Nat.le_of_ble_eq_true rfl) (cm_i (c_S_code hC (hg _) (hg _)) (fun z h1 hq => ?_))
  obtain ⟨rfl, hC1, hF1⟩ := hq
  have hM1 := hM.fr hF1 rfl
  have hH : Hs h1 [(0, ia L g)] := hH.fr hF1 rfl
  obtain ⟨iz, ar, hMH, -⟩ := id hM1
  have c47 : h1[47]? = some (MoOb iz) := hMH.g 0 rfl
  refine ax_aload_n d_Lw_law_581 rfl ?_
  refine ax_aload_n d_Lw_law_582 rfl ?_
  refine ax_iload_n d_Lw_law_583 rfl ?_
  refine az_iconst d_Lw_law_584 ?_
  refine az_iadd d_Lw_law_585 ?_
  refine az_iald d_Lw_law_586 (by first | assumption | exact hH.g 0 rfl) (by omega) (by omega) (by omega) ?_
  refine ax_aload_n d_Lw_law_587 rfl ?_
  refine ax_iload_n d_Lw_law_588 rfl ?_
  refine az_iconst d_Lw_law_589 ?_
  refine az_iadd d_Lw_law_590 ?_
  refine az_iald d_Lw_law_591 (by first | assumption | exact hH.g 0 rfl) (by omega) (by omega) (by omega) ?_
  refine ax_cV2 d_Lw_law_592 v_Mo_code lk_Lw_83 (by first | assumption | exact hH.g 0 rfl) (by decide) (Nat.le_of_ble_eq_true rfl) (cm_i (c_Mo_code hM1 (hg _) (hg _)) (fun z2 h2 hq => ?_))
  obtain ⟨rfl, hM2, hF2⟩ := hq
  refine ax_icmp_eq 820 d_Lw_law_595 (by decide) (fun _ => ?_) (fun q => absurd rfl q)
  exact next h2 _ _ _ _ ⟨hH.fr hF2 rfl, hC1.frM hF2, hM2, hg, hF2.1.trans (hF1.1.trans hn), hF2.2.1.trans (hF1.2.1.trans hsl)⟩
set_option maxRecDepth 100000 in
set_option maxHeartbeats 4000000 in
theorem lw_bits {h : ax_H} {L : Nat} {g : Nat → Int} {B T out : List Int} {fp : Int} {i : Nat} {Q : Option Value → ax_H → Prop} (hI : LwI h L g B T out fp) (hi : i + 5 ≤ L) (hL : L ≤ 2560) (next : ∀ (h1 : ax_H) (B1 T1 out1 : List Int) (fp1 : Int), LwI h1 L g B1 T1 out1 fp1 → ax_W m_Lw_law 7 820 [some (.ref 0), some (.ref 1), some (.ref 47), some (.int (iv i))] [] h1 Q) : ax_W m_Lw_law 7 600 [some (.ref 0), some (.ref 1), some (.ref 47), some (.int (iv i))] [] h Q := by
  obtain ⟨hH, hC, hM, hg, hn, hsl⟩ := hI
  obtain ⟨pf, tf, cf, c1, -⟩ := id hC
  have c1 : h[1]? = some (SOb pf tf cf) := c1.g 0 rfl
  refine ax_aload_n d_Lw_law_600 rfl ?_
  refine ax_cV0 d_Lw_law_601 v_S_bits lk_Lw_84 (by first | assumption | exact hH.g 0 rfl) (by decide) (Nat.le_of_ble_eq_true rfl) (cm_i (c_S_bits hC) (fun z h1 hq => ?_))
  obtain ⟨rfl, hC1, hF1⟩ := hq
  have hM1 := hM.fr hF1 rfl
  have hH : Hs h1 [(0, ia L g)] := hH.fr hF1 rfl
  obtain ⟨iz, ar, hMH, -⟩ := id hM1
  have c47 : h1[47]? = some (MoOb iz) := hMH.g 0 rfl
  refine ax_aload_n d_Lw_law_604 rfl ?_
  refine ax_cV0 d_Lw_law_605 v_Mo_bits lk_Lw_87 (by first | assumption | exact hH.g 0 rfl) (by decide) (Nat.le_of_ble_eq_true rfl) (cm_i (c_Mo_bits hM1) (fun z2 h2 hq => ?_))
  obtain ⟨rfl, hM2, hF2⟩ := hq
  refine ax_icmp_eq 820 d_Lw_law_608 (by decide) (fun _ => ?_) (fun q => absurd rfl q)
  exact next h2 _ _ _ _ ⟨hH.fr hF2 rfl, hC1.frM hF2, hM2, hg, hF2.1.trans (hF1.1.trans hn), hF2.2.1.trans (hF1.2.1.trans hsl)⟩
set_option maxRecDepth 100000 in
set_option maxHeartbeats 4000000 in
theorem lw_write {h : ax_H} {L : Nat} {g : Nat → Int} {B T out : List Int} {fp : Int} {i : Nat} {Q : Option Value → ax_H → Prop} (hI : LwI h L g B T out fp) (hi : i + 5 ≤ L) (hL : L ≤ 2560) (next : ∀ (h1 : ax_H) (B1 T1 out1 : List Int) (fp1 : Int), LwI h1 L g B1 T1 out1 fp1 → ax_W m_Lw_law 7 820 [some (.ref 0), some (.ref 1), some (.ref 47), some (.int (iv i))] [] h1 Q) : ax_W m_Lw_law 7 613 [some (.ref 0), some (.ref 1), some (.ref 47), some (.int (iv i))] [] h Q := by
  obtain ⟨hH, hC, hM, hg, hn, hsl⟩ := hI
  obtain ⟨pf, tf, cf, c1, -⟩ := id hC
  have c1 : h[1]? = some (SOb pf tf cf) := c1.g 0 rfl
  refine ax_aload_n d_Lw_law_613 rfl ?_
  refine ax_cV0 d_Lw_law_614 v_S_write lk_Lw_88 (by first | assumption | exact hH.g 0 rfl) (by decide) (Nat.le_of_ble_eq_true rfl) (cm_i (c_S_write hC) (fun z h1 hq => ?_))
  obtain ⟨rfl, hC1, hF1⟩ := hq
  have hM1 := hM.fr hF1 rfl
  have hH : Hs h1 [(0, ia L g)] := hH.fr hF1 rfl
  obtain ⟨iz, ar, hMH, -⟩ := id hM1
  have c47 : h1[47]? = some (MoOb iz) := hMH.g 0 rfl
  refine ax_aload_n d_Lw_law_617 rfl ?_
  refine ax_cV0 d_Lw_law_618 v_Mo_write lk_Lw_91 (by first | assumption | exact hH.g 0 rfl) (by decide) (Nat.le_of_ble_eq_true rfl) (cm_i (c_Mo_write hM1) (fun z2 h2 hq => ?_))
  obtain ⟨rfl, hM2, hF2⟩ := hq
  refine ax_icmp_eq 820 d_Lw_law_621 (by decide) (fun _ => ?_) (fun q => absurd rfl q)
  exact next h2 _ _ _ _ ⟨hH.fr hF2 rfl, hC1.frM hF2, hM2, hg, hF2.1.trans (hF1.1.trans hn), hF2.2.1.trans (hF1.2.1.trans hsl)⟩
set_option maxRecDepth 100000 in
set_option maxHeartbeats 4000000 in
theorem lw_out {h : ax_H} {L : Nat} {g : Nat → Int} {B T out : List Int} {fp : Int} {i : Nat} {Q : Option Value → ax_H → Prop} (hI : LwI h L g B T out fp) (hi : i + 5 ≤ L) (hL : L ≤ 2560) (next : ∀ (h1 : ax_H) (B1 T1 out1 : List Int) (fp1 : Int), LwI h1 L g B1 T1 out1 fp1 → ax_W m_Lw_law 7 820 [some (.ref 0), some (.ref 1), some (.ref 47), some (.int (iv i))] [] h1 Q) : ax_W m_Lw_law 7 626 [some (.ref 0), some (.ref 1), some (.ref 47), some (.int (iv i))] [] h Q := by
  obtain ⟨hH, hC, hM, hg, hn, hsl⟩ := hI
  obtain ⟨pf, tf, cf, c1, -⟩ := id hC
  have c1 : h[1]? = some (SOb pf tf cf) := c1.g 0 rfl
  refine ax_aload_n d_Lw_law_626 rfl ?_
  refine ax_aload_n d_Lw_law_627 rfl ?_
  refine ax_iload_n d_Lw_law_628 rfl ?_
  refine az_iconst d_Lw_law_629 ?_
  refine az_iadd d_Lw_law_630 ?_
  refine az_iald d_Lw_law_631 (by first | assumption | exact hH.g 0 rfl) (by omega) (by omega) (by omega) ?_
  refine ax_cV1 d_Lw_law_632 v_S_out lk_Lw_92 (by first | assumption | exact hH.g 0 rfl) (by decide) (Nat.le_of_ble_eq_true rfl) (cm_i (c_S_out hC (hg _)) (fun z h1 hq => ?_))
  obtain ⟨rfl, hC1, hF1⟩ := hq
  have hM1 := hM.fr hF1 rfl
  have hH : Hs h1 [(0, ia L g)] := hH.fr hF1 rfl
  obtain ⟨iz, ar, hMH, -⟩ := id hM1
  have c47 : h1[47]? = some (MoOb iz) := hMH.g 0 rfl
  refine ax_aload_n d_Lw_law_635 rfl ?_
  refine ax_aload_n d_Lw_law_636 rfl ?_
  refine ax_iload_n d_Lw_law_637 rfl ?_
  refine az_iconst d_Lw_law_638 ?_
  refine az_iadd d_Lw_law_639 ?_
  refine az_iald d_Lw_law_640 (by first | assumption | exact hH.g 0 rfl) (by omega) (by omega) (by omega) ?_
  refine ax_cV1 d_Lw_law_641 v_Mo_out lk_Lw_95 (by first | assumption | exact hH.g 0 rfl) (by decide) (Nat.le_of_ble_eq_true rfl) (cm_i (c_Mo_out hM1 (hg _)) (fun z2 h2 hq => ?_))
  obtain ⟨rfl, hM2, hF2⟩ := hq
  refine ax_icmp_eq 820 d_Lw_law_644 (by decide) (fun _ => ?_) (fun q => absurd rfl q)
  exact next h2 _ _ _ _ ⟨hH.fr hF2 rfl, hC1.frM hF2, hM2, hg, hF2.1.trans (hF1.1.trans hn), hF2.2.1.trans (hF1.2.1.trans hsl)⟩
set_option maxRecDepth 100000 in
set_option maxHeartbeats 4000000 in
theorem lw_tape {h : ax_H} {L : Nat} {g : Nat → Int} {B T out : List Int} {fp : Int} {i : Nat} {Q : Option Value → ax_H → Prop} (hI : LwI h L g B T out fp) (hi : i + 5 ≤ L) (hL : L ≤ 2560) (next : ∀ (h1 : ax_H) (B1 T1 out1 : List Int) (fp1 : Int), LwI h1 L g B1 T1 out1 fp1 → ax_W m_Lw_law 7 820 [some (.ref 0), some (.ref 1), some (.ref 47), some (.int (iv i))] [] h1 Q) : ax_W m_Lw_law 7 649 [some (.ref 0), some (.ref 1), some (.ref 47), some (.int (iv i))] [] h Q := by
  obtain ⟨hH, hC, hM, hg, hn, hsl⟩ := hI
  obtain ⟨pf, tf, cf, c1, -⟩ := id hC
  have c1 : h[1]? = some (SOb pf tf cf) := c1.g 0 rfl
  refine ax_aload_n d_Lw_law_649 rfl ?_
  refine ax_aload_n d_Lw_law_650 rfl ?_
  refine ax_iload_n d_Lw_law_651 rfl ?_
  refine az_iconst d_Lw_law_652 ?_
  refine az_iadd d_Lw_law_653 ?_
  refine az_iald d_Lw_law_654 (by first | assumption | exact hH.g 0 rfl) (by omega) (by omega) (by omega) ?_
  refine ax_i2l d_Lw_law_655 ?_
  refine az_bipush _ d_Lw_law_656 (by decide) ?_
  refine ax_lshl d_Lw_law_658 ?_
  refine ax_aload_n d_Lw_law_659 rfl ?_
  refine ax_iload_n d_Lw_law_660 rfl ?_
  refine az_iconst d_Lw_law_661 ?_
  refine az_iadd d_Lw_law_662 ?_
  refine az_iald d_Lw_law_663 (by first | assumption | exact hH.g 0 rfl) (by omega) (by omega) (by omega) ?_
  refine ax_i2l d_Lw_law_664 ?_
  refine ax_ldc2 d_Lw_law_665 cn_Lw_13 ?_
  refine ax_land d_Lw_law_668 ?_
  refine ax_lor d_Lw_law_669 ?_
  refine ax_aload_n d_Lw_law_670 rfl ?_
  refine ax_iload_n d_Lw_law_671 rfl ?_
  refine az_iconst d_Lw_law_672 ?_
  refine az_iadd d_Lw_law_673 ?_
  refine az_iald d_Lw_law_674 (by first | assumption | exact hH.g 0 rfl) (by omega) (by omega) (by omega) ?_
  refine ax_cV2 d_Lw_law_675 v_S_tape lk_Lw_96 (by first | assumption | exact hH.g 0 rfl) (by decide) (Nat.le_of_ble_eq_true rfl) (cm_i (c_S_tape hC _ (hg _)) (fun z h1 hq => ?_))
  obtain ⟨rfl, hC1, hF1⟩ := hq
  have hM1 := hM.fr hF1 rfl
  have hH : Hs h1 [(0, ia L g)] := hH.fr hF1 rfl
  obtain ⟨iz, ar, hMH, -⟩ := id hM1
  have c47 : h1[47]? = some (MoOb iz) := hMH.g 0 rfl
  refine ax_aload_n d_Lw_law_678 rfl ?_
  refine ax_aload_n d_Lw_law_679 rfl ?_
  refine ax_iload_n d_Lw_law_680 rfl ?_
  refine az_iconst d_Lw_law_681 ?_
  refine az_iadd d_Lw_law_682 ?_
  refine az_iald d_Lw_law_683 (by first | assumption | exact hH.g 0 rfl) (by omega) (by omega) (by omega) ?_
  refine ax_i2l d_Lw_law_684 ?_
  refine az_bipush _ d_Lw_law_685 (by decide) ?_
  refine ax_lshl d_Lw_law_687 ?_
  refine ax_aload_n d_Lw_law_688 rfl ?_
  refine ax_iload_n d_Lw_law_689 rfl ?_
  refine az_iconst d_Lw_law_690 ?_
  refine az_iadd d_Lw_law_691 ?_
  refine az_iald d_Lw_law_692 (by first | assumption | exact hH.g 0 rfl) (by omega) (by omega) (by omega) ?_
  refine ax_i2l d_Lw_law_693 ?_
  refine ax_ldc2 d_Lw_law_694 cn_Lw_13 ?_
  refine ax_land d_Lw_law_697 ?_
  refine ax_lor d_Lw_law_698 ?_
  refine ax_aload_n d_Lw_law_699 rfl ?_
  refine ax_iload_n d_Lw_law_700 rfl ?_
  refine az_iconst d_Lw_law_701 ?_
  refine az_iadd d_Lw_law_702 ?_
  refine az_iald d_Lw_law_703 (by first | assumption | exact hH.g 0 rfl) (by omega) (by omega) (by omega) ?_
  refine ax_cV2 d_Lw_law_704 v_Mo_tape lk_Lw_99 (by first | assumption | exact hH.g 0 rfl) (by decide) (Nat.le_of_ble_eq_true rfl) (cm_i (c_Mo_tape hM1 _ (hg _)) (fun z2 h2 hq => ?_))
  obtain ⟨rfl, hM2, hF2⟩ := hq
  refine ax_icmp_eq 820 d_Lw_law_707 (by decide) (fun _ => ?_) (fun q => absurd rfl q)
  exact next h2 _ _ _ _ ⟨hH.fr hF2 rfl, hC1.frM hF2, hM2, hg, hF2.1.trans (hF1.1.trans hn), hF2.2.1.trans (hF1.2.1.trans hsl)⟩
set_option maxRecDepth 100000 in
set_option maxHeartbeats 4000000 in
theorem lw_take {h : ax_H} {L : Nat} {g : Nat → Int} {B T out : List Int} {fp : Int} {i : Nat} {Q : Option Value → ax_H → Prop} (hI : LwI h L g B T out fp) (hi : i + 5 ≤ L) (hL : L ≤ 2560) (next : ∀ (h1 : ax_H) (B1 T1 out1 : List Int) (fp1 : Int), LwI h1 L g B1 T1 out1 fp1 → ax_W m_Lw_law 7 820 [some (.ref 0), some (.ref 1), some (.ref 47), some (.int (iv i))] [] h1 Q) : ax_W m_Lw_law 7 712 [some (.ref 0), some (.ref 1), some (.ref 47), some (.int (iv i))] [] h Q := by
  obtain ⟨hH, hC, hM, hg, hn, hsl⟩ := hI
  obtain ⟨pf, tf, cf, c1, -⟩ := id hC
  have c1 : h[1]? = some (SOb pf tf cf) := c1.g 0 rfl
  refine ax_aload_n d_Lw_law_712 rfl ?_
  refine ax_cV0 d_Lw_law_713 v_S_take lk_Lw_100 (by first | assumption | exact hH.g 0 rfl) (by decide) (Nat.le_of_ble_eq_true rfl) (cm_i (c_S_take hC) (fun z h1 hq => ?_))
  obtain ⟨rfl, hC1, hF1⟩ := hq
  have hM1 := hM.fr hF1 rfl
  have hH : Hs h1 [(0, ia L g)] := hH.fr hF1 rfl
  obtain ⟨iz, ar, hMH, -⟩ := id hM1
  have c47 : h1[47]? = some (MoOb iz) := hMH.g 0 rfl
  refine ax_aload_n d_Lw_law_716 rfl ?_
  refine ax_cV0 d_Lw_law_717 v_Mo_take lk_Lw_103 (by first | assumption | exact hH.g 0 rfl) (by decide) (Nat.le_of_ble_eq_true rfl) (cm_i (c_Mo_take hM1) (fun z2 h2 hq => ?_))
  obtain ⟨rfl, hM2, hF2⟩ := hq
  refine ax_icmp_eq 820 d_Lw_law_720 (by decide) (fun _ => ?_) (fun q => absurd rfl q)
  exact next h2 _ _ _ _ ⟨hH.fr hF2 rfl, hC1.frM hF2, hM2, hg, hF2.1.trans (hF1.1.trans hn), hF2.2.1.trans (hF1.2.1.trans hsl)⟩
set_option maxRecDepth 100000 in
set_option maxHeartbeats 4000000 in
theorem lw_spoil {h : ax_H} {L : Nat} {g : Nat → Int} {B T out : List Int} {fp : Int} {i : Nat} {Q : Option Value → ax_H → Prop} (hI : LwI h L g B T out fp) (hi : i + 5 ≤ L) (hL : L ≤ 2560) (next : ∀ (h1 : ax_H) (B1 T1 out1 : List Int) (fp1 : Int), LwI h1 L g B1 T1 out1 fp1 → ax_W m_Lw_law 7 820 [some (.ref 0), some (.ref 1), some (.ref 47), some (.int (iv i))] [] h1 Q) : ax_W m_Lw_law 7 725 [some (.ref 0), some (.ref 1), some (.ref 47), some (.int (iv i))] [] h Q := by
  obtain ⟨hH, hC, hM, hg, hn, hsl⟩ := hI
  obtain ⟨pf, tf, cf, c1, -⟩ := id hC
  have c1 : h[1]? = some (SOb pf tf cf) := c1.g 0 rfl
  refine ax_aload_n d_Lw_law_725 rfl ?_
  refine ax_aload_n d_Lw_law_726 rfl ?_
  refine ax_iload_n d_Lw_law_727 rfl ?_
  refine az_iconst d_Lw_law_728 ?_
  refine az_iadd d_Lw_law_729 ?_
  refine az_iald d_Lw_law_730 (by first | assumption | exact hH.g 0 rfl) (by omega) (by omega) (by omega) ?_
  refine ax_aload_n d_Lw_law_731 rfl ?_
  refine ax_iload_n d_Lw_law_732 rfl ?_
  refine az_iconst d_Lw_law_733 ?_
  refine az_iadd d_Lw_law_734 ?_
  refine az_iald d_Lw_law_735 (by first | assumption | exact hH.g 0 rfl) (by omega) (by omega) (by omega) ?_
  refine ax_cV2 d_Lw_law_736 v_S_spoil lk_Lw_104 (by first | assumption | exact hH.g 0 rfl) (by decide) (Nat.le_of_ble_eq_true rfl) (cm_i (c_S_spoil hC (hg _) (hg _)) (fun z h1 hq => ?_))
  obtain ⟨rfl, hC1, hF1⟩ := hq
  have hM1 := hM.fr hF1 rfl
  have hH : Hs h1 [(0, ia L g)] := hH.fr hF1 rfl
  obtain ⟨iz, ar, hMH, -⟩ := id hM1
  have c47 : h1[47]? = some (MoOb iz) := hMH.g 0 rfl
  refine ax_aload_n d_Lw_law_739 rfl ?_
  refine ax_aload_n d_Lw_law_740 rfl ?_
  refine ax_iload_n d_Lw_law_741 rfl ?_
  refine az_iconst d_Lw_law_742 ?_
  refine az_iadd d_Lw_law_743 ?_
  refine az_iald d_Lw_law_744 (by first | assumption | exact hH.g 0 rfl) (by omega) (by omega) (by omega) ?_
  refine ax_aload_n d_Lw_law_745 rfl ?_
  refine ax_iload_n d_Lw_law_746 rfl ?_
  refine az_iconst d_Lw_law_747 ?_
  refine az_iadd d_Lw_law_748 ?_
  refine az_iald d_Lw_law_749 (by first | assumption | exact hH.g 0 rfl) (by omega) (by omega) (by omega) ?_
  refine ax_cV2 d_Lw_law_750 v_Mo_spoil lk_Lw_107 (by first | assumption | exact hH.g 0 rfl) (by decide) (Nat.le_of_ble_eq_true rfl) (cm_i (c_Mo_spoil hM1 (hg _) (hg _)) (fun z2 h2 hq => ?_))
  obtain ⟨rfl, hM2, hF2⟩ := hq
  refine ax_icmp_eq 820 d_Lw_law_753 (by decide) (fun _ => ?_) (fun q => absurd rfl q)
  exact next h2 _ _ _ _ ⟨hH.fr hF2 rfl, hC1.frM hF2, hM2, hg, hF2.1.trans (hF1.1.trans hn), hF2.2.1.trans (hF1.2.1.trans hsl)⟩
set_option maxRecDepth 100000 in
set_option maxHeartbeats 4000000 in
theorem lw_cut {h : ax_H} {L : Nat} {g : Nat → Int} {B T out : List Int} {fp : Int} {i : Nat} {Q : Option Value → ax_H → Prop} (hI : LwI h L g B T out fp) (hi : i + 5 ≤ L) (hL : L ≤ 2560) (next : ∀ (h1 : ax_H) (B1 T1 out1 : List Int) (fp1 : Int), LwI h1 L g B1 T1 out1 fp1 → ax_W m_Lw_law 7 820 [some (.ref 0), some (.ref 1), some (.ref 47), some (.int (iv i))] [] h1 Q) : ax_W m_Lw_law 7 758 [some (.ref 0), some (.ref 1), some (.ref 47), some (.int (iv i))] [] h Q := by
  obtain ⟨hH, hC, hM, hg, hn, hsl⟩ := hI
  obtain ⟨pf, tf, cf, c1, -⟩ := id hC
  have c1 : h[1]? = some (SOb pf tf cf) := c1.g 0 rfl
  refine ax_aload_n d_Lw_law_758 rfl ?_
  refine ax_aload_n d_Lw_law_759 rfl ?_
  refine ax_iload_n d_Lw_law_760 rfl ?_
  refine az_iconst d_Lw_law_761 ?_
  refine az_iadd d_Lw_law_762 ?_
  refine az_iald d_Lw_law_763 (by first | assumption | exact hH.g 0 rfl) (by omega) (by omega) (by omega) ?_
  refine ax_cV1 d_Lw_law_764 v_S_cut lk_Lw_108 (by first | assumption | exact hH.g 0 rfl) (by decide) (Nat.le_of_ble_eq_true rfl) (cm_i (c_S_cut hC (hg _)) (fun z h1 hq => ?_))
  obtain ⟨rfl, hC1, hF1⟩ := hq
  have hM1 := hM.fr hF1 rfl
  have hH : Hs h1 [(0, ia L g)] := hH.fr hF1 rfl
  obtain ⟨iz, ar, hMH, -⟩ := id hM1
  have c47 : h1[47]? = some (MoOb iz) := hMH.g 0 rfl
  refine ax_aload_n d_Lw_law_767 rfl ?_
  refine ax_aload_n d_Lw_law_768 rfl ?_
  refine ax_iload_n d_Lw_law_769 rfl ?_
  refine az_iconst d_Lw_law_770 ?_
  refine az_iadd d_Lw_law_771 ?_
  refine az_iald d_Lw_law_772 (by first | assumption | exact hH.g 0 rfl) (by omega) (by omega) (by omega) ?_
  refine ax_cV1 d_Lw_law_773 v_Mo_cut lk_Lw_111 (by first | assumption | exact hH.g 0 rfl) (by decide) (Nat.le_of_ble_eq_true rfl) (cm_i (c_Mo_cut hM1 (hg _)) (fun z2 h2 hq => ?_))
  obtain ⟨rfl, hM2, hF2⟩ := hq
  refine ax_icmp_eq 820 d_Lw_law_776 (by decide) (fun _ => ?_) (fun q => absurd rfl q)
  exact next h2 _ _ _ _ ⟨hH.fr hF2 rfl, hC1.frM hF2, hM2, hg, hF2.1.trans (hF1.1.trans hn), hF2.2.1.trans (hF1.2.1.trans hsl)⟩
set_option maxRecDepth 100000 in
set_option maxHeartbeats 4000000 in
theorem lw_read {h : ax_H} {L : Nat} {g : Nat → Int} {B T out : List Int} {fp : Int} {i : Nat} {Q : Option Value → ax_H → Prop} (hI : LwI h L g B T out fp) (hi : i + 5 ≤ L) (hL : L ≤ 2560) (next : ∀ (h1 : ax_H) (B1 T1 out1 : List Int) (fp1 : Int), LwI h1 L g B1 T1 out1 fp1 → ax_W m_Lw_law 7 820 [some (.ref 0), some (.ref 1), some (.ref 47), some (.int (iv i))] [] h1 Q) : ax_W m_Lw_law 7 781 [some (.ref 0), some (.ref 1), some (.ref 47), some (.int (iv i))] [] h Q := by
  obtain ⟨hH, hC, hM, hg, hn, hsl⟩ := hI
  obtain ⟨pf, tf, cf, c1, -⟩ := id hC
  have c1 : h[1]? = some (SOb pf tf cf) := c1.g 0 rfl
  refine ax_aload_n d_Lw_law_781 rfl ?_
  refine ax_cV0 d_Lw_law_782 v_S_read lk_Lw_112 (by first | assumption | exact hH.g 0 rfl) (by decide) (Nat.le_of_ble_eq_true rfl) (cm_i (c_S_read hC) (fun z h1 hq => ?_))
  obtain ⟨rfl, hC1, hF1⟩ := hq
  have hM1 := hM.fr hF1 rfl
  have hH : Hs h1 [(0, ia L g)] := hH.fr hF1 rfl
  obtain ⟨iz, ar, hMH, -⟩ := id hM1
  have c47 : h1[47]? = some (MoOb iz) := hMH.g 0 rfl
  refine ax_aload_n d_Lw_law_785 rfl ?_
  refine ax_cV0 d_Lw_law_786 v_Mo_read lk_Lw_115 (by first | assumption | exact hH.g 0 rfl) (by decide) (Nat.le_of_ble_eq_true rfl) (cm_i (c_Mo_read hM1) (fun z2 h2 hq => ?_))
  obtain ⟨rfl, hM2, hF2⟩ := hq
  refine ax_icmp_eq 820 d_Lw_law_789 (by decide) (fun _ => ?_) (fun q => absurd rfl q)
  exact next h2 _ _ _ _ ⟨hH.fr hF2 rfl, hC1.frM hF2, hM2, hg, hF2.1.trans (hF1.1.trans hn), hF2.2.1.trans (hF1.2.1.trans hsl)⟩
set_option maxRecDepth 100000 in
set_option maxHeartbeats 4000000 in
theorem lw_faultAt {h : ax_H} {L : Nat} {g : Nat → Int} {B T out : List Int} {fp : Int} {i : Nat} {Q : Option Value → ax_H → Prop} (hI : LwI h L g B T out fp) (hi : i + 5 ≤ L) (hL : L ≤ 2560) (next : ∀ (h1 : ax_H) (B1 T1 out1 : List Int) (fp1 : Int), LwI h1 L g B1 T1 out1 fp1 → ax_W m_Lw_law 7 820 [some (.ref 0), some (.ref 1), some (.ref 47), some (.int (iv i))] [] h1 Q) : ax_W m_Lw_law 7 794 [some (.ref 0), some (.ref 1), some (.ref 47), some (.int (iv i))] [] h Q := by
  obtain ⟨hH, hC, hM, hg, hn, hsl⟩ := hI
  obtain ⟨pf, tf, cf, c1, -⟩ := id hC
  have c1 : h[1]? = some (SOb pf tf cf) := c1.g 0 rfl
  refine ax_aload_n d_Lw_law_794 rfl ?_
  refine ax_cV0 d_Lw_law_795 v_S_faultAt lk_Lw_116 (by first | assumption | exact hH.g 0 rfl) (by decide) (Nat.le_of_ble_eq_true rfl) (cm_i (c_S_faultAt hC) (fun z h1 hq => ?_))
  obtain ⟨rfl, hC1, hF1⟩ := hq
  have hM1 := hM.fr hF1 rfl
  have hH : Hs h1 [(0, ia L g)] := hH.fr hF1 rfl
  obtain ⟨iz, ar, hMH, -⟩ := id hM1
  have c47 : h1[47]? = some (MoOb iz) := hMH.g 0 rfl
  refine ax_aload_n d_Lw_law_798 rfl ?_
  refine ax_cV0 d_Lw_law_799 v_Mo_faultAt lk_Lw_119 (by first | assumption | exact hH.g 0 rfl) (by decide) (Nat.le_of_ble_eq_true rfl) (cm_i (c_Mo_faultAt hM1) (fun z2 h2 hq => ?_))
  obtain ⟨rfl, hM2, hF2⟩ := hq
  refine ax_icmp_eq 820 d_Lw_law_802 (by decide) (fun _ => ?_) (fun q => absurd rfl q)
  exact next h2 _ _ _ _ ⟨hH.fr hF2 rfl, hC1.frM hF2, hM2, hg, hF2.1.trans (hF1.1.trans hn), hF2.2.1.trans (hF1.2.1.trans hsl)⟩
set_option maxRecDepth 100000 in
set_option maxHeartbeats 4000000 in
theorem lw_check {h : ax_H} {L : Nat} {g : Nat → Int} {B T out : List Int} {fp : Int} {i : Nat} {Q : Option Value → ax_H → Prop} (hI : LwI h L g B T out fp) (hi : i + 5 ≤ L) (hL : L ≤ 2560) (next : ∀ (h1 : ax_H) (B1 T1 out1 : List Int) (fp1 : Int), LwI h1 L g B1 T1 out1 fp1 → ax_W m_Lw_law 7 820 [some (.ref 0), some (.ref 1), some (.ref 47), some (.int (iv i))] [] h1 Q) : ax_W m_Lw_law 7 807 [some (.ref 0), some (.ref 1), some (.ref 47), some (.int (iv i))] [] h Q := by
  obtain ⟨hH, hC, hM, hg, hn, hsl⟩ := hI
  obtain ⟨pf, tf, cf, c1, -⟩ := id hC
  have c1 : h[1]? = some (SOb pf tf cf) := c1.g 0 rfl
  refine ax_aload_n d_Lw_law_807 rfl ?_
  refine ax_cV0 d_Lw_law_808 v_S_check lk_Lw_120 (by first | assumption | exact hH.g 0 rfl) (by decide) (Nat.le_of_ble_eq_true rfl) (cm_i (c_S_check hC) (fun z h1 hq => ?_))
  obtain ⟨rfl, hC1, hF1⟩ := hq
  have hM1 := hM.fr hF1 rfl
  have hH : Hs h1 [(0, ia L g)] := hH.fr hF1 rfl
  obtain ⟨iz, ar, hMH, -⟩ := id hM1
  have c47 : h1[47]? = some (MoOb iz) := hMH.g 0 rfl
  refine ax_aload_n d_Lw_law_811 rfl ?_
  refine ax_cV0 d_Lw_law_812 v_Mo_check lk_Lw_123 (by first | assumption | exact hH.g 0 rfl) (by decide) (Nat.le_of_ble_eq_true rfl) (cm_i (c_Mo_check hM1) (fun z2 h2 hq => ?_))
  obtain ⟨rfl, hM2, hF2⟩ := hq
  refine ax_icmp_eq 820 d_Lw_law_815 (by decide) (fun _ => ?_) (fun q => absurd rfl q)
  exact next h2 _ _ _ _ ⟨hH.fr hF2 rfl, hC1.frM hF2, hM2, hg, hF2.1.trans (hF1.1.trans hn), hF2.2.1.trans (hF1.2.1.trans hsl)⟩
set_option maxRecDepth 100000 in
set_option maxHeartbeats 8000000 in
theorem law_loop {L : Nat} {g : Nat → Int} (hL : L ≤ 2560) : ∀ (f i : Nat) (h : ax_H) (B T out : List Int) (fp : Int), L ≤ i + f → i ≤ L + 5 → LwI h L g B T out fp → ax_W m_Lw_law 7 18 [some (.ref 0), some (.ref 1), some (.ref 47), some (.int (iv i))] [] h (fun r h1 => r = some (.int 1) ∧ h1.length ≤ 600000 ∧ ax_sl h1 ≤ 7302250) := by
  intro f
  induction f with
  | zero =>
    intro i h B T out fp hf hi hI
    obtain ⟨hH, hC, hM, hg, hn, hsl⟩ := id hI
    refine ax_iload_n d_Lw_law_18 rfl ?_
    refine ax_aload_n d_Lw_law_19 rfl ?_
    refine az_alen d_Lw_law_20 (by first | assumption | exact hH.g 0 rfl) ?_
    refine az_iconst d_Lw_law_21 ?_
    refine az_isub d_Lw_law_22 ?_
    refine az_icmp_gt 826 d_Lw_law_23 (by decide) (by omega) (by omega) (fun hc => ?_) (fun hc => ?_)
    · refine az_iconst d_Lw_law_826 ?_
      refine ax_zret d_Lw_law_827 rfl (by decide) ?_
      exact ⟨rfl, by omega, by omega⟩
    · exfalso
      omega
  | succ f ih =>
    intro i h B T out fp hf hi hI
    obtain ⟨hH, hC, hM, hg, hn, hsl⟩ := id hI
    refine ax_iload_n d_Lw_law_18 rfl ?_
    refine ax_aload_n d_Lw_law_19 rfl ?_
    refine az_alen d_Lw_law_20 (by first | assumption | exact hH.g 0 rfl) ?_
    refine az_iconst d_Lw_law_21 ?_
    refine az_isub d_Lw_law_22 ?_
    refine az_icmp_gt 826 d_Lw_law_23 (by decide) (by omega) (by omega) (fun hc => ?_) (fun hc => ?_)
    · refine az_iconst d_Lw_law_826 ?_
      refine ax_zret d_Lw_law_827 rfl (by decide) ?_
      exact ⟨rfl, by omega, by omega⟩
    · have next : ∀ (h1 : ax_H) (B1 T1 out1 : List Int) (fp1 : Int), LwI h1 L g B1 T1 out1 fp1 → ax_W m_Lw_law 7 820 [some (.ref 0), some (.ref 1), some (.ref 47), some (.int (iv i))] [] h1 (fun r h1 => r = some (.int 1) ∧ h1.length ≤ 600000 ∧ ax_sl h1 ≤ 7302250) := by
        intro h1 B1 T1 out1 fp1 hI1
        refine az_iinc d_Lw_law_820 rfl (by decide) rfl ?_
        refine ax_goto 18 d_Lw_law_823 (by decide) ?_
        exact ih (i + 5) h1 B1 T1 out1 fp1 (by omega) (by omega) hI1
      have hi5 : i + 5 ≤ L := by omega
      have hz := zand31 (g ((i : Int).toNat))
      obtain ⟨c, hc⟩ := Int.eq_ofNat_of_zero_le hz.1
      have hc32 : c < 32 := by omega
      refine ax_aload_n d_Lw_law_26 rfl ?_
      refine ax_iload_n d_Lw_law_27 rfl ?_
      refine az_iald d_Lw_law_28 (by first | assumption | exact hH.g 0 rfl) (by omega) (by omega) (by omega) ?_
      refine az_bipush _ d_Lw_law_29 (by decide) ?_
      refine az_iand d_Lw_law_31 ?_
      rw [hc]
      match c, hc32 with
      | 0, _ =>
        refine ax_tabIn (tgt := 152) (off := 120) d_Lw_law_32 (by decide) (by decide) rfl (by decide) ?_
        exact lw_feed hI hi5 hL next
      | 1, _ =>
        refine ax_tabIn (tgt := 215) (off := 183) d_Lw_law_32 (by decide) (by decide) rfl (by decide) ?_
        exact lw_fill hI hi5 hL next
      | 2, _ =>
        refine ax_tabIn (tgt := 248) (off := 216) d_Lw_law_32 (by decide) (by decide) rfl (by decide) ?_
        exact lw_clear hI hi5 hL next
      | 3, _ =>
        refine ax_tabIn (tgt := 261) (off := 229) d_Lw_law_32 (by decide) (by decide) rfl (by decide) ?_
        exact lw_octet hI hi5 hL next
      | 4, _ =>
        refine ax_tabIn (tgt := 284) (off := 252) d_Lw_law_32 (by decide) (by decide) rfl (by decide) ?_
        exact lw_pack hI hi5 hL next
      | 5, _ =>
        refine ax_tabIn (tgt := 297) (off := 265) d_Lw_law_32 (by decide) (by decide) rfl (by decide) ?_
        exact lw_packed hI hi5 hL next
      | 6, _ =>
        refine ax_tabIn (tgt := 320) (off := 288) d_Lw_law_32 (by decide) (by decide) rfl (by decide) ?_
        exact lw_order hI hi5 hL next
      | 7, _ =>
        refine ax_tabIn (tgt := 343) (off := 311) d_Lw_law_32 (by decide) (by decide) rfl (by decide) ?_
        exact lw_last hI hi5 hL next
      | 8, _ =>
        refine ax_tabIn (tgt := 366) (off := 334) d_Lw_law_32 (by decide) (by decide) rfl (by decide) ?_
        exact lw_origin hI hi5 hL next
      | 9, _ =>
        refine ax_tabIn (tgt := 379) (off := 347) d_Lw_law_32 (by decide) (by decide) rfl (by decide) ?_
        exact lw_rounds hI hi5 hL next
      | 10, _ =>
        refine ax_tabIn (tgt := 392) (off := 360) d_Lw_law_32 (by decide) (by decide) rfl (by decide) ?_
        exact lw_start hI hi5 hL next
      | 11, _ =>
        refine ax_tabIn (tgt := 425) (off := 393) d_Lw_law_32 (by decide) (by decide) rfl (by decide) ?_
        exact lw_steps hI hi5 hL next
      | 12, _ =>
        refine ax_tabIn (tgt := 498) (off := 466) d_Lw_law_32 (by decide) (by decide) rfl (by decide) ?_
        exact lw_back hI hi5 hL next
      | 13, _ =>
        refine ax_tabIn (tgt := 521) (off := 489) d_Lw_law_32 (by decide) (by decide) rfl (by decide) ?_
        exact lw_ring hI hi5 hL next
      | 14, _ =>
        refine ax_tabIn (tgt := 544) (off := 512) d_Lw_law_32 (by decide) (by decide) rfl (by decide) ?_
        exact lw_symbol hI hi5 hL next
      | 15, _ =>
        refine ax_tabIn (tgt := 567) (off := 535) d_Lw_law_32 (by decide) (by decide) rfl (by decide) ?_
        exact lw_code hI hi5 hL next
      | 16, _ =>
        refine ax_tabIn (tgt := 600) (off := 568) d_Lw_law_32 (by decide) (by decide) rfl (by decide) ?_
        exact lw_bits hI hi5 hL next
      | 17, _ =>
        refine ax_tabIn (tgt := 613) (off := 581) d_Lw_law_32 (by decide) (by decide) rfl (by decide) ?_
        exact lw_write hI hi5 hL next
      | 18, _ =>
        refine ax_tabIn (tgt := 626) (off := 594) d_Lw_law_32 (by decide) (by decide) rfl (by decide) ?_
        exact lw_out hI hi5 hL next
      | 19, _ =>
        refine ax_tabIn (tgt := 649) (off := 617) d_Lw_law_32 (by decide) (by decide) rfl (by decide) ?_
        exact lw_tape hI hi5 hL next
      | 20, _ =>
        refine ax_tabIn (tgt := 712) (off := 680) d_Lw_law_32 (by decide) (by decide) rfl (by decide) ?_
        exact lw_take hI hi5 hL next
      | 21, _ =>
        refine ax_tabIn (tgt := 725) (off := 693) d_Lw_law_32 (by decide) (by decide) rfl (by decide) ?_
        exact lw_spoil hI hi5 hL next
      | 22, _ =>
        refine ax_tabIn (tgt := 758) (off := 726) d_Lw_law_32 (by decide) (by decide) rfl (by decide) ?_
        exact lw_cut hI hi5 hL next
      | 23, _ =>
        refine ax_tabIn (tgt := 781) (off := 749) d_Lw_law_32 (by decide) (by decide) rfl (by decide) ?_
        exact lw_read hI hi5 hL next
      | 24, _ =>
        refine ax_tabIn (tgt := 794) (off := 762) d_Lw_law_32 (by decide) (by decide) rfl (by decide) ?_
        exact lw_faultAt hI hi5 hL next
      | 25, _ =>
        refine ax_tabIn (tgt := 807) (off := 775) d_Lw_law_32 (by decide) (by decide) rfl (by decide) ?_
        exact lw_check hI hi5 hL next
      | c + 26, hc9 =>
        refine ax_tabOut (tgt := 820) d_Lw_law_32 (Or.inr ?_) (by decide) ?_
        · rw [iv_toInt (by omega)]
          omega
        · exact next h B T out fp hI
set_option maxRecDepth 100000 in
set_option maxHeartbeats 8000000 in
theorem law_body : ∀ (L : Nat) (xs : Nat → Int32), L ≤ 2560 → ax_W m_Lw_law 7 0 [some (.ref 0), none, none, none] [] [.inl (0, L, .inl xs)] (fun r h1 => r = some (.int 1) ∧ h1.length ≤ 600000 ∧ ax_sl h1 ≤ 7302250) := by
  intro L xs hL
  have e0 : (Sum.inl (0, L, Sum.inl xs) : ax_C) = ia L (fun j => (xs j).toInt) := by
    unfold ia
    congr 4
    funext j
    exact (iv_of (xs j)).symm
  rw [e0]
  refine ai_new [.null, .null, .null, .null, .null, .int 0, .int 0, .int 0] [ia L (fun j => (xs j).toInt), ob 0 [.null, .null, .null, .null, .null, .int (iv 0), .int (iv 0), .int (iv 0)]] 1 d_Lw_law_0 nw_Lw_7 rfl rfl ?_
  refine ax_dup d_Lw_law_3 rfl ?_
  refine ax_cI0 d_Lw_law_4 i_S_init lk_Lw_9 (Nat.le_of_ble_eq_true rfl) (Nat.le_of_ble_eq_true rfl) (ax_Cl.mono (c_S_init) (fun r h1 hp => ?_))
  obtain ⟨rfl, rfl⟩ := hp
  show ax_W m_Lw_law 7 7 [some (.ref 0), none, none, none] [.ref 1] _ _
  refine ax_astore_n d_Lw_law_7 (by decide) rfl ?_
  refine ai_new [.int 0, .null, .int 0, .null, .null, .null, .int 0, .null, .int 0, .int 0, .null, .null, .int 0, .null, .int 0, .null, .null, .null, .null, .null, .null, .null, .null, .int 0, .int 0, .null, .int 0, .int 0, .int 0, .int 0, .null] _ 47 d_Lw_law_8 nw_Lw_10 rfl rfl ?_
  refine ax_dup d_Lw_law_11 rfl ?_
  refine ax_cI0 d_Lw_law_12 i_Mo_init lk_Lw_12 (Nat.le_of_ble_eq_true rfl) (Nat.le_of_ble_eq_true rfl) (ax_Cl.mono (c_Mo_init) (fun r h1 hp => ?_))
  obtain ⟨rfl, rfl⟩ := hp
  show ax_W m_Lw_law 7 15 [some (.ref 0), some (.ref 1), none, none] [.ref 47] (H66 (ia L (fun j => (xs j).toInt))) _
  refine ax_astore_n d_Lw_law_15 (by decide) rfl ?_
  refine az_iconst d_Lw_law_16 ?_
  refine ax_istore_n d_Lw_law_17 (by decide) rfl ?_
  refine law_loop hL L 0 _ [] [] [] (-2) (by omega) (by omega) ⟨Hs.c rfl rfl Hs.n, ClI_0 _, MoI_0 _, fun j => of32 _, rfl, ?_⟩
  show L + 35691 = _
  rfl
