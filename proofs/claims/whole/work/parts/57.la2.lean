section Am7
variable {p : Program} {l : Launch} {e : Env} {s : State} {m : MethodId} {args : Array Value} {below : List Frame} {meth : Method} {c : Code} {D : GD} {B tW : Nat} {α0 : Ad} {ν0 : Nu} {rt : Option FieldType} {mn : String} {tab : List ExceptionTableEntry} {Q : State → Prop} {cells slots : Nat} {ν : Nu} {ι : Io} {ρ : Ro} {ℓ : Lo} {sb L : Nat} {xs : Nat → Int32}
set_option maxHeartbeats 1000000 in
set_option maxRecDepth 10000 in
theorem br_object (C : Cx p l s m args meth c D B tW α0 R_La b_La_law 7 rt mn tab) (hX : va_X sb L xs s s.heap) (hbl : sb < B) (h98 : α0 98 0 0 = sb) (hL : L ≤ 3584) (h00 : ∀ r i j, ν0 r i j = none) {i : Nat} (hi : 7 * i + 7 ≤ L) {N c9 w9 n9 z9 kn g9 : Nat} (hI : IV ν ι ρ N c9 w9 n9 z9 kn g9) (hClo : Clo ν ρ) (h90 : ν 90 0 0 = some 1) (hc : cells + 60 ≤ 601024) (hs : slots + 2000 ≤ 7293034) (nx : ∀ (νd : Nu) (ι2 : Io) (ρ2 : Ro) (ℓ2 : Lo), INV νd ι2 ρ2 → νd 90 0 0 = some 1 → V p l e room_1 s m args below meth c D B α0 ν0 7 Q (cells + 60) (slots + 2000) νd ι2 ρ2 ℓ2 1160 [(4, sI (nI (7 * i))), (3, sR 90 0 0), (2, sR 10 0 0), (1, sR 9 0 0), (0, sR 98 0 0)] []) : V p l e room_1 s m args below meth c D B α0 ν0 7 Q cells slots ν ι ρ ℓ 120 [(4, sI (nI (7 * i))), (3, sR 90 0 0), (2, sR 10 0 0), (1, sR 9 0 0), (0, sR 98 0 0)] [] := by
  refine V_aload_n C d_La_law_120 rfl ?_
  refine V_aload_n C d_La_law_121 rfl ?_
  refine V_callSW (as := [_, _]) C d_La_law_122 (c_La_object hI h90) m_La_object k_La_69 ⟨by decide, by decide⟩ (Nat.le_of_ble_eq_true rfl) ⟨hc, hs⟩ rfl ?_
  rintro _ ν1 ι1 ρ1 ℓ1 ⟨h9, k, b, rfl, hM, hb⟩
  dsimp only [Option.toList, List.cons_append, List.nil_append]
  refine V_istore (lv' := [(5, _), (4, _), (3, _), (2, _), (1, _), (0, _)]) C d_La_law_125 (by decide) rfl ?_
  refine V_aload_n C d_La_law_127 rfl ?_
  obtain ⟨Po2, hC2, hP2⟩ := hM ℓ1
  refine V_al (n := 2) rfl (by decide) (fun a10 => ?_)
  refine V_callV (as := []) C d_La_law_128 hC2 m_Mo_object cf_Mo k_La_74 a10 ⟨by decide, by decide⟩ (Nat.le_of_ble_eq_true rfl) ⟨hc, hs⟩ rfl ?_
  rintro v2 ν2 ι2 ρ2 ℓ2 hp2
  obtain ⟨⟨el, ⟨b2_, ev, hbb⟩, hk2, νd, hIN, hDr⟩, en⟩ := hP2 _ _ _ _ _ hp2
  subst ev
  subst el
  subst en
  refine V_pick [0, 1, 2, 3, 4, 5] rfl ?_
  refine V_dr hClo hDr h00 (wfl_c wfv_I (wfl_c wfv_I (wfl_c (wfv_R (hDr.2.2 90 0 0 (nn h90))) (wfl_c (wfv_R (hDr.2.2 10 0 0 hI.mo.al)) (wfl_c (wfv_R (hDr.2.2 9 0 0 (nn hI.os.n9))) (wfl_c (wfv_G (by decide)) wfl_n)))))) (wfl_c wfv_I wfl_n) ?_
  have h90d := hDr.n90 h9 h90
  obtain ⟨N2, c2, w2, n2, z2, kn2, g2, hI2⟩ := hIN
  dsimp only [Option.toList, List.cons_append, List.nil_append]
  refine V_istore (lv' := [(6, _), (5, _), (4, _), (3, _), (2, _), (1, _), (0, _)]) C d_La_law_131 (by decide) rfl ?_
  refine V_aload_n C d_La_law_133 rfl ?_
  refine V_callV (as := []) C d_La_law_134 (c_Mo_thrown hI2.mo) m_Mo_thrown cf_Mo k_La_75 hI2.mo.al ⟨by decide, by decide⟩ (Nat.le_of_ble_eq_true rfl) ⟨hc, hs⟩ rfl ?_
  rintro _ _ _ _ _ ⟨rfl, rfl, rfl, rfl, rfl⟩
  dsimp only [Option.toList, List.cons_append, List.nil_append]
  refine V_iload C d_La_law_137 rfl ?_
  refine V_icmp_eq (tgt := 144) C d_La_law_139 (by decide) (fun h139 => ?_) (fun h139 => absurd hk2 h139)
  refine V_iload C d_La_law_144 rfl ?_
  refine V_if_ne (tgt := 161) C d_La_law_146 (by decide) (fun h146 => ?_) (fun h146 => ?_)
  · refine V_goto (tgt := 1160) C d_La_law_161 (by decide) ?_
    refine V_pick [2, 3, 4, 5, 6] rfl ?_
    exact nx _ _ _ _ ⟨_, _, _, _, _, _, _, hI2⟩ h90d
  · refine V_aload_n C d_La_law_149 rfl ?_
    refine V_iconst (v := 0) C d_La_law_150 (by decide) ?_
    refine V_lald C d_La_law_151 (by decide) rfl h90d (rfl : (0 : Int32) = nI 0) (by decide) rfl ?_
    refine V_iload C d_La_law_152 rfl ?_
    refine V_i2l C d_La_law_154 ?_
    refine V_lcmp C d_La_law_155 ?_
    refine V_if_eq (tgt := 161) C d_La_law_156 (by decide) (fun h156 => ?_) (fun h156 => absurd (cmp0 (hb h146) (hbb h146)) h156)
    refine V_goto (tgt := 1160) C d_La_law_161 (by decide) ?_
    refine V_pick [2, 3, 4, 5, 6] rfl ?_
    exact nx _ _ _ _ ⟨_, _, _, _, _, _, _, hI2⟩ h90d
set_option maxHeartbeats 1000000 in
set_option maxRecDepth 10000 in
theorem br_section (C : Cx p l s m args meth c D B tW α0 R_La b_La_law 7 rt mn tab) (hX : va_X sb L xs s s.heap) (hbl : sb < B) (h98 : α0 98 0 0 = sb) (hL : L ≤ 3584) (h00 : ∀ r i j, ν0 r i j = none) {i : Nat} (hi : 7 * i + 7 ≤ L) {N c9 w9 n9 z9 kn g9 : Nat} (hI : IV ν ι ρ N c9 w9 n9 z9 kn g9) (hClo : Clo ν ρ) (h90 : ν 90 0 0 = some 1) (hc : cells + 60 ≤ 601024) (hs : slots + 2000 ≤ 7293034) (nx : ∀ (νd : Nu) (ι2 : Io) (ρ2 : Ro) (ℓ2 : Lo), INV νd ι2 ρ2 → νd 90 0 0 = some 1 → V p l e room_1 s m args below meth c D B α0 ν0 7 Q (cells + 60) (slots + 2000) νd ι2 ρ2 ℓ2 1160 [(4, sI (nI (7 * i))), (3, sR 90 0 0), (2, sR 10 0 0), (1, sR 9 0 0), (0, sR 98 0 0)] []) : V p l e room_1 s m args below meth c D B α0 ν0 7 Q cells slots ν ι ρ ℓ 164 [(4, sI (nI (7 * i))), (3, sR 90 0 0), (2, sR 10 0 0), (1, sR 9 0 0), (0, sR 98 0 0)] [] := by
  refine V_aload_n C d_La_law_164 rfl ?_
  refine V_aload_n C d_La_law_165 rfl ?_
  refine V_iload C d_La_law_166 rfl ?_
  refine V_iconst (v := 1) C d_La_law_168 (by decide) ?_
  refine V_iadd C d_La_law_169 ?_
  refine V_eScr (t := 7 * i + 1) C d_La_law_170 hX hbl h98 (nI_add (7 * i) 1) (by omega) hL ?_
  refine V_aload_n C d_La_law_171 rfl ?_
  refine V_iload C d_La_law_172 rfl ?_
  refine V_iconst (v := 2) C d_La_law_174 (by decide) ?_
  refine V_iadd C d_La_law_175 ?_
  refine V_eScr (t := 7 * i + 2) C d_La_law_176 hX hbl h98 (nI_add (7 * i) 2) (by omega) hL ?_
  refine V_aload_n C d_La_law_177 rfl ?_
  refine V_iload C d_La_law_178 rfl ?_
  refine V_iconst (v := 3) C d_La_law_180 (by decide) ?_
  refine V_iadd C d_La_law_181 ?_
  refine V_eScr (t := 7 * i + 3) C d_La_law_182 hX hbl h98 (nI_add (7 * i) 3) (by omega) hL ?_
  refine V_aload_n C d_La_law_183 rfl ?_
  refine V_iload C d_La_law_184 rfl ?_
  refine V_iconst (v := 4) C d_La_law_186 (by decide) ?_
  refine V_iadd C d_La_law_187 ?_
  refine V_eScr (t := 7 * i + 4) C d_La_law_188 hX hbl h98 (nI_add (7 * i) 4) (by omega) hL ?_
  refine V_aload_n C d_La_law_189 rfl ?_
  refine V_callSW (as := [_, _, _, _, _, _]) C d_La_law_190 (c_La_section hI h90) m_La_section k_La_78 ⟨by decide, by decide⟩ (Nat.le_of_ble_eq_true rfl) ⟨hc, hs⟩ rfl ?_
  rintro _ ν1 ι1 ρ1 ℓ1 ⟨h9, k, b, rfl, hM, hb⟩
  dsimp only [Option.toList, List.cons_append, List.nil_append]
  refine V_istore (lv' := [(5, _), (4, _), (3, _), (2, _), (1, _), (0, _)]) C d_La_law_193 (by decide) rfl ?_
  refine V_aload_n C d_La_law_195 rfl ?_
  refine V_aload_n C d_La_law_196 rfl ?_
  refine V_iload C d_La_law_197 rfl ?_
  refine V_iconst (v := 1) C d_La_law_199 (by decide) ?_
  refine V_iadd C d_La_law_200 ?_
  refine V_eScr (t := 7 * i + 1) C d_La_law_201 hX hbl h98 (nI_add (7 * i) 1) (by omega) hL ?_
  refine V_aload_n C d_La_law_202 rfl ?_
  refine V_iload C d_La_law_203 rfl ?_
  refine V_iconst (v := 2) C d_La_law_205 (by decide) ?_
  refine V_iadd C d_La_law_206 ?_
  refine V_eScr (t := 7 * i + 2) C d_La_law_207 hX hbl h98 (nI_add (7 * i) 2) (by omega) hL ?_
  refine V_aload_n C d_La_law_208 rfl ?_
  refine V_iload C d_La_law_209 rfl ?_
  refine V_iconst (v := 3) C d_La_law_211 (by decide) ?_
  refine V_iadd C d_La_law_212 ?_
  refine V_eScr (t := 7 * i + 3) C d_La_law_213 hX hbl h98 (nI_add (7 * i) 3) (by omega) hL ?_
  refine V_aload_n C d_La_law_214 rfl ?_
  refine V_iload C d_La_law_215 rfl ?_
  refine V_iconst (v := 4) C d_La_law_217 (by decide) ?_
  refine V_iadd C d_La_law_218 ?_
  refine V_eScr (t := 7 * i + 4) C d_La_law_219 hX hbl h98 (nI_add (7 * i) 4) (by omega) hL ?_
  obtain ⟨Po2, hC2, hP2⟩ := hM ℓ1
  refine V_al (n := 2) rfl (by decide) (fun a10 => ?_)
  refine V_callV (as := [_, _, _, _]) C d_La_law_220 hC2 m_Mo_section cf_Mo k_La_81 a10 ⟨by decide, by decide⟩ (Nat.le_of_ble_eq_true rfl) ⟨hc, hs⟩ rfl ?_
  rintro v2 ν2 ι2 ρ2 ℓ2 hp2
  obtain ⟨⟨el, ⟨b2_, ev, hbb⟩, hk2, νd, hIN, hDr⟩, en⟩ := hP2 _ _ _ _ _ hp2
  subst ev
  subst el
  subst en
  refine V_pick [0, 1, 2, 3, 4, 5] rfl ?_
  refine V_dr hClo hDr h00 (wfl_c wfv_I (wfl_c wfv_I (wfl_c (wfv_R (hDr.2.2 90 0 0 (nn h90))) (wfl_c (wfv_R (hDr.2.2 10 0 0 hI.mo.al)) (wfl_c (wfv_R (hDr.2.2 9 0 0 (nn hI.os.n9))) (wfl_c (wfv_G (by decide)) wfl_n)))))) (wfl_c wfv_I wfl_n) ?_
  have h90d := hDr.n90 h9 h90
  obtain ⟨N2, c2, w2, n2, z2, kn2, g2, hI2⟩ := hIN
  dsimp only [Option.toList, List.cons_append, List.nil_append]
  refine V_istore (lv' := [(6, _), (5, _), (4, _), (3, _), (2, _), (1, _), (0, _)]) C d_La_law_223 (by decide) rfl ?_
  refine V_aload_n C d_La_law_225 rfl ?_
  refine V_callV (as := []) C d_La_law_226 (c_Mo_thrown hI2.mo) m_Mo_thrown cf_Mo k_La_75 hI2.mo.al ⟨by decide, by decide⟩ (Nat.le_of_ble_eq_true rfl) ⟨hc, hs⟩ rfl ?_
  rintro _ _ _ _ _ ⟨rfl, rfl, rfl, rfl, rfl⟩
  dsimp only [Option.toList, List.cons_append, List.nil_append]
  refine V_iload C d_La_law_229 rfl ?_
  refine V_icmp_eq (tgt := 236) C d_La_law_231 (by decide) (fun h231 => ?_) (fun h231 => absurd hk2 h231)
  refine V_iload C d_La_law_236 rfl ?_
  refine V_if_ne (tgt := 253) C d_La_law_238 (by decide) (fun h238 => ?_) (fun h238 => ?_)
  · refine V_goto (tgt := 1160) C d_La_law_253 (by decide) ?_
    refine V_pick [2, 3, 4, 5, 6] rfl ?_
    exact nx _ _ _ _ ⟨_, _, _, _, _, _, _, hI2⟩ h90d
  · refine V_aload_n C d_La_law_241 rfl ?_
    refine V_iconst (v := 0) C d_La_law_242 (by decide) ?_
    refine V_lald C d_La_law_243 (by decide) rfl h90d (rfl : (0 : Int32) = nI 0) (by decide) rfl ?_
    refine V_iload C d_La_law_244 rfl ?_
    refine V_i2l C d_La_law_246 ?_
    refine V_lcmp C d_La_law_247 ?_
    refine V_if_eq (tgt := 253) C d_La_law_248 (by decide) (fun h248 => ?_) (fun h248 => absurd (cmp0 (hb h238) (hbb h238)) h248)
    refine V_goto (tgt := 1160) C d_La_law_253 (by decide) ?_
    refine V_pick [2, 3, 4, 5, 6] rfl ?_
    exact nx _ _ _ _ ⟨_, _, _, _, _, _, _, hI2⟩ h90d
set_option maxHeartbeats 1000000 in
set_option maxRecDepth 10000 in
theorem br_bytes (C : Cx p l s m args meth c D B tW α0 R_La b_La_law 7 rt mn tab) (hX : va_X sb L xs s s.heap) (hbl : sb < B) (h98 : α0 98 0 0 = sb) (hL : L ≤ 3584) (h00 : ∀ r i j, ν0 r i j = none) {i : Nat} (hi : 7 * i + 7 ≤ L) {N c9 w9 n9 z9 kn g9 : Nat} (hI : IV ν ι ρ N c9 w9 n9 z9 kn g9) (hClo : Clo ν ρ) (h90 : ν 90 0 0 = some 1) (hc : cells + 60 ≤ 601024) (hs : slots + 2000 ≤ 7293034) (nx : ∀ (νd : Nu) (ι2 : Io) (ρ2 : Ro) (ℓ2 : Lo), INV νd ι2 ρ2 → νd 90 0 0 = some 1 → V p l e room_1 s m args below meth c D B α0 ν0 7 Q (cells + 60) (slots + 2000) νd ι2 ρ2 ℓ2 1160 [(4, sI (nI (7 * i))), (3, sR 90 0 0), (2, sR 10 0 0), (1, sR 9 0 0), (0, sR 98 0 0)] []) : V p l e room_1 s m args below meth c D B α0 ν0 7 Q cells slots ν ι ρ ℓ 256 [(4, sI (nI (7 * i))), (3, sR 90 0 0), (2, sR 10 0 0), (1, sR 9 0 0), (0, sR 98 0 0)] [] := by
  refine V_aload_n C d_La_law_256 rfl ?_
  refine V_aload_n C d_La_law_257 rfl ?_
  refine V_iload C d_La_law_258 rfl ?_
  refine V_iconst (v := 1) C d_La_law_260 (by decide) ?_
  refine V_iadd C d_La_law_261 ?_
  refine V_eScr (t := 7 * i + 1) C d_La_law_262 hX hbl h98 (nI_add (7 * i) 1) (by omega) hL ?_
  refine V_aload_n C d_La_law_263 rfl ?_
  refine V_iload C d_La_law_264 rfl ?_
  refine V_iconst (v := 2) C d_La_law_266 (by decide) ?_
  refine V_iadd C d_La_law_267 ?_
  refine V_eScr (t := 7 * i + 2) C d_La_law_268 hX hbl h98 (nI_add (7 * i) 2) (by omega) hL ?_
  refine V_aload_n C d_La_law_269 rfl ?_
  refine V_iload C d_La_law_270 rfl ?_
  refine V_iconst (v := 3) C d_La_law_272 (by decide) ?_
  refine V_iadd C d_La_law_273 ?_
  refine V_eScr (t := 7 * i + 3) C d_La_law_274 hX hbl h98 (nI_add (7 * i) 3) (by omega) hL ?_
  refine V_aload_n C d_La_law_275 rfl ?_
  refine V_iload C d_La_law_276 rfl ?_
  refine V_iconst (v := 4) C d_La_law_278 (by decide) ?_
  refine V_iadd C d_La_law_279 ?_
  refine V_eScr (t := 7 * i + 4) C d_La_law_280 hX hbl h98 (nI_add (7 * i) 4) (by omega) hL ?_
  refine V_aload_n C d_La_law_281 rfl ?_
  refine V_callSW (as := [_, _, _, _, _, _]) C d_La_law_282 (c_La_bytes hI h90) m_La_bytes k_La_82 ⟨by decide, by decide⟩ (Nat.le_of_ble_eq_true rfl) ⟨hc, hs⟩ rfl ?_
  rintro _ ν1 ι1 ρ1 ℓ1 ⟨h9, k, b, rfl, hM, hb⟩
  dsimp only [Option.toList, List.cons_append, List.nil_append]
  refine V_istore (lv' := [(5, _), (4, _), (3, _), (2, _), (1, _), (0, _)]) C d_La_law_285 (by decide) rfl ?_
  refine V_aload_n C d_La_law_287 rfl ?_
  refine V_aload_n C d_La_law_288 rfl ?_
  refine V_iload C d_La_law_289 rfl ?_
  refine V_iconst (v := 1) C d_La_law_291 (by decide) ?_
  refine V_iadd C d_La_law_292 ?_
  refine V_eScr (t := 7 * i + 1) C d_La_law_293 hX hbl h98 (nI_add (7 * i) 1) (by omega) hL ?_
  refine V_aload_n C d_La_law_294 rfl ?_
  refine V_iload C d_La_law_295 rfl ?_
  refine V_iconst (v := 2) C d_La_law_297 (by decide) ?_
  refine V_iadd C d_La_law_298 ?_
  refine V_eScr (t := 7 * i + 2) C d_La_law_299 hX hbl h98 (nI_add (7 * i) 2) (by omega) hL ?_
  refine V_aload_n C d_La_law_300 rfl ?_
  refine V_iload C d_La_law_301 rfl ?_
  refine V_iconst (v := 3) C d_La_law_303 (by decide) ?_
  refine V_iadd C d_La_law_304 ?_
  refine V_eScr (t := 7 * i + 3) C d_La_law_305 hX hbl h98 (nI_add (7 * i) 3) (by omega) hL ?_
  refine V_aload_n C d_La_law_306 rfl ?_
  refine V_iload C d_La_law_307 rfl ?_
  refine V_iconst (v := 4) C d_La_law_309 (by decide) ?_
  refine V_iadd C d_La_law_310 ?_
  refine V_eScr (t := 7 * i + 4) C d_La_law_311 hX hbl h98 (nI_add (7 * i) 4) (by omega) hL ?_
  obtain ⟨Po2, hC2, hP2⟩ := hM ℓ1
  refine V_al (n := 2) rfl (by decide) (fun a10 => ?_)
  refine V_callV (as := [_, _, _, _]) C d_La_law_312 hC2 m_Mo_bytes cf_Mo k_La_84 a10 ⟨by decide, by decide⟩ (Nat.le_of_ble_eq_true rfl) ⟨hc, hs⟩ rfl ?_
  rintro v2 ν2 ι2 ρ2 ℓ2 hp2
  obtain ⟨⟨el, ⟨b2_, ev, hbb⟩, hk2, νd, hIN, hDr⟩, en⟩ := hP2 _ _ _ _ _ hp2
  subst ev
  subst el
  subst en
  refine V_pick [0, 1, 2, 3, 4, 5] rfl ?_
  refine V_dr hClo hDr h00 (wfl_c wfv_I (wfl_c wfv_I (wfl_c (wfv_R (hDr.2.2 90 0 0 (nn h90))) (wfl_c (wfv_R (hDr.2.2 10 0 0 hI.mo.al)) (wfl_c (wfv_R (hDr.2.2 9 0 0 (nn hI.os.n9))) (wfl_c (wfv_G (by decide)) wfl_n)))))) (wfl_c wfv_I wfl_n) ?_
  have h90d := hDr.n90 h9 h90
  obtain ⟨N2, c2, w2, n2, z2, kn2, g2, hI2⟩ := hIN
  dsimp only [Option.toList, List.cons_append, List.nil_append]
  refine V_istore (lv' := [(6, _), (5, _), (4, _), (3, _), (2, _), (1, _), (0, _)]) C d_La_law_315 (by decide) rfl ?_
  refine V_aload_n C d_La_law_317 rfl ?_
  refine V_callV (as := []) C d_La_law_318 (c_Mo_thrown hI2.mo) m_Mo_thrown cf_Mo k_La_75 hI2.mo.al ⟨by decide, by decide⟩ (Nat.le_of_ble_eq_true rfl) ⟨hc, hs⟩ rfl ?_
  rintro _ _ _ _ _ ⟨rfl, rfl, rfl, rfl, rfl⟩
  dsimp only [Option.toList, List.cons_append, List.nil_append]
  refine V_iload C d_La_law_321 rfl ?_
  refine V_icmp_eq (tgt := 328) C d_La_law_323 (by decide) (fun h323 => ?_) (fun h323 => absurd hk2 h323)
  refine V_iload C d_La_law_328 rfl ?_
  refine V_if_ne (tgt := 345) C d_La_law_330 (by decide) (fun h330 => ?_) (fun h330 => ?_)
  · refine V_goto (tgt := 1160) C d_La_law_345 (by decide) ?_
    refine V_pick [2, 3, 4, 5, 6] rfl ?_
    exact nx _ _ _ _ ⟨_, _, _, _, _, _, _, hI2⟩ h90d
  · refine V_aload_n C d_La_law_333 rfl ?_
    refine V_iconst (v := 0) C d_La_law_334 (by decide) ?_
    refine V_lald C d_La_law_335 (by decide) rfl h90d (rfl : (0 : Int32) = nI 0) (by decide) rfl ?_
    refine V_iload C d_La_law_336 rfl ?_
    refine V_i2l C d_La_law_338 ?_
    refine V_lcmp C d_La_law_339 ?_
    refine V_if_eq (tgt := 345) C d_La_law_340 (by decide) (fun h340 => ?_) (fun h340 => absurd (cmp0 (hb h330) (hbb h330)) h340)
    refine V_goto (tgt := 1160) C d_La_law_345 (by decide) ?_
    refine V_pick [2, 3, 4, 5, 6] rfl ?_
    exact nx _ _ _ _ ⟨_, _, _, _, _, _, _, hI2⟩ h90d
set_option maxHeartbeats 1000000 in
set_option maxRecDepth 10000 in
theorem br_name (C : Cx p l s m args meth c D B tW α0 R_La b_La_law 7 rt mn tab) (hX : va_X sb L xs s s.heap) (hbl : sb < B) (h98 : α0 98 0 0 = sb) (hL : L ≤ 3584) (h00 : ∀ r i j, ν0 r i j = none) {i : Nat} (hi : 7 * i + 7 ≤ L) {N c9 w9 n9 z9 kn g9 : Nat} (hI : IV ν ι ρ N c9 w9 n9 z9 kn g9) (hClo : Clo ν ρ) (h90 : ν 90 0 0 = some 1) (hc : cells + 60 ≤ 601024) (hs : slots + 2000 ≤ 7293034) (nx : ∀ (νd : Nu) (ι2 : Io) (ρ2 : Ro) (ℓ2 : Lo), INV νd ι2 ρ2 → νd 90 0 0 = some 1 → V p l e room_1 s m args below meth c D B α0 ν0 7 Q (cells + 60) (slots + 2000) νd ι2 ρ2 ℓ2 1160 [(4, sI (nI (7 * i))), (3, sR 90 0 0), (2, sR 10 0 0), (1, sR 9 0 0), (0, sR 98 0 0)] []) : V p l e room_1 s m args below meth c D B α0 ν0 7 Q cells slots ν ι ρ ℓ 348 [(4, sI (nI (7 * i))), (3, sR 90 0 0), (2, sR 10 0 0), (1, sR 9 0 0), (0, sR 98 0 0)] [] := by
  refine V_aload_n C d_La_law_348 rfl ?_
  refine V_aload_n C d_La_law_349 rfl ?_
  refine V_iload C d_La_law_350 rfl ?_
  refine V_iconst (v := 1) C d_La_law_352 (by decide) ?_
  refine V_iadd C d_La_law_353 ?_
  refine V_eScr (t := 7 * i + 1) C d_La_law_354 hX hbl h98 (nI_add (7 * i) 1) (by omega) hL ?_
  refine V_aload_n C d_La_law_355 rfl ?_
  refine V_iload C d_La_law_356 rfl ?_
  refine V_iconst (v := 2) C d_La_law_358 (by decide) ?_
  refine V_iadd C d_La_law_359 ?_
  refine V_eScr (t := 7 * i + 2) C d_La_law_360 hX hbl h98 (nI_add (7 * i) 2) (by omega) hL ?_
  refine V_aload_n C d_La_law_361 rfl ?_
  refine V_iload C d_La_law_362 rfl ?_
  refine V_iconst (v := 3) C d_La_law_364 (by decide) ?_
  refine V_iadd C d_La_law_365 ?_
  refine V_eScr (t := 7 * i + 3) C d_La_law_366 hX hbl h98 (nI_add (7 * i) 3) (by omega) hL ?_
  refine V_aload_n C d_La_law_367 rfl ?_
  refine V_iload C d_La_law_368 rfl ?_
  refine V_iconst (v := 4) C d_La_law_370 (by decide) ?_
  refine V_iadd C d_La_law_371 ?_
  refine V_eScr (t := 7 * i + 4) C d_La_law_372 hX hbl h98 (nI_add (7 * i) 4) (by omega) hL ?_
  refine V_aload_n C d_La_law_373 rfl ?_
  refine V_iload C d_La_law_374 rfl ?_
  refine V_iconst (v := 5) C d_La_law_376 (by decide) ?_
  refine V_iadd C d_La_law_377 ?_
  refine V_eScr (t := 7 * i + 5) C d_La_law_378 hX hbl h98 (nI_add (7 * i) 5) (by omega) hL ?_
  refine V_aload_n C d_La_law_379 rfl ?_
  refine V_callSW (as := [_, _, _, _, _, _, _]) C d_La_law_380 (c_La_name hI h90) m_La_name k_La_85 ⟨by decide, by decide⟩ (Nat.le_of_ble_eq_true rfl) ⟨hc, hs⟩ rfl ?_
  rintro _ ν1 ι1 ρ1 ℓ1 ⟨h9, k, b, rfl, hM, hb⟩
  dsimp only [Option.toList, List.cons_append, List.nil_append]
  refine V_istore (lv' := [(5, _), (4, _), (3, _), (2, _), (1, _), (0, _)]) C d_La_law_383 (by decide) rfl ?_
  refine V_aload_n C d_La_law_385 rfl ?_
  refine V_aload_n C d_La_law_386 rfl ?_
  refine V_iload C d_La_law_387 rfl ?_
  refine V_iconst (v := 1) C d_La_law_389 (by decide) ?_
  refine V_iadd C d_La_law_390 ?_
  refine V_eScr (t := 7 * i + 1) C d_La_law_391 hX hbl h98 (nI_add (7 * i) 1) (by omega) hL ?_
  refine V_aload_n C d_La_law_392 rfl ?_
  refine V_iload C d_La_law_393 rfl ?_
  refine V_iconst (v := 2) C d_La_law_395 (by decide) ?_
  refine V_iadd C d_La_law_396 ?_
  refine V_eScr (t := 7 * i + 2) C d_La_law_397 hX hbl h98 (nI_add (7 * i) 2) (by omega) hL ?_
  refine V_aload_n C d_La_law_398 rfl ?_
  refine V_iload C d_La_law_399 rfl ?_
  refine V_iconst (v := 3) C d_La_law_401 (by decide) ?_
  refine V_iadd C d_La_law_402 ?_
  refine V_eScr (t := 7 * i + 3) C d_La_law_403 hX hbl h98 (nI_add (7 * i) 3) (by omega) hL ?_
  refine V_aload_n C d_La_law_404 rfl ?_
  refine V_iload C d_La_law_405 rfl ?_
  refine V_iconst (v := 4) C d_La_law_407 (by decide) ?_
  refine V_iadd C d_La_law_408 ?_
  refine V_eScr (t := 7 * i + 4) C d_La_law_409 hX hbl h98 (nI_add (7 * i) 4) (by omega) hL ?_
  refine V_aload_n C d_La_law_410 rfl ?_
  refine V_iload C d_La_law_411 rfl ?_
  refine V_iconst (v := 5) C d_La_law_413 (by decide) ?_
  refine V_iadd C d_La_law_414 ?_
  refine V_eScr (t := 7 * i + 5) C d_La_law_415 hX hbl h98 (nI_add (7 * i) 5) (by omega) hL ?_
  obtain ⟨Po2, hC2, hP2⟩ := hM ℓ1
  refine V_al (n := 2) rfl (by decide) (fun a10 => ?_)
  refine V_callV (as := [_, _, _, _, _]) C d_La_law_416 hC2 m_Mo_name cf_Mo k_La_88 a10 ⟨by decide, by decide⟩ (Nat.le_of_ble_eq_true rfl) ⟨hc, hs⟩ rfl ?_
  rintro v2 ν2 ι2 ρ2 ℓ2 hp2
  obtain ⟨⟨el, ⟨b2_, ev, hbb⟩, hk2, νd, hIN, hDr⟩, en⟩ := hP2 _ _ _ _ _ hp2
  subst ev
  subst el
  subst en
  refine V_pick [0, 1, 2, 3, 4, 5] rfl ?_
  refine V_dr hClo hDr h00 (wfl_c wfv_I (wfl_c wfv_I (wfl_c (wfv_R (hDr.2.2 90 0 0 (nn h90))) (wfl_c (wfv_R (hDr.2.2 10 0 0 hI.mo.al)) (wfl_c (wfv_R (hDr.2.2 9 0 0 (nn hI.os.n9))) (wfl_c (wfv_G (by decide)) wfl_n)))))) (wfl_c wfv_I wfl_n) ?_
  have h90d := hDr.n90 h9 h90
  obtain ⟨N2, c2, w2, n2, z2, kn2, g2, hI2⟩ := hIN
  dsimp only [Option.toList, List.cons_append, List.nil_append]
  refine V_istore (lv' := [(6, _), (5, _), (4, _), (3, _), (2, _), (1, _), (0, _)]) C d_La_law_419 (by decide) rfl ?_
  refine V_aload_n C d_La_law_421 rfl ?_
  refine V_callV (as := []) C d_La_law_422 (c_Mo_thrown hI2.mo) m_Mo_thrown cf_Mo k_La_75 hI2.mo.al ⟨by decide, by decide⟩ (Nat.le_of_ble_eq_true rfl) ⟨hc, hs⟩ rfl ?_
  rintro _ _ _ _ _ ⟨rfl, rfl, rfl, rfl, rfl⟩
  dsimp only [Option.toList, List.cons_append, List.nil_append]
  refine V_iload C d_La_law_425 rfl ?_
  refine V_icmp_eq (tgt := 432) C d_La_law_427 (by decide) (fun h427 => ?_) (fun h427 => absurd hk2 h427)
  refine V_iload C d_La_law_432 rfl ?_
  refine V_if_ne (tgt := 449) C d_La_law_434 (by decide) (fun h434 => ?_) (fun h434 => ?_)
  · refine V_goto (tgt := 1160) C d_La_law_449 (by decide) ?_
    refine V_pick [2, 3, 4, 5, 6] rfl ?_
    exact nx _ _ _ _ ⟨_, _, _, _, _, _, _, hI2⟩ h90d
  · refine V_aload_n C d_La_law_437 rfl ?_
    refine V_iconst (v := 0) C d_La_law_438 (by decide) ?_
    refine V_lald C d_La_law_439 (by decide) rfl h90d (rfl : (0 : Int32) = nI 0) (by decide) rfl ?_
    refine V_iload C d_La_law_440 rfl ?_
    refine V_i2l C d_La_law_442 ?_
    refine V_lcmp C d_La_law_443 ?_
    refine V_if_eq (tgt := 449) C d_La_law_444 (by decide) (fun h444 => ?_) (fun h444 => absurd (cmp0 (hb h434) (hbb h434)) h444)
    refine V_goto (tgt := 1160) C d_La_law_449 (by decide) ?_
    refine V_pick [2, 3, 4, 5, 6] rfl ?_
    exact nx _ _ _ _ ⟨_, _, _, _, _, _, _, hI2⟩ h90d
set_option maxHeartbeats 1000000 in
set_option maxRecDepth 10000 in
theorem br_reference (C : Cx p l s m args meth c D B tW α0 R_La b_La_law 7 rt mn tab) (hX : va_X sb L xs s s.heap) (hbl : sb < B) (h98 : α0 98 0 0 = sb) (hL : L ≤ 3584) (h00 : ∀ r i j, ν0 r i j = none) {i : Nat} (hi : 7 * i + 7 ≤ L) {N c9 w9 n9 z9 kn g9 : Nat} (hI : IV ν ι ρ N c9 w9 n9 z9 kn g9) (hClo : Clo ν ρ) (h90 : ν 90 0 0 = some 1) (hc : cells + 60 ≤ 601024) (hs : slots + 2000 ≤ 7293034) (nx : ∀ (νd : Nu) (ι2 : Io) (ρ2 : Ro) (ℓ2 : Lo), INV νd ι2 ρ2 → νd 90 0 0 = some 1 → V p l e room_1 s m args below meth c D B α0 ν0 7 Q (cells + 60) (slots + 2000) νd ι2 ρ2 ℓ2 1160 [(4, sI (nI (7 * i))), (3, sR 90 0 0), (2, sR 10 0 0), (1, sR 9 0 0), (0, sR 98 0 0)] []) : V p l e room_1 s m args below meth c D B α0 ν0 7 Q cells slots ν ι ρ ℓ 452 [(4, sI (nI (7 * i))), (3, sR 90 0 0), (2, sR 10 0 0), (1, sR 9 0 0), (0, sR 98 0 0)] [] := by
  refine V_aload_n C d_La_law_452 rfl ?_
  refine V_aload_n C d_La_law_453 rfl ?_
  refine V_iload C d_La_law_454 rfl ?_
  refine V_iconst (v := 1) C d_La_law_456 (by decide) ?_
  refine V_iadd C d_La_law_457 ?_
  refine V_eScr (t := 7 * i + 1) C d_La_law_458 hX hbl h98 (nI_add (7 * i) 1) (by omega) hL ?_
  refine V_aload_n C d_La_law_459 rfl ?_
  refine V_iload C d_La_law_460 rfl ?_
  refine V_iconst (v := 2) C d_La_law_462 (by decide) ?_
  refine V_iadd C d_La_law_463 ?_
  refine V_eScr (t := 7 * i + 2) C d_La_law_464 hX hbl h98 (nI_add (7 * i) 2) (by omega) hL ?_
  refine V_aload_n C d_La_law_465 rfl ?_
  refine V_iload C d_La_law_466 rfl ?_
  refine V_iconst (v := 3) C d_La_law_468 (by decide) ?_
  refine V_iadd C d_La_law_469 ?_
  refine V_eScr (t := 7 * i + 3) C d_La_law_470 hX hbl h98 (nI_add (7 * i) 3) (by omega) hL ?_
  refine V_aload_n C d_La_law_471 rfl ?_
  refine V_iload C d_La_law_472 rfl ?_
  refine V_iconst (v := 4) C d_La_law_474 (by decide) ?_
  refine V_iadd C d_La_law_475 ?_
  refine V_eScr (t := 7 * i + 4) C d_La_law_476 hX hbl h98 (nI_add (7 * i) 4) (by omega) hL ?_
  refine V_aload_n C d_La_law_477 rfl ?_
  refine V_iload C d_La_law_478 rfl ?_
  refine V_iconst (v := 5) C d_La_law_480 (by decide) ?_
  refine V_iadd C d_La_law_481 ?_
  refine V_eScr (t := 7 * i + 5) C d_La_law_482 hX hbl h98 (nI_add (7 * i) 5) (by omega) hL ?_
  refine V_aload_n C d_La_law_483 rfl ?_
  refine V_iload C d_La_law_484 rfl ?_
  refine V_bipush (v := 6) C d_La_law_486 (by decide) ?_
  refine V_iadd C d_La_law_488 ?_
  refine V_eScr (t := 7 * i + 6) C d_La_law_489 hX hbl h98 (nI_add (7 * i) 6) (by omega) hL ?_
  refine V_aload_n C d_La_law_490 rfl ?_
  refine V_callSW (as := [_, _, _, _, _, _, _, _]) C d_La_law_491 (c_La_reference hI h90) m_La_reference k_La_89 ⟨by decide, by decide⟩ (Nat.le_of_ble_eq_true rfl) ⟨hc, hs⟩ rfl ?_
  rintro _ ν1 ι1 ρ1 ℓ1 ⟨h9, k, b, rfl, hM, hb⟩
  dsimp only [Option.toList, List.cons_append, List.nil_append]
  refine V_istore (lv' := [(5, _), (4, _), (3, _), (2, _), (1, _), (0, _)]) C d_La_law_494 (by decide) rfl ?_
  refine V_aload_n C d_La_law_496 rfl ?_
  refine V_aload_n C d_La_law_497 rfl ?_
  refine V_iload C d_La_law_498 rfl ?_
  refine V_iconst (v := 1) C d_La_law_500 (by decide) ?_
  refine V_iadd C d_La_law_501 ?_
  refine V_eScr (t := 7 * i + 1) C d_La_law_502 hX hbl h98 (nI_add (7 * i) 1) (by omega) hL ?_
  refine V_aload_n C d_La_law_503 rfl ?_
  refine V_iload C d_La_law_504 rfl ?_
  refine V_iconst (v := 2) C d_La_law_506 (by decide) ?_
  refine V_iadd C d_La_law_507 ?_
  refine V_eScr (t := 7 * i + 2) C d_La_law_508 hX hbl h98 (nI_add (7 * i) 2) (by omega) hL ?_
  refine V_aload_n C d_La_law_509 rfl ?_
  refine V_iload C d_La_law_510 rfl ?_
  refine V_iconst (v := 3) C d_La_law_512 (by decide) ?_
  refine V_iadd C d_La_law_513 ?_
  refine V_eScr (t := 7 * i + 3) C d_La_law_514 hX hbl h98 (nI_add (7 * i) 3) (by omega) hL ?_
  refine V_aload_n C d_La_law_515 rfl ?_
  refine V_iload C d_La_law_516 rfl ?_
  refine V_iconst (v := 4) C d_La_law_518 (by decide) ?_
  refine V_iadd C d_La_law_519 ?_
  refine V_eScr (t := 7 * i + 4) C d_La_law_520 hX hbl h98 (nI_add (7 * i) 4) (by omega) hL ?_
  refine V_aload_n C d_La_law_521 rfl ?_
  refine V_iload C d_La_law_522 rfl ?_
  refine V_iconst (v := 5) C d_La_law_524 (by decide) ?_
  refine V_iadd C d_La_law_525 ?_
  refine V_eScr (t := 7 * i + 5) C d_La_law_526 hX hbl h98 (nI_add (7 * i) 5) (by omega) hL ?_
  refine V_aload_n C d_La_law_527 rfl ?_
  refine V_iload C d_La_law_528 rfl ?_
  refine V_bipush (v := 6) C d_La_law_530 (by decide) ?_
  refine V_iadd C d_La_law_532 ?_
  refine V_eScr (t := 7 * i + 6) C d_La_law_533 hX hbl h98 (nI_add (7 * i) 6) (by omega) hL ?_
  obtain ⟨Po2, hC2, hP2⟩ := hM ℓ1
  refine V_al (n := 2) rfl (by decide) (fun a10 => ?_)
  refine V_callV (as := [_, _, _, _, _, _]) C d_La_law_534 hC2 m_Mo_reference cf_Mo k_La_92 a10 ⟨by decide, by decide⟩ (Nat.le_of_ble_eq_true rfl) ⟨hc, hs⟩ rfl ?_
  rintro v2 ν2 ι2 ρ2 ℓ2 hp2
  obtain ⟨⟨el, ⟨b2_, ev, hbb⟩, hk2, νd, hIN, hDr⟩, en⟩ := hP2 _ _ _ _ _ hp2
  subst ev
  subst el
  subst en
  refine V_pick [0, 1, 2, 3, 4, 5] rfl ?_
  refine V_dr hClo hDr h00 (wfl_c wfv_I (wfl_c wfv_I (wfl_c (wfv_R (hDr.2.2 90 0 0 (nn h90))) (wfl_c (wfv_R (hDr.2.2 10 0 0 hI.mo.al)) (wfl_c (wfv_R (hDr.2.2 9 0 0 (nn hI.os.n9))) (wfl_c (wfv_G (by decide)) wfl_n)))))) (wfl_c wfv_I wfl_n) ?_
  have h90d := hDr.n90 h9 h90
  obtain ⟨N2, c2, w2, n2, z2, kn2, g2, hI2⟩ := hIN
  dsimp only [Option.toList, List.cons_append, List.nil_append]
  refine V_istore (lv' := [(6, _), (5, _), (4, _), (3, _), (2, _), (1, _), (0, _)]) C d_La_law_537 (by decide) rfl ?_
  refine V_aload_n C d_La_law_539 rfl ?_
  refine V_callV (as := []) C d_La_law_540 (c_Mo_thrown hI2.mo) m_Mo_thrown cf_Mo k_La_75 hI2.mo.al ⟨by decide, by decide⟩ (Nat.le_of_ble_eq_true rfl) ⟨hc, hs⟩ rfl ?_
  rintro _ _ _ _ _ ⟨rfl, rfl, rfl, rfl, rfl⟩
  dsimp only [Option.toList, List.cons_append, List.nil_append]
  refine V_iload C d_La_law_543 rfl ?_
  refine V_icmp_eq (tgt := 550) C d_La_law_545 (by decide) (fun h545 => ?_) (fun h545 => absurd hk2 h545)
  refine V_iload C d_La_law_550 rfl ?_
  refine V_if_ne (tgt := 567) C d_La_law_552 (by decide) (fun h552 => ?_) (fun h552 => ?_)
  · refine V_goto (tgt := 1160) C d_La_law_567 (by decide) ?_
    refine V_pick [2, 3, 4, 5, 6] rfl ?_
    exact nx _ _ _ _ ⟨_, _, _, _, _, _, _, hI2⟩ h90d
  · refine V_aload_n C d_La_law_555 rfl ?_
    refine V_iconst (v := 0) C d_La_law_556 (by decide) ?_
    refine V_lald C d_La_law_557 (by decide) rfl h90d (rfl : (0 : Int32) = nI 0) (by decide) rfl ?_
    refine V_iload C d_La_law_558 rfl ?_
    refine V_i2l C d_La_law_560 ?_
    refine V_lcmp C d_La_law_561 ?_
    refine V_if_eq (tgt := 567) C d_La_law_562 (by decide) (fun h562 => ?_) (fun h562 => absurd (cmp0 (hb h552) (hbb h552)) h562)
    refine V_goto (tgt := 1160) C d_La_law_567 (by decide) ?_
    refine V_pick [2, 3, 4, 5, 6] rfl ?_
    exact nx _ _ _ _ ⟨_, _, _, _, _, _, _, hI2⟩ h90d
set_option maxHeartbeats 1000000 in
set_option maxRecDepth 10000 in
theorem br_choose (C : Cx p l s m args meth c D B tW α0 R_La b_La_law 7 rt mn tab) (hX : va_X sb L xs s s.heap) (hbl : sb < B) (h98 : α0 98 0 0 = sb) (hL : L ≤ 3584) (h00 : ∀ r i j, ν0 r i j = none) {i : Nat} (hi : 7 * i + 7 ≤ L) {N c9 w9 n9 z9 kn g9 : Nat} (hI : IV ν ι ρ N c9 w9 n9 z9 kn g9) (hClo : Clo ν ρ) (h90 : ν 90 0 0 = some 1) (hc : cells + 60 ≤ 601024) (hs : slots + 2000 ≤ 7293034) (nx : ∀ (νd : Nu) (ι2 : Io) (ρ2 : Ro) (ℓ2 : Lo), INV νd ι2 ρ2 → νd 90 0 0 = some 1 → V p l e room_1 s m args below meth c D B α0 ν0 7 Q (cells + 60) (slots + 2000) νd ι2 ρ2 ℓ2 1160 [(4, sI (nI (7 * i))), (3, sR 90 0 0), (2, sR 10 0 0), (1, sR 9 0 0), (0, sR 98 0 0)] []) : V p l e room_1 s m args below meth c D B α0 ν0 7 Q cells slots ν ι ρ ℓ 570 [(4, sI (nI (7 * i))), (3, sR 90 0 0), (2, sR 10 0 0), (1, sR 9 0 0), (0, sR 98 0 0)] [] := by
  refine V_aload_n C d_La_law_570 rfl ?_
  refine V_aload_n C d_La_law_571 rfl ?_
  refine V_iload C d_La_law_572 rfl ?_
  refine V_iconst (v := 1) C d_La_law_574 (by decide) ?_
  refine V_iadd C d_La_law_575 ?_
  refine V_eScr (t := 7 * i + 1) C d_La_law_576 hX hbl h98 (nI_add (7 * i) 1) (by omega) hL ?_
  refine V_aload_n C d_La_law_577 rfl ?_
  refine V_callSW (as := [_, _, _]) C d_La_law_578 (c_La_choose hI h90) m_La_choose k_La_93 ⟨by decide, by decide⟩ (Nat.le_of_ble_eq_true rfl) ⟨hc, hs⟩ rfl ?_
  rintro _ ν1 ι1 ρ1 ℓ1 ⟨h9, k, b, rfl, hM, hb⟩
  dsimp only [Option.toList, List.cons_append, List.nil_append]
  refine V_istore (lv' := [(5, _), (4, _), (3, _), (2, _), (1, _), (0, _)]) C d_La_law_581 (by decide) rfl ?_
  refine V_aload_n C d_La_law_583 rfl ?_
  refine V_aload_n C d_La_law_584 rfl ?_
  refine V_iload C d_La_law_585 rfl ?_
  refine V_iconst (v := 1) C d_La_law_587 (by decide) ?_
  refine V_iadd C d_La_law_588 ?_
  refine V_eScr (t := 7 * i + 1) C d_La_law_589 hX hbl h98 (nI_add (7 * i) 1) (by omega) hL ?_
  obtain ⟨Po2, hC2, hP2⟩ := hM ℓ1
  refine V_al (n := 2) rfl (by decide) (fun a10 => ?_)
  refine V_callV (as := [_]) C d_La_law_590 hC2 m_Mo_choose cf_Mo k_La_96 a10 ⟨by decide, by decide⟩ (Nat.le_of_ble_eq_true rfl) ⟨hc, hs⟩ rfl ?_
  rintro v2 ν2 ι2 ρ2 ℓ2 hp2
  obtain ⟨⟨el, ⟨b2_, ev, hbb⟩, hk2, νd, hIN, hDr⟩, en⟩ := hP2 _ _ _ _ _ hp2
  subst ev
  subst el
  subst en
  refine V_pick [0, 1, 2, 3, 4, 5] rfl ?_
  refine V_dr hClo hDr h00 (wfl_c wfv_I (wfl_c wfv_I (wfl_c (wfv_R (hDr.2.2 90 0 0 (nn h90))) (wfl_c (wfv_R (hDr.2.2 10 0 0 hI.mo.al)) (wfl_c (wfv_R (hDr.2.2 9 0 0 (nn hI.os.n9))) (wfl_c (wfv_G (by decide)) wfl_n)))))) (wfl_c wfv_I wfl_n) ?_
  have h90d := hDr.n90 h9 h90
  obtain ⟨N2, c2, w2, n2, z2, kn2, g2, hI2⟩ := hIN
  dsimp only [Option.toList, List.cons_append, List.nil_append]
  refine V_istore (lv' := [(6, _), (5, _), (4, _), (3, _), (2, _), (1, _), (0, _)]) C d_La_law_593 (by decide) rfl ?_
  refine V_aload_n C d_La_law_595 rfl ?_
  refine V_callV (as := []) C d_La_law_596 (c_Mo_thrown hI2.mo) m_Mo_thrown cf_Mo k_La_75 hI2.mo.al ⟨by decide, by decide⟩ (Nat.le_of_ble_eq_true rfl) ⟨hc, hs⟩ rfl ?_
  rintro _ _ _ _ _ ⟨rfl, rfl, rfl, rfl, rfl⟩
  dsimp only [Option.toList, List.cons_append, List.nil_append]
  refine V_iload C d_La_law_599 rfl ?_
  refine V_icmp_eq (tgt := 606) C d_La_law_601 (by decide) (fun h601 => ?_) (fun h601 => absurd hk2 h601)
  refine V_iload C d_La_law_606 rfl ?_
  refine V_if_ne (tgt := 623) C d_La_law_608 (by decide) (fun h608 => ?_) (fun h608 => ?_)
  · refine V_goto (tgt := 1160) C d_La_law_623 (by decide) ?_
    refine V_pick [2, 3, 4, 5, 6] rfl ?_
    exact nx _ _ _ _ ⟨_, _, _, _, _, _, _, hI2⟩ h90d
  · refine V_aload_n C d_La_law_611 rfl ?_
    refine V_iconst (v := 0) C d_La_law_612 (by decide) ?_
    refine V_lald C d_La_law_613 (by decide) rfl h90d (rfl : (0 : Int32) = nI 0) (by decide) rfl ?_
    refine V_iload C d_La_law_614 rfl ?_
    refine V_i2l C d_La_law_616 ?_
    refine V_lcmp C d_La_law_617 ?_
    refine V_if_eq (tgt := 623) C d_La_law_618 (by decide) (fun h618 => ?_) (fun h618 => absurd (cmp0 (hb h608) (hbb h608)) h618)
    refine V_goto (tgt := 1160) C d_La_law_623 (by decide) ?_
    refine V_pick [2, 3, 4, 5, 6] rfl ?_
    exact nx _ _ _ _ ⟨_, _, _, _, _, _, _, hI2⟩ h90d
set_option maxHeartbeats 1000000 in
set_option maxRecDepth 10000 in
theorem br_link (C : Cx p l s m args meth c D B tW α0 R_La b_La_law 7 rt mn tab) (hX : va_X sb L xs s s.heap) (hbl : sb < B) (h98 : α0 98 0 0 = sb) (hL : L ≤ 3584) (h00 : ∀ r i j, ν0 r i j = none) {i : Nat} (hi : 7 * i + 7 ≤ L) {N c9 w9 n9 z9 kn g9 : Nat} (hI : IV ν ι ρ N c9 w9 n9 z9 kn g9) (hClo : Clo ν ρ) (h90 : ν 90 0 0 = some 1) (hc : cells + 60 ≤ 601024) (hs : slots + 2000 ≤ 7293034) (nx : ∀ (νd : Nu) (ι2 : Io) (ρ2 : Ro) (ℓ2 : Lo), INV νd ι2 ρ2 → νd 90 0 0 = some 1 → V p l e room_1 s m args below meth c D B α0 ν0 7 Q (cells + 60) (slots + 2000) νd ι2 ρ2 ℓ2 1160 [(4, sI (nI (7 * i))), (3, sR 90 0 0), (2, sR 10 0 0), (1, sR 9 0 0), (0, sR 98 0 0)] []) : V p l e room_1 s m args below meth c D B α0 ν0 7 Q cells slots ν ι ρ ℓ 626 [(4, sI (nI (7 * i))), (3, sR 90 0 0), (2, sR 10 0 0), (1, sR 9 0 0), (0, sR 98 0 0)] [] := by
  refine V_aload_n C d_La_law_626 rfl ?_
  refine V_aload_n C d_La_law_627 rfl ?_
  refine V_iload C d_La_law_628 rfl ?_
  refine V_iconst (v := 1) C d_La_law_630 (by decide) ?_
  refine V_iadd C d_La_law_631 ?_
  refine V_eScr (t := 7 * i + 1) C d_La_law_632 hX hbl h98 (nI_add (7 * i) 1) (by omega) hL ?_
  refine V_aload_n C d_La_law_633 rfl ?_
  refine V_iload C d_La_law_634 rfl ?_
  refine V_iconst (v := 2) C d_La_law_636 (by decide) ?_
  refine V_iadd C d_La_law_637 ?_
  refine V_eScr (t := 7 * i + 2) C d_La_law_638 hX hbl h98 (nI_add (7 * i) 2) (by omega) hL ?_
  refine V_aload_n C d_La_law_639 rfl ?_
  refine V_callSW (as := [_, _, _, _]) C d_La_law_640 (c_La_link hI h90) m_La_link k_La_97 ⟨by decide, by decide⟩ (Nat.le_of_ble_eq_true rfl) ⟨hc, hs⟩ rfl ?_
  rintro _ ν1 ι1 ρ1 ℓ1 ⟨h9, k, b, rfl, hM, hb⟩
  dsimp only [Option.toList, List.cons_append, List.nil_append]
  refine V_istore (lv' := [(5, _), (4, _), (3, _), (2, _), (1, _), (0, _)]) C d_La_law_643 (by decide) rfl ?_
  refine V_aload_n C d_La_law_645 rfl ?_
  refine V_aload_n C d_La_law_646 rfl ?_
  refine V_iload C d_La_law_647 rfl ?_
  refine V_iconst (v := 1) C d_La_law_649 (by decide) ?_
  refine V_iadd C d_La_law_650 ?_
  refine V_eScr (t := 7 * i + 1) C d_La_law_651 hX hbl h98 (nI_add (7 * i) 1) (by omega) hL ?_
  refine V_aload_n C d_La_law_652 rfl ?_
  refine V_iload C d_La_law_653 rfl ?_
  refine V_iconst (v := 2) C d_La_law_655 (by decide) ?_
  refine V_iadd C d_La_law_656 ?_
  refine V_eScr (t := 7 * i + 2) C d_La_law_657 hX hbl h98 (nI_add (7 * i) 2) (by omega) hL ?_
  obtain ⟨Po2, hC2, hP2⟩ := hM ℓ1
  refine V_al (n := 2) rfl (by decide) (fun a10 => ?_)
  refine V_callV (as := [_, _]) C d_La_law_658 hC2 m_Mo_link cf_Mo k_La_100 a10 ⟨by decide, by decide⟩ (Nat.le_of_ble_eq_true rfl) ⟨hc, hs⟩ rfl ?_
  rintro v2 ν2 ι2 ρ2 ℓ2 hp2
  obtain ⟨⟨el, ⟨b2_, ev, hbb⟩, hk2, νd, hIN, hDr⟩, en⟩ := hP2 _ _ _ _ _ hp2
  subst ev
  subst el
  subst en
  refine V_pick [0, 1, 2, 3, 4, 5] rfl ?_
  refine V_dr hClo hDr h00 (wfl_c wfv_I (wfl_c wfv_I (wfl_c (wfv_R (hDr.2.2 90 0 0 (nn h90))) (wfl_c (wfv_R (hDr.2.2 10 0 0 hI.mo.al)) (wfl_c (wfv_R (hDr.2.2 9 0 0 (nn hI.os.n9))) (wfl_c (wfv_G (by decide)) wfl_n)))))) (wfl_c wfv_I wfl_n) ?_
  have h90d := hDr.n90 h9 h90
  obtain ⟨N2, c2, w2, n2, z2, kn2, g2, hI2⟩ := hIN
  dsimp only [Option.toList, List.cons_append, List.nil_append]
  refine V_istore (lv' := [(6, _), (5, _), (4, _), (3, _), (2, _), (1, _), (0, _)]) C d_La_law_661 (by decide) rfl ?_
  refine V_aload_n C d_La_law_663 rfl ?_
  refine V_callV (as := []) C d_La_law_664 (c_Mo_thrown hI2.mo) m_Mo_thrown cf_Mo k_La_75 hI2.mo.al ⟨by decide, by decide⟩ (Nat.le_of_ble_eq_true rfl) ⟨hc, hs⟩ rfl ?_
  rintro _ _ _ _ _ ⟨rfl, rfl, rfl, rfl, rfl⟩
  dsimp only [Option.toList, List.cons_append, List.nil_append]
  refine V_iload C d_La_law_667 rfl ?_
  refine V_icmp_eq (tgt := 674) C d_La_law_669 (by decide) (fun h669 => ?_) (fun h669 => absurd hk2 h669)
  refine V_iload C d_La_law_674 rfl ?_
  refine V_if_ne (tgt := 691) C d_La_law_676 (by decide) (fun h676 => ?_) (fun h676 => ?_)
  · refine V_goto (tgt := 1160) C d_La_law_691 (by decide) ?_
    refine V_pick [2, 3, 4, 5, 6] rfl ?_
    exact nx _ _ _ _ ⟨_, _, _, _, _, _, _, hI2⟩ h90d
  · refine V_aload_n C d_La_law_679 rfl ?_
    refine V_iconst (v := 0) C d_La_law_680 (by decide) ?_
    refine V_lald C d_La_law_681 (by decide) rfl h90d (rfl : (0 : Int32) = nI 0) (by decide) rfl ?_
    refine V_iload C d_La_law_682 rfl ?_
    refine V_i2l C d_La_law_684 ?_
    refine V_lcmp C d_La_law_685 ?_
    refine V_if_eq (tgt := 691) C d_La_law_686 (by decide) (fun h686 => ?_) (fun h686 => absurd (cmp0 (hb h676) (hbb h676)) h686)
    refine V_goto (tgt := 1160) C d_La_law_691 (by decide) ?_
    refine V_pick [2, 3, 4, 5, 6] rfl ?_
    exact nx _ _ _ _ ⟨_, _, _, _, _, _, _, hI2⟩ h90d
set_option maxHeartbeats 1000000 in
set_option maxRecDepth 10000 in
theorem br_fault (C : Cx p l s m args meth c D B tW α0 R_La b_La_law 7 rt mn tab) (hX : va_X sb L xs s s.heap) (hbl : sb < B) (h98 : α0 98 0 0 = sb) (hL : L ≤ 3584) (h00 : ∀ r i j, ν0 r i j = none) {i : Nat} (hi : 7 * i + 7 ≤ L) {N c9 w9 n9 z9 kn g9 : Nat} (hI : IV ν ι ρ N c9 w9 n9 z9 kn g9) (hClo : Clo ν ρ) (h90 : ν 90 0 0 = some 1) (hc : cells + 60 ≤ 601024) (hs : slots + 2000 ≤ 7293034) (nx : ∀ (νd : Nu) (ι2 : Io) (ρ2 : Ro) (ℓ2 : Lo), INV νd ι2 ρ2 → νd 90 0 0 = some 1 → V p l e room_1 s m args below meth c D B α0 ν0 7 Q (cells + 60) (slots + 2000) νd ι2 ρ2 ℓ2 1160 [(4, sI (nI (7 * i))), (3, sR 90 0 0), (2, sR 10 0 0), (1, sR 9 0 0), (0, sR 98 0 0)] []) : V p l e room_1 s m args below meth c D B α0 ν0 7 Q cells slots ν ι ρ ℓ 694 [(4, sI (nI (7 * i))), (3, sR 90 0 0), (2, sR 10 0 0), (1, sR 9 0 0), (0, sR 98 0 0)] [] := by
  refine V_aload_n C d_La_law_694 rfl ?_
  refine V_aload_n C d_La_law_695 rfl ?_
  refine V_iload C d_La_law_696 rfl ?_
  refine V_iconst (v := 1) C d_La_law_698 (by decide) ?_
  refine V_iadd C d_La_law_699 ?_
  refine V_eScr (t := 7 * i + 1) C d_La_law_700 hX hbl h98 (nI_add (7 * i) 1) (by omega) hL ?_
  refine V_aload_n C d_La_law_701 rfl ?_
  refine V_callSW (as := [_, _, _]) C d_La_law_702 (c_La_fault hI h90) m_La_fault k_La_101 ⟨by decide, by decide⟩ (Nat.le_of_ble_eq_true rfl) ⟨hc, hs⟩ rfl ?_
  rintro _ ν1 ι1 ρ1 ℓ1 ⟨h9, k, b, rfl, hM, hb⟩
  dsimp only [Option.toList, List.cons_append, List.nil_append]
  refine V_istore (lv' := [(5, _), (4, _), (3, _), (2, _), (1, _), (0, _)]) C d_La_law_705 (by decide) rfl ?_
  refine V_aload_n C d_La_law_707 rfl ?_
  refine V_aload_n C d_La_law_708 rfl ?_
  refine V_iload C d_La_law_709 rfl ?_
  refine V_iconst (v := 1) C d_La_law_711 (by decide) ?_
  refine V_iadd C d_La_law_712 ?_
  refine V_eScr (t := 7 * i + 1) C d_La_law_713 hX hbl h98 (nI_add (7 * i) 1) (by omega) hL ?_
  obtain ⟨Po2, hC2, hP2⟩ := hM ℓ1
  refine V_al (n := 2) rfl (by decide) (fun a10 => ?_)
  refine V_callV (as := [_]) C d_La_law_714 hC2 m_Mo_fault cf_Mo k_La_103 a10 ⟨by decide, by decide⟩ (Nat.le_of_ble_eq_true rfl) ⟨hc, hs⟩ rfl ?_
  rintro v2 ν2 ι2 ρ2 ℓ2 hp2
  obtain ⟨⟨el, ⟨b2_, ev, hbb⟩, hk2, νd, hIN, hDr⟩, en⟩ := hP2 _ _ _ _ _ hp2
  subst ev
  subst el
  subst en
  refine V_pick [0, 1, 2, 3, 4, 5] rfl ?_
  refine V_dr hClo hDr h00 (wfl_c wfv_I (wfl_c wfv_I (wfl_c (wfv_R (hDr.2.2 90 0 0 (nn h90))) (wfl_c (wfv_R (hDr.2.2 10 0 0 hI.mo.al)) (wfl_c (wfv_R (hDr.2.2 9 0 0 (nn hI.os.n9))) (wfl_c (wfv_G (by decide)) wfl_n)))))) (wfl_c wfv_I wfl_n) ?_
  have h90d := hDr.n90 h9 h90
  obtain ⟨N2, c2, w2, n2, z2, kn2, g2, hI2⟩ := hIN
  dsimp only [Option.toList, List.cons_append, List.nil_append]
  refine V_istore (lv' := [(6, _), (5, _), (4, _), (3, _), (2, _), (1, _), (0, _)]) C d_La_law_717 (by decide) rfl ?_
  refine V_aload_n C d_La_law_719 rfl ?_
  refine V_callV (as := []) C d_La_law_720 (c_Mo_thrown hI2.mo) m_Mo_thrown cf_Mo k_La_75 hI2.mo.al ⟨by decide, by decide⟩ (Nat.le_of_ble_eq_true rfl) ⟨hc, hs⟩ rfl ?_
  rintro _ _ _ _ _ ⟨rfl, rfl, rfl, rfl, rfl⟩
  dsimp only [Option.toList, List.cons_append, List.nil_append]
  refine V_iload C d_La_law_723 rfl ?_
  refine V_icmp_eq (tgt := 730) C d_La_law_725 (by decide) (fun h725 => ?_) (fun h725 => absurd hk2 h725)
  refine V_iload C d_La_law_730 rfl ?_
  refine V_if_ne (tgt := 747) C d_La_law_732 (by decide) (fun h732 => ?_) (fun h732 => ?_)
  · refine V_goto (tgt := 1160) C d_La_law_747 (by decide) ?_
    refine V_pick [2, 3, 4, 5, 6] rfl ?_
    exact nx _ _ _ _ ⟨_, _, _, _, _, _, _, hI2⟩ h90d
  · refine V_aload_n C d_La_law_735 rfl ?_
    refine V_iconst (v := 0) C d_La_law_736 (by decide) ?_
    refine V_lald C d_La_law_737 (by decide) rfl h90d (rfl : (0 : Int32) = nI 0) (by decide) rfl ?_
    refine V_iload C d_La_law_738 rfl ?_
    refine V_i2l C d_La_law_740 ?_
    refine V_lcmp C d_La_law_741 ?_
    refine V_if_eq (tgt := 747) C d_La_law_742 (by decide) (fun h742 => ?_) (fun h742 => absurd (cmp0 (hb h732) (hbb h732)) h742)
    refine V_goto (tgt := 1160) C d_La_law_747 (by decide) ?_
    refine V_pick [2, 3, 4, 5, 6] rfl ?_
    exact nx _ _ _ _ ⟨_, _, _, _, _, _, _, hI2⟩ h90d
set_option maxHeartbeats 1000000 in
set_option maxRecDepth 10000 in
theorem br_image (C : Cx p l s m args meth c D B tW α0 R_La b_La_law 7 rt mn tab) (hX : va_X sb L xs s s.heap) (hbl : sb < B) (h98 : α0 98 0 0 = sb) (hL : L ≤ 3584) (h00 : ∀ r i j, ν0 r i j = none) {i : Nat} (hi : 7 * i + 7 ≤ L) {N c9 w9 n9 z9 kn g9 : Nat} (hI : IV ν ι ρ N c9 w9 n9 z9 kn g9) (hClo : Clo ν ρ) (h90 : ν 90 0 0 = some 1) (hc : cells + 60 ≤ 601024) (hs : slots + 2000 ≤ 7293034) (nx : ∀ (νd : Nu) (ι2 : Io) (ρ2 : Ro) (ℓ2 : Lo), INV νd ι2 ρ2 → νd 90 0 0 = some 1 → V p l e room_1 s m args below meth c D B α0 ν0 7 Q (cells + 60) (slots + 2000) νd ι2 ρ2 ℓ2 1160 [(4, sI (nI (7 * i))), (3, sR 90 0 0), (2, sR 10 0 0), (1, sR 9 0 0), (0, sR 98 0 0)] []) : V p l e room_1 s m args below meth c D B α0 ν0 7 Q cells slots ν ι ρ ℓ 750 [(4, sI (nI (7 * i))), (3, sR 90 0 0), (2, sR 10 0 0), (1, sR 9 0 0), (0, sR 98 0 0)] [] := by
  refine V_aload_n C d_La_law_750 rfl ?_
  refine V_aload_n C d_La_law_751 rfl ?_
  refine V_iload C d_La_law_752 rfl ?_
  refine V_iconst (v := 1) C d_La_law_754 (by decide) ?_
  refine V_iadd C d_La_law_755 ?_
  refine V_eScr (t := 7 * i + 1) C d_La_law_756 hX hbl h98 (nI_add (7 * i) 1) (by omega) hL ?_
  refine V_aload_n C d_La_law_757 rfl ?_
  refine V_callSW (as := [_, _, _]) C d_La_law_758 (c_La_image hI h90) m_La_image k_La_104 ⟨by decide, by decide⟩ (Nat.le_of_ble_eq_true rfl) ⟨hc, hs⟩ rfl ?_
  rintro _ ν1 ι1 ρ1 ℓ1 ⟨h9, k, b, rfl, hM, hb⟩
  dsimp only [Option.toList, List.cons_append, List.nil_append]
  refine V_istore (lv' := [(5, _), (4, _), (3, _), (2, _), (1, _), (0, _)]) C d_La_law_761 (by decide) rfl ?_
  refine V_aload_n C d_La_law_763 rfl ?_
  refine V_aload_n C d_La_law_764 rfl ?_
  refine V_iload C d_La_law_765 rfl ?_
  refine V_iconst (v := 1) C d_La_law_767 (by decide) ?_
  refine V_iadd C d_La_law_768 ?_
  refine V_eScr (t := 7 * i + 1) C d_La_law_769 hX hbl h98 (nI_add (7 * i) 1) (by omega) hL ?_
  obtain ⟨Po2, hC2, hP2⟩ := hM ℓ1
  refine V_al (n := 2) rfl (by decide) (fun a10 => ?_)
  refine V_callV (as := [_]) C d_La_law_770 hC2 m_Mo_image cf_Mo k_La_106 a10 ⟨by decide, by decide⟩ (Nat.le_of_ble_eq_true rfl) ⟨hc, hs⟩ rfl ?_
  rintro v2 ν2 ι2 ρ2 ℓ2 hp2
  obtain ⟨⟨el, ⟨b2_, ev, hbb⟩, hk2, νd, hIN, hDr⟩, en⟩ := hP2 _ _ _ _ _ hp2
  subst ev
  subst el
  subst en
  refine V_pick [0, 1, 2, 3, 4, 5] rfl ?_
  refine V_dr hClo hDr h00 (wfl_c wfv_I (wfl_c wfv_I (wfl_c (wfv_R (hDr.2.2 90 0 0 (nn h90))) (wfl_c (wfv_R (hDr.2.2 10 0 0 hI.mo.al)) (wfl_c (wfv_R (hDr.2.2 9 0 0 (nn hI.os.n9))) (wfl_c (wfv_G (by decide)) wfl_n)))))) (wfl_c wfv_I wfl_n) ?_
  have h90d := hDr.n90 h9 h90
  obtain ⟨N2, c2, w2, n2, z2, kn2, g2, hI2⟩ := hIN
  dsimp only [Option.toList, List.cons_append, List.nil_append]
  refine V_istore (lv' := [(6, _), (5, _), (4, _), (3, _), (2, _), (1, _), (0, _)]) C d_La_law_773 (by decide) rfl ?_
  refine V_aload_n C d_La_law_775 rfl ?_
  refine V_callV (as := []) C d_La_law_776 (c_Mo_thrown hI2.mo) m_Mo_thrown cf_Mo k_La_75 hI2.mo.al ⟨by decide, by decide⟩ (Nat.le_of_ble_eq_true rfl) ⟨hc, hs⟩ rfl ?_
  rintro _ _ _ _ _ ⟨rfl, rfl, rfl, rfl, rfl⟩
  dsimp only [Option.toList, List.cons_append, List.nil_append]
  refine V_iload C d_La_law_779 rfl ?_
  refine V_icmp_eq (tgt := 786) C d_La_law_781 (by decide) (fun h781 => ?_) (fun h781 => absurd hk2 h781)
  refine V_iload C d_La_law_786 rfl ?_
  refine V_if_ne (tgt := 803) C d_La_law_788 (by decide) (fun h788 => ?_) (fun h788 => ?_)
  · refine V_goto (tgt := 1160) C d_La_law_803 (by decide) ?_
    refine V_pick [2, 3, 4, 5, 6] rfl ?_
    exact nx _ _ _ _ ⟨_, _, _, _, _, _, _, hI2⟩ h90d
  · refine V_aload_n C d_La_law_791 rfl ?_
    refine V_iconst (v := 0) C d_La_law_792 (by decide) ?_
    refine V_lald C d_La_law_793 (by decide) rfl h90d (rfl : (0 : Int32) = nI 0) (by decide) rfl ?_
    refine V_iload C d_La_law_794 rfl ?_
    refine V_i2l C d_La_law_796 ?_
    refine V_lcmp C d_La_law_797 ?_
    refine V_if_eq (tgt := 803) C d_La_law_798 (by decide) (fun h798 => ?_) (fun h798 => absurd (cmp0 (hb h788) (hbb h788)) h798)
    refine V_goto (tgt := 1160) C d_La_law_803 (by decide) ?_
    refine V_pick [2, 3, 4, 5, 6] rfl ?_
    exact nx _ _ _ _ ⟨_, _, _, _, _, _, _, hI2⟩ h90d
set_option maxHeartbeats 1000000 in
set_option maxRecDepth 10000 in
theorem br_placeOf (C : Cx p l s m args meth c D B tW α0 R_La b_La_law 7 rt mn tab) (hX : va_X sb L xs s s.heap) (hbl : sb < B) (h98 : α0 98 0 0 = sb) (hL : L ≤ 3584) (h00 : ∀ r i j, ν0 r i j = none) {i : Nat} (hi : 7 * i + 7 ≤ L) {N c9 w9 n9 z9 kn g9 : Nat} (hI : IV ν ι ρ N c9 w9 n9 z9 kn g9) (hClo : Clo ν ρ) (h90 : ν 90 0 0 = some 1) (hc : cells + 60 ≤ 601024) (hs : slots + 2000 ≤ 7293034) (nx : ∀ (νd : Nu) (ι2 : Io) (ρ2 : Ro) (ℓ2 : Lo), INV νd ι2 ρ2 → νd 90 0 0 = some 1 → V p l e room_1 s m args below meth c D B α0 ν0 7 Q (cells + 60) (slots + 2000) νd ι2 ρ2 ℓ2 1160 [(4, sI (nI (7 * i))), (3, sR 90 0 0), (2, sR 10 0 0), (1, sR 9 0 0), (0, sR 98 0 0)] []) : V p l e room_1 s m args below meth c D B α0 ν0 7 Q cells slots ν ι ρ ℓ 806 [(4, sI (nI (7 * i))), (3, sR 90 0 0), (2, sR 10 0 0), (1, sR 9 0 0), (0, sR 98 0 0)] [] := by
  refine V_aload_n C d_La_law_806 rfl ?_
  refine V_aload_n C d_La_law_807 rfl ?_
  refine V_iload C d_La_law_808 rfl ?_
  refine V_iconst (v := 1) C d_La_law_810 (by decide) ?_
  refine V_iadd C d_La_law_811 ?_
  refine V_eScr (t := 7 * i + 1) C d_La_law_812 hX hbl h98 (nI_add (7 * i) 1) (by omega) hL ?_
  refine V_aload_n C d_La_law_813 rfl ?_
  refine V_iload C d_La_law_814 rfl ?_
  refine V_iconst (v := 2) C d_La_law_816 (by decide) ?_
  refine V_iadd C d_La_law_817 ?_
  refine V_eScr (t := 7 * i + 2) C d_La_law_818 hX hbl h98 (nI_add (7 * i) 2) (by omega) hL ?_
  refine V_aload_n C d_La_law_819 rfl ?_
  refine V_callSW (as := [_, _, _, _]) C d_La_law_820 (c_La_placeOf hI h90) m_La_placeOf k_La_107 ⟨by decide, by decide⟩ (Nat.le_of_ble_eq_true rfl) ⟨hc, hs⟩ rfl ?_
  rintro _ ν1 ι1 ρ1 ℓ1 ⟨h9, k, b, rfl, hM, hb⟩
  dsimp only [Option.toList, List.cons_append, List.nil_append]
  refine V_istore (lv' := [(5, _), (4, _), (3, _), (2, _), (1, _), (0, _)]) C d_La_law_823 (by decide) rfl ?_
  refine V_aload_n C d_La_law_825 rfl ?_
  refine V_aload_n C d_La_law_826 rfl ?_
  refine V_iload C d_La_law_827 rfl ?_
  refine V_iconst (v := 1) C d_La_law_829 (by decide) ?_
  refine V_iadd C d_La_law_830 ?_
  refine V_eScr (t := 7 * i + 1) C d_La_law_831 hX hbl h98 (nI_add (7 * i) 1) (by omega) hL ?_
  refine V_aload_n C d_La_law_832 rfl ?_
  refine V_iload C d_La_law_833 rfl ?_
  refine V_iconst (v := 2) C d_La_law_835 (by decide) ?_
  refine V_iadd C d_La_law_836 ?_
  refine V_eScr (t := 7 * i + 2) C d_La_law_837 hX hbl h98 (nI_add (7 * i) 2) (by omega) hL ?_
  obtain ⟨Po2, hC2, hP2⟩ := hM ℓ1
  refine V_al (n := 2) rfl (by decide) (fun a10 => ?_)
  refine V_callV (as := [_, _]) C d_La_law_838 hC2 m_Mo_placeOf cf_Mo k_La_109 a10 ⟨by decide, by decide⟩ (Nat.le_of_ble_eq_true rfl) ⟨hc, hs⟩ rfl ?_
  rintro v2 ν2 ι2 ρ2 ℓ2 hp2
  obtain ⟨⟨el, ⟨b2_, ev, hbb⟩, hk2, νd, hIN, hDr⟩, en⟩ := hP2 _ _ _ _ _ hp2
  subst ev
  subst el
  subst en
  refine V_pick [0, 1, 2, 3, 4, 5] rfl ?_
  refine V_dr hClo hDr h00 (wfl_c wfv_I (wfl_c wfv_I (wfl_c (wfv_R (hDr.2.2 90 0 0 (nn h90))) (wfl_c (wfv_R (hDr.2.2 10 0 0 hI.mo.al)) (wfl_c (wfv_R (hDr.2.2 9 0 0 (nn hI.os.n9))) (wfl_c (wfv_G (by decide)) wfl_n)))))) (wfl_c wfv_I wfl_n) ?_
  have h90d := hDr.n90 h9 h90
  obtain ⟨N2, c2, w2, n2, z2, kn2, g2, hI2⟩ := hIN
  dsimp only [Option.toList, List.cons_append, List.nil_append]
  refine V_istore (lv' := [(6, _), (5, _), (4, _), (3, _), (2, _), (1, _), (0, _)]) C d_La_law_841 (by decide) rfl ?_
  refine V_aload_n C d_La_law_843 rfl ?_
  refine V_callV (as := []) C d_La_law_844 (c_Mo_thrown hI2.mo) m_Mo_thrown cf_Mo k_La_75 hI2.mo.al ⟨by decide, by decide⟩ (Nat.le_of_ble_eq_true rfl) ⟨hc, hs⟩ rfl ?_
  rintro _ _ _ _ _ ⟨rfl, rfl, rfl, rfl, rfl⟩
  dsimp only [Option.toList, List.cons_append, List.nil_append]
  refine V_iload C d_La_law_847 rfl ?_
  refine V_icmp_eq (tgt := 854) C d_La_law_849 (by decide) (fun h849 => ?_) (fun h849 => absurd hk2 h849)
  refine V_iload C d_La_law_854 rfl ?_
  refine V_if_ne (tgt := 871) C d_La_law_856 (by decide) (fun h856 => ?_) (fun h856 => ?_)
  · refine V_goto (tgt := 1160) C d_La_law_871 (by decide) ?_
    refine V_pick [2, 3, 4, 5, 6] rfl ?_
    exact nx _ _ _ _ ⟨_, _, _, _, _, _, _, hI2⟩ h90d
  · refine V_aload_n C d_La_law_859 rfl ?_
    refine V_iconst (v := 0) C d_La_law_860 (by decide) ?_
    refine V_lald C d_La_law_861 (by decide) rfl h90d (rfl : (0 : Int32) = nI 0) (by decide) rfl ?_
    refine V_iload C d_La_law_862 rfl ?_
    refine V_i2l C d_La_law_864 ?_
    refine V_lcmp C d_La_law_865 ?_
    refine V_if_eq (tgt := 871) C d_La_law_866 (by decide) (fun h866 => ?_) (fun h866 => absurd (cmp0 (hb h856) (hbb h856)) h866)
    refine V_goto (tgt := 1160) C d_La_law_871 (by decide) ?_
    refine V_pick [2, 3, 4, 5, 6] rfl ?_
    exact nx _ _ _ _ ⟨_, _, _, _, _, _, _, hI2⟩ h90d
set_option maxHeartbeats 1000000 in
set_option maxRecDepth 10000 in
theorem br_nameAt (C : Cx p l s m args meth c D B tW α0 R_La b_La_law 7 rt mn tab) (hX : va_X sb L xs s s.heap) (hbl : sb < B) (h98 : α0 98 0 0 = sb) (hL : L ≤ 3584) (h00 : ∀ r i j, ν0 r i j = none) {i : Nat} (hi : 7 * i + 7 ≤ L) {N c9 w9 n9 z9 kn g9 : Nat} (hI : IV ν ι ρ N c9 w9 n9 z9 kn g9) (hClo : Clo ν ρ) (h90 : ν 90 0 0 = some 1) (hc : cells + 60 ≤ 601024) (hs : slots + 2000 ≤ 7293034) (nx : ∀ (νd : Nu) (ι2 : Io) (ρ2 : Ro) (ℓ2 : Lo), INV νd ι2 ρ2 → νd 90 0 0 = some 1 → V p l e room_1 s m args below meth c D B α0 ν0 7 Q (cells + 60) (slots + 2000) νd ι2 ρ2 ℓ2 1160 [(4, sI (nI (7 * i))), (3, sR 90 0 0), (2, sR 10 0 0), (1, sR 9 0 0), (0, sR 98 0 0)] []) : V p l e room_1 s m args below meth c D B α0 ν0 7 Q cells slots ν ι ρ ℓ 874 [(4, sI (nI (7 * i))), (3, sR 90 0 0), (2, sR 10 0 0), (1, sR 9 0 0), (0, sR 98 0 0)] [] := by
  refine V_aload_n C d_La_law_874 rfl ?_
  refine V_aload_n C d_La_law_875 rfl ?_
  refine V_iload C d_La_law_876 rfl ?_
  refine V_iconst (v := 1) C d_La_law_878 (by decide) ?_
  refine V_iadd C d_La_law_879 ?_
  refine V_eScr (t := 7 * i + 1) C d_La_law_880 hX hbl h98 (nI_add (7 * i) 1) (by omega) hL ?_
  refine V_callV (as := [_]) C d_La_law_881 (c_OL_nameAt hI) m_OL_nameAt cf_OL k_La_110 (nn hI.os.n9) ⟨by decide, by decide⟩ (Nat.le_of_ble_eq_true rfl) ⟨hc, hs⟩ rfl ?_
  rintro _ ν1 ι1 ρ1 ℓ1 ⟨el1, h9, b, rfl, hM⟩
  dsimp only [Option.toList, List.cons_append, List.nil_append]
  refine V_aload_n C d_La_law_884 rfl ?_
  refine V_aload_n C d_La_law_885 rfl ?_
  refine V_iload C d_La_law_886 rfl ?_
  refine V_iconst (v := 1) C d_La_law_888 (by decide) ?_
  refine V_iadd C d_La_law_889 ?_
  refine V_eScr (t := 7 * i + 1) C d_La_law_890 hX hbl h98 (nI_add (7 * i) 1) (by omega) hL ?_
  obtain ⟨Po2, hC2, hP2⟩ := hM ℓ1
  refine V_al (n := 2) rfl (by decide) (fun a10 => ?_)
  refine V_callV (as := [_]) C d_La_law_891 hC2 m_Mo_nameAt cf_Mo k_La_113 a10 ⟨by decide, by decide⟩ (Nat.le_of_ble_eq_true rfl) ⟨hc, hs⟩ rfl ?_
  rintro v2 ν2 ι2 ρ2 ℓ2 hp2
  obtain ⟨⟨el, ⟨b2_, ev, hbb⟩, hk2, νd, hIN, hDr⟩, en⟩ := hP2 _ _ _ _ _ hp2
  subst ev
  subst el
  subst en
  skip
  refine V_dr hClo hDr h00 (wfl_c wfv_I (wfl_c (wfv_R (hDr.2.2 90 0 0 (nn h90))) (wfl_c (wfv_R (hDr.2.2 10 0 0 hI.mo.al)) (wfl_c (wfv_R (hDr.2.2 9 0 0 (nn hI.os.n9))) (wfl_c (wfv_G (by decide)) wfl_n))))) (wfl_c wfv_I (wfl_c wfv_I wfl_n)) ?_
  have h90d := hDr.n90 h9 h90
  obtain ⟨N2, c2, w2, n2, z2, kn2, g2, hI2⟩ := hIN
  dsimp only [Option.toList, List.cons_append, List.nil_append]
  refine V_icmp_eq (tgt := 1160) C d_La_law_894 (by decide) (fun h894 => ?_) (fun h894 => absurd (hbb rfl).symm h894)
  refine V_pick [0, 1, 2, 3, 4] rfl ?_
  exact nx _ _ _ _ ⟨_, _, _, _, _, _, _, hI2⟩ h90d
set_option maxHeartbeats 1000000 in
set_option maxRecDepth 10000 in
theorem br_write (C : Cx p l s m args meth c D B tW α0 R_La b_La_law 7 rt mn tab) (hX : va_X sb L xs s s.heap) (hbl : sb < B) (h98 : α0 98 0 0 = sb) (hL : L ≤ 3584) (h00 : ∀ r i j, ν0 r i j = none) {i : Nat} (hi : 7 * i + 7 ≤ L) {N c9 w9 n9 z9 kn g9 : Nat} (hI : IV ν ι ρ N c9 w9 n9 z9 kn g9) (hClo : Clo ν ρ) (h90 : ν 90 0 0 = some 1) (hc : cells + 60 ≤ 601024) (hs : slots + 2000 ≤ 7293034) (nx : ∀ (νd : Nu) (ι2 : Io) (ρ2 : Ro) (ℓ2 : Lo), INV νd ι2 ρ2 → νd 90 0 0 = some 1 → V p l e room_1 s m args below meth c D B α0 ν0 7 Q (cells + 60) (slots + 2000) νd ι2 ρ2 ℓ2 1160 [(4, sI (nI (7 * i))), (3, sR 90 0 0), (2, sR 10 0 0), (1, sR 9 0 0), (0, sR 98 0 0)] []) : V p l e room_1 s m args below meth c D B α0 ν0 7 Q cells slots ν ι ρ ℓ 899 [(4, sI (nI (7 * i))), (3, sR 90 0 0), (2, sR 10 0 0), (1, sR 9 0 0), (0, sR 98 0 0)] [] := by
  refine V_aload_n C d_La_law_899 rfl ?_
  refine V_aload_n C d_La_law_900 rfl ?_
  refine V_iload C d_La_law_901 rfl ?_
  refine V_iconst (v := 1) C d_La_law_903 (by decide) ?_
  refine V_iadd C d_La_law_904 ?_
  refine V_eScr (t := 7 * i + 1) C d_La_law_905 hX hbl h98 (nI_add (7 * i) 1) (by omega) hL ?_
  refine V_aload_n C d_La_law_906 rfl ?_
  refine V_callSW (as := [_, _, _]) C d_La_law_907 (c_La_write hI h90) m_La_write k_La_114 ⟨by decide, by decide⟩ (Nat.le_of_ble_eq_true rfl) ⟨hc, hs⟩ rfl ?_
  rintro _ ν1 ι1 ρ1 ℓ1 ⟨h9, k, b, rfl, hM, hb⟩
  dsimp only [Option.toList, List.cons_append, List.nil_append]
  refine V_istore (lv' := [(5, _), (4, _), (3, _), (2, _), (1, _), (0, _)]) C d_La_law_910 (by decide) rfl ?_
  refine V_aload_n C d_La_law_912 rfl ?_
  refine V_aload_n C d_La_law_913 rfl ?_
  refine V_iload C d_La_law_914 rfl ?_
  refine V_iconst (v := 1) C d_La_law_916 (by decide) ?_
  refine V_iadd C d_La_law_917 ?_
  refine V_eScr (t := 7 * i + 1) C d_La_law_918 hX hbl h98 (nI_add (7 * i) 1) (by omega) hL ?_
  obtain ⟨Po2, hC2, hP2⟩ := hM ℓ1
  refine V_al (n := 2) rfl (by decide) (fun a10 => ?_)
  refine V_callV (as := [_]) C d_La_law_919 hC2 m_Mo_write cf_Mo k_La_116 a10 ⟨by decide, by decide⟩ (Nat.le_of_ble_eq_true rfl) ⟨hc, hs⟩ rfl ?_
  rintro v2 ν2 ι2 ρ2 ℓ2 hp2
  obtain ⟨⟨el, ⟨b2_, ev, hbb⟩, hk2, νd, hIN, hDr⟩, en⟩ := hP2 _ _ _ _ _ hp2
  subst ev
  subst el
  subst en
  refine V_pick [0, 1, 2, 3, 4, 5] rfl ?_
  refine V_dr hClo hDr h00 (wfl_c wfv_I (wfl_c wfv_I (wfl_c (wfv_R (hDr.2.2 90 0 0 (nn h90))) (wfl_c (wfv_R (hDr.2.2 10 0 0 hI.mo.al)) (wfl_c (wfv_R (hDr.2.2 9 0 0 (nn hI.os.n9))) (wfl_c (wfv_G (by decide)) wfl_n)))))) (wfl_c wfv_I wfl_n) ?_
  have h90d := hDr.n90 h9 h90
  obtain ⟨N2, c2, w2, n2, z2, kn2, g2, hI2⟩ := hIN
  dsimp only [Option.toList, List.cons_append, List.nil_append]
  refine V_istore (lv' := [(6, _), (5, _), (4, _), (3, _), (2, _), (1, _), (0, _)]) C d_La_law_922 (by decide) rfl ?_
  refine V_aload_n C d_La_law_924 rfl ?_
  refine V_callV (as := []) C d_La_law_925 (c_Mo_thrown hI2.mo) m_Mo_thrown cf_Mo k_La_75 hI2.mo.al ⟨by decide, by decide⟩ (Nat.le_of_ble_eq_true rfl) ⟨hc, hs⟩ rfl ?_
  rintro _ _ _ _ _ ⟨rfl, rfl, rfl, rfl, rfl⟩
  dsimp only [Option.toList, List.cons_append, List.nil_append]
  refine V_iload C d_La_law_928 rfl ?_
  refine V_icmp_eq (tgt := 935) C d_La_law_930 (by decide) (fun h930 => ?_) (fun h930 => absurd hk2 h930)
  refine V_iload C d_La_law_935 rfl ?_
  refine V_if_ne (tgt := 952) C d_La_law_937 (by decide) (fun h937 => ?_) (fun h937 => ?_)
  · refine V_goto (tgt := 1160) C d_La_law_952 (by decide) ?_
    refine V_pick [2, 3, 4, 5, 6] rfl ?_
    exact nx _ _ _ _ ⟨_, _, _, _, _, _, _, hI2⟩ h90d
  · refine V_aload_n C d_La_law_940 rfl ?_
    refine V_iconst (v := 0) C d_La_law_941 (by decide) ?_
    refine V_lald C d_La_law_942 (by decide) rfl h90d (rfl : (0 : Int32) = nI 0) (by decide) rfl ?_
    refine V_iload C d_La_law_943 rfl ?_
    refine V_i2l C d_La_law_945 ?_
    refine V_lcmp C d_La_law_946 ?_
    refine V_if_eq (tgt := 952) C d_La_law_947 (by decide) (fun h947 => ?_) (fun h947 => absurd (cmp0 (hb h937) (hbb h937)) h947)
    refine V_goto (tgt := 1160) C d_La_law_952 (by decide) ?_
    refine V_pick [2, 3, 4, 5, 6] rfl ?_
    exact nx _ _ _ _ ⟨_, _, _, _, _, _, _, hI2⟩ h90d
set_option maxHeartbeats 1000000 in
set_option maxRecDepth 10000 in
theorem br_written (C : Cx p l s m args meth c D B tW α0 R_La b_La_law 7 rt mn tab) (hX : va_X sb L xs s s.heap) (hbl : sb < B) (h98 : α0 98 0 0 = sb) (hL : L ≤ 3584) (h00 : ∀ r i j, ν0 r i j = none) {i : Nat} (hi : 7 * i + 7 ≤ L) {N c9 w9 n9 z9 kn g9 : Nat} (hI : IV ν ι ρ N c9 w9 n9 z9 kn g9) (hClo : Clo ν ρ) (h90 : ν 90 0 0 = some 1) (hc : cells + 60 ≤ 601024) (hs : slots + 2000 ≤ 7293034) (nx : ∀ (νd : Nu) (ι2 : Io) (ρ2 : Ro) (ℓ2 : Lo), INV νd ι2 ρ2 → νd 90 0 0 = some 1 → V p l e room_1 s m args below meth c D B α0 ν0 7 Q (cells + 60) (slots + 2000) νd ι2 ρ2 ℓ2 1160 [(4, sI (nI (7 * i))), (3, sR 90 0 0), (2, sR 10 0 0), (1, sR 9 0 0), (0, sR 98 0 0)] []) : V p l e room_1 s m args below meth c D B α0 ν0 7 Q cells slots ν ι ρ ℓ 955 [(4, sI (nI (7 * i))), (3, sR 90 0 0), (2, sR 10 0 0), (1, sR 9 0 0), (0, sR 98 0 0)] [] := by
  refine V_aload_n C d_La_law_955 rfl ?_
  refine V_aload_n C d_La_law_956 rfl ?_
  refine V_iload C d_La_law_957 rfl ?_
  refine V_iconst (v := 1) C d_La_law_959 (by decide) ?_
  refine V_iadd C d_La_law_960 ?_
  refine V_eScr (t := 7 * i + 1) C d_La_law_961 hX hbl h98 (nI_add (7 * i) 1) (by omega) hL ?_
  refine V_aload_n C d_La_law_962 rfl ?_
  refine V_callSW (as := [_, _, _]) C d_La_law_963 (c_La_written hI h90) m_La_written k_La_117 ⟨by decide, by decide⟩ (Nat.le_of_ble_eq_true rfl) ⟨hc, hs⟩ rfl ?_
  rintro _ ν1 ι1 ρ1 ℓ1 ⟨h9, k, b, rfl, hM, hb⟩
  dsimp only [Option.toList, List.cons_append, List.nil_append]
  refine V_istore (lv' := [(5, _), (4, _), (3, _), (2, _), (1, _), (0, _)]) C d_La_law_966 (by decide) rfl ?_
  refine V_aload_n C d_La_law_968 rfl ?_
  refine V_aload_n C d_La_law_969 rfl ?_
  refine V_iload C d_La_law_970 rfl ?_
  refine V_iconst (v := 1) C d_La_law_972 (by decide) ?_
  refine V_iadd C d_La_law_973 ?_
  refine V_eScr (t := 7 * i + 1) C d_La_law_974 hX hbl h98 (nI_add (7 * i) 1) (by omega) hL ?_
  obtain ⟨Po2, hC2, hP2⟩ := hM ℓ1
  refine V_al (n := 2) rfl (by decide) (fun a10 => ?_)
  refine V_callV (as := [_]) C d_La_law_975 hC2 m_Mo_written cf_Mo k_La_119 a10 ⟨by decide, by decide⟩ (Nat.le_of_ble_eq_true rfl) ⟨hc, hs⟩ rfl ?_
  rintro v2 ν2 ι2 ρ2 ℓ2 hp2
  obtain ⟨⟨el, ⟨b2_, ev, hbb⟩, hk2, νd, hIN, hDr⟩, en⟩ := hP2 _ _ _ _ _ hp2
  subst ev
  subst el
  subst en
  refine V_pick [0, 1, 2, 3, 4, 5] rfl ?_
  refine V_dr hClo hDr h00 (wfl_c wfv_I (wfl_c wfv_I (wfl_c (wfv_R (hDr.2.2 90 0 0 (nn h90))) (wfl_c (wfv_R (hDr.2.2 10 0 0 hI.mo.al)) (wfl_c (wfv_R (hDr.2.2 9 0 0 (nn hI.os.n9))) (wfl_c (wfv_G (by decide)) wfl_n)))))) (wfl_c wfv_I wfl_n) ?_
  have h90d := hDr.n90 h9 h90
  obtain ⟨N2, c2, w2, n2, z2, kn2, g2, hI2⟩ := hIN
  dsimp only [Option.toList, List.cons_append, List.nil_append]
  refine V_istore (lv' := [(6, _), (5, _), (4, _), (3, _), (2, _), (1, _), (0, _)]) C d_La_law_978 (by decide) rfl ?_
  refine V_aload_n C d_La_law_980 rfl ?_
  refine V_callV (as := []) C d_La_law_981 (c_Mo_thrown hI2.mo) m_Mo_thrown cf_Mo k_La_75 hI2.mo.al ⟨by decide, by decide⟩ (Nat.le_of_ble_eq_true rfl) ⟨hc, hs⟩ rfl ?_
  rintro _ _ _ _ _ ⟨rfl, rfl, rfl, rfl, rfl⟩
  dsimp only [Option.toList, List.cons_append, List.nil_append]
  refine V_iload C d_La_law_984 rfl ?_
  refine V_icmp_eq (tgt := 991) C d_La_law_986 (by decide) (fun h986 => ?_) (fun h986 => absurd hk2 h986)
  refine V_iload C d_La_law_991 rfl ?_
  refine V_if_ne (tgt := 1008) C d_La_law_993 (by decide) (fun h993 => ?_) (fun h993 => ?_)
  · refine V_goto (tgt := 1160) C d_La_law_1008 (by decide) ?_
    refine V_pick [2, 3, 4, 5, 6] rfl ?_
    exact nx _ _ _ _ ⟨_, _, _, _, _, _, _, hI2⟩ h90d
  · refine V_aload_n C d_La_law_996 rfl ?_
    refine V_iconst (v := 0) C d_La_law_997 (by decide) ?_
    refine V_lald C d_La_law_998 (by decide) rfl h90d (rfl : (0 : Int32) = nI 0) (by decide) rfl ?_
    refine V_iload C d_La_law_999 rfl ?_
    refine V_i2l C d_La_law_1001 ?_
    refine V_lcmp C d_La_law_1002 ?_
    refine V_if_eq (tgt := 1008) C d_La_law_1003 (by decide) (fun h1003 => ?_) (fun h1003 => absurd (cmp0 (hb h993) (hbb h993)) h1003)
    refine V_goto (tgt := 1160) C d_La_law_1008 (by decide) ?_
    refine V_pick [2, 3, 4, 5, 6] rfl ?_
    exact nx _ _ _ _ ⟨_, _, _, _, _, _, _, hI2⟩ h90d
set_option maxHeartbeats 1000000 in
set_option maxRecDepth 10000 in
theorem br_alter (C : Cx p l s m args meth c D B tW α0 R_La b_La_law 7 rt mn tab) (hX : va_X sb L xs s s.heap) (hbl : sb < B) (h98 : α0 98 0 0 = sb) (hL : L ≤ 3584) (h00 : ∀ r i j, ν0 r i j = none) {i : Nat} (hi : 7 * i + 7 ≤ L) {N c9 w9 n9 z9 kn g9 : Nat} (hI : IV ν ι ρ N c9 w9 n9 z9 kn g9) (hClo : Clo ν ρ) (h90 : ν 90 0 0 = some 1) (hc : cells + 60 ≤ 601024) (hs : slots + 2000 ≤ 7293034) (nx : ∀ (νd : Nu) (ι2 : Io) (ρ2 : Ro) (ℓ2 : Lo), INV νd ι2 ρ2 → νd 90 0 0 = some 1 → V p l e room_1 s m args below meth c D B α0 ν0 7 Q (cells + 60) (slots + 2000) νd ι2 ρ2 ℓ2 1160 [(4, sI (nI (7 * i))), (3, sR 90 0 0), (2, sR 10 0 0), (1, sR 9 0 0), (0, sR 98 0 0)] []) : V p l e room_1 s m args below meth c D B α0 ν0 7 Q cells slots ν ι ρ ℓ 1011 [(4, sI (nI (7 * i))), (3, sR 90 0 0), (2, sR 10 0 0), (1, sR 9 0 0), (0, sR 98 0 0)] [] := by
  refine V_aload_n C d_La_law_1011 rfl ?_
  refine V_aload_n C d_La_law_1012 rfl ?_
  refine V_iload C d_La_law_1013 rfl ?_
  refine V_iconst (v := 1) C d_La_law_1015 (by decide) ?_
  refine V_iadd C d_La_law_1016 ?_
  refine V_eScr (t := 7 * i + 1) C d_La_law_1017 hX hbl h98 (nI_add (7 * i) 1) (by omega) hL ?_
  refine V_aload_n C d_La_law_1018 rfl ?_
  refine V_iload C d_La_law_1019 rfl ?_
  refine V_iconst (v := 2) C d_La_law_1021 (by decide) ?_
  refine V_iadd C d_La_law_1022 ?_
  refine V_eScr (t := 7 * i + 2) C d_La_law_1023 hX hbl h98 (nI_add (7 * i) 2) (by omega) hL ?_
  refine V_aload_n C d_La_law_1024 rfl ?_
  refine V_callSW (as := [_, _, _, _]) C d_La_law_1025 (c_La_alter hI h90) m_La_alter k_La_120 ⟨by decide, by decide⟩ (Nat.le_of_ble_eq_true rfl) ⟨hc, hs⟩ rfl ?_
  rintro _ ν1 ι1 ρ1 ℓ1 ⟨h9, k, b, rfl, hM, hb⟩
  dsimp only [Option.toList, List.cons_append, List.nil_append]
  refine V_istore (lv' := [(5, _), (4, _), (3, _), (2, _), (1, _), (0, _)]) C d_La_law_1028 (by decide) rfl ?_
  refine V_aload_n C d_La_law_1030 rfl ?_
  refine V_aload_n C d_La_law_1031 rfl ?_
  refine V_iload C d_La_law_1032 rfl ?_
  refine V_iconst (v := 1) C d_La_law_1034 (by decide) ?_
  refine V_iadd C d_La_law_1035 ?_
  refine V_eScr (t := 7 * i + 1) C d_La_law_1036 hX hbl h98 (nI_add (7 * i) 1) (by omega) hL ?_
  refine V_aload_n C d_La_law_1037 rfl ?_
  refine V_iload C d_La_law_1038 rfl ?_
  refine V_iconst (v := 2) C d_La_law_1040 (by decide) ?_
  refine V_iadd C d_La_law_1041 ?_
  refine V_eScr (t := 7 * i + 2) C d_La_law_1042 hX hbl h98 (nI_add (7 * i) 2) (by omega) hL ?_
  obtain ⟨Po2, hC2, hP2⟩ := hM ℓ1
  refine V_al (n := 2) rfl (by decide) (fun a10 => ?_)
  refine V_callV (as := [_, _]) C d_La_law_1043 hC2 m_Mo_alter cf_Mo k_La_122 a10 ⟨by decide, by decide⟩ (Nat.le_of_ble_eq_true rfl) ⟨hc, hs⟩ rfl ?_
  rintro v2 ν2 ι2 ρ2 ℓ2 hp2
  obtain ⟨⟨el, ⟨b2_, ev, hbb⟩, hk2, νd, hIN, hDr⟩, en⟩ := hP2 _ _ _ _ _ hp2
  subst ev
  subst el
  subst en
  refine V_pick [0, 1, 2, 3, 4, 5] rfl ?_
  refine V_dr hClo hDr h00 (wfl_c wfv_I (wfl_c wfv_I (wfl_c (wfv_R (hDr.2.2 90 0 0 (nn h90))) (wfl_c (wfv_R (hDr.2.2 10 0 0 hI.mo.al)) (wfl_c (wfv_R (hDr.2.2 9 0 0 (nn hI.os.n9))) (wfl_c (wfv_G (by decide)) wfl_n)))))) (wfl_c wfv_I wfl_n) ?_
  have h90d := hDr.n90 h9 h90
  obtain ⟨N2, c2, w2, n2, z2, kn2, g2, hI2⟩ := hIN
  dsimp only [Option.toList, List.cons_append, List.nil_append]
  refine V_istore (lv' := [(6, _), (5, _), (4, _), (3, _), (2, _), (1, _), (0, _)]) C d_La_law_1046 (by decide) rfl ?_
  refine V_aload_n C d_La_law_1048 rfl ?_
  refine V_callV (as := []) C d_La_law_1049 (c_Mo_thrown hI2.mo) m_Mo_thrown cf_Mo k_La_75 hI2.mo.al ⟨by decide, by decide⟩ (Nat.le_of_ble_eq_true rfl) ⟨hc, hs⟩ rfl ?_
  rintro _ _ _ _ _ ⟨rfl, rfl, rfl, rfl, rfl⟩
  dsimp only [Option.toList, List.cons_append, List.nil_append]
  refine V_iload C d_La_law_1052 rfl ?_
  refine V_icmp_eq (tgt := 1059) C d_La_law_1054 (by decide) (fun h1054 => ?_) (fun h1054 => absurd hk2 h1054)
  refine V_iload C d_La_law_1059 rfl ?_
  refine V_if_ne (tgt := 1076) C d_La_law_1061 (by decide) (fun h1061 => ?_) (fun h1061 => ?_)
  · refine V_goto (tgt := 1160) C d_La_law_1076 (by decide) ?_
    refine V_pick [2, 3, 4, 5, 6] rfl ?_
    exact nx _ _ _ _ ⟨_, _, _, _, _, _, _, hI2⟩ h90d
  · refine V_aload_n C d_La_law_1064 rfl ?_
    refine V_iconst (v := 0) C d_La_law_1065 (by decide) ?_
    refine V_lald C d_La_law_1066 (by decide) rfl h90d (rfl : (0 : Int32) = nI 0) (by decide) rfl ?_
    refine V_iload C d_La_law_1067 rfl ?_
    refine V_i2l C d_La_law_1069 ?_
    refine V_lcmp C d_La_law_1070 ?_
    refine V_if_eq (tgt := 1076) C d_La_law_1071 (by decide) (fun h1071 => ?_) (fun h1071 => absurd (cmp0 (hb h1061) (hbb h1061)) h1071)
    refine V_goto (tgt := 1160) C d_La_law_1076 (by decide) ?_
    refine V_pick [2, 3, 4, 5, 6] rfl ?_
    exact nx _ _ _ _ ⟨_, _, _, _, _, _, _, hI2⟩ h90d
set_option maxHeartbeats 1000000 in
set_option maxRecDepth 10000 in
theorem br_read (C : Cx p l s m args meth c D B tW α0 R_La b_La_law 7 rt mn tab) (hX : va_X sb L xs s s.heap) (hbl : sb < B) (h98 : α0 98 0 0 = sb) (hL : L ≤ 3584) (h00 : ∀ r i j, ν0 r i j = none) {i : Nat} (hi : 7 * i + 7 ≤ L) {N c9 w9 n9 z9 kn g9 : Nat} (hI : IV ν ι ρ N c9 w9 n9 z9 kn g9) (hClo : Clo ν ρ) (h90 : ν 90 0 0 = some 1) (hc : cells + 60 ≤ 601024) (hs : slots + 2000 ≤ 7293034) (nx : ∀ (νd : Nu) (ι2 : Io) (ρ2 : Ro) (ℓ2 : Lo), INV νd ι2 ρ2 → νd 90 0 0 = some 1 → V p l e room_1 s m args below meth c D B α0 ν0 7 Q (cells + 60) (slots + 2000) νd ι2 ρ2 ℓ2 1160 [(4, sI (nI (7 * i))), (3, sR 90 0 0), (2, sR 10 0 0), (1, sR 9 0 0), (0, sR 98 0 0)] []) : V p l e room_1 s m args below meth c D B α0 ν0 7 Q cells slots ν ι ρ ℓ 1079 [(4, sI (nI (7 * i))), (3, sR 90 0 0), (2, sR 10 0 0), (1, sR 9 0 0), (0, sR 98 0 0)] [] := by
  refine V_aload_n C d_La_law_1079 rfl ?_
  refine V_aload_n C d_La_law_1080 rfl ?_
  refine V_iload C d_La_law_1081 rfl ?_
  refine V_iconst (v := 1) C d_La_law_1083 (by decide) ?_
  refine V_iadd C d_La_law_1084 ?_
  refine V_eScr (t := 7 * i + 1) C d_La_law_1085 hX hbl h98 (nI_add (7 * i) 1) (by omega) hL ?_
  refine V_aload_n C d_La_law_1086 rfl ?_
  refine V_callSW (as := [_, _, _]) C d_La_law_1087 (c_La_read hI h90) m_La_read k_La_123 ⟨by decide, by decide⟩ (Nat.le_of_ble_eq_true rfl) ⟨hc, hs⟩ rfl ?_
  rintro _ ν1 ι1 ρ1 ℓ1 ⟨h9, k, b, rfl, hM, hb⟩
  dsimp only [Option.toList, List.cons_append, List.nil_append]
  refine V_istore (lv' := [(5, _), (4, _), (3, _), (2, _), (1, _), (0, _)]) C d_La_law_1090 (by decide) rfl ?_
  refine V_aload_n C d_La_law_1092 rfl ?_
  refine V_aload_n C d_La_law_1093 rfl ?_
  refine V_iload C d_La_law_1094 rfl ?_
  refine V_iconst (v := 1) C d_La_law_1096 (by decide) ?_
  refine V_iadd C d_La_law_1097 ?_
  refine V_eScr (t := 7 * i + 1) C d_La_law_1098 hX hbl h98 (nI_add (7 * i) 1) (by omega) hL ?_
  obtain ⟨Po2, hC2, hP2⟩ := hM ℓ1
  refine V_al (n := 2) rfl (by decide) (fun a10 => ?_)
  refine V_callV (as := [_]) C d_La_law_1099 hC2 m_Mo_read cf_Mo k_La_125 a10 ⟨by decide, by decide⟩ (Nat.le_of_ble_eq_true rfl) ⟨hc, hs⟩ rfl ?_
  rintro v2 ν2 ι2 ρ2 ℓ2 hp2
  obtain ⟨⟨el, ⟨b2_, ev, hbb⟩, hk2, νd, hIN, hDr⟩, en⟩ := hP2 _ _ _ _ _ hp2
  subst ev
  subst el
  subst en
  refine V_pick [0, 1, 2, 3, 4, 5] rfl ?_
  refine V_dr hClo hDr h00 (wfl_c wfv_I (wfl_c wfv_I (wfl_c (wfv_R (hDr.2.2 90 0 0 (nn h90))) (wfl_c (wfv_R (hDr.2.2 10 0 0 hI.mo.al)) (wfl_c (wfv_R (hDr.2.2 9 0 0 (nn hI.os.n9))) (wfl_c (wfv_G (by decide)) wfl_n)))))) (wfl_c wfv_I wfl_n) ?_
  have h90d := hDr.n90 h9 h90
  obtain ⟨N2, c2, w2, n2, z2, kn2, g2, hI2⟩ := hIN
  dsimp only [Option.toList, List.cons_append, List.nil_append]
  refine V_istore (lv' := [(6, _), (5, _), (4, _), (3, _), (2, _), (1, _), (0, _)]) C d_La_law_1102 (by decide) rfl ?_
  refine V_aload_n C d_La_law_1104 rfl ?_
  refine V_callV (as := []) C d_La_law_1105 (c_Mo_thrown hI2.mo) m_Mo_thrown cf_Mo k_La_75 hI2.mo.al ⟨by decide, by decide⟩ (Nat.le_of_ble_eq_true rfl) ⟨hc, hs⟩ rfl ?_
  rintro _ _ _ _ _ ⟨rfl, rfl, rfl, rfl, rfl⟩
  dsimp only [Option.toList, List.cons_append, List.nil_append]
  refine V_iload C d_La_law_1108 rfl ?_
  refine V_icmp_eq (tgt := 1115) C d_La_law_1110 (by decide) (fun h1110 => ?_) (fun h1110 => absurd hk2 h1110)
  refine V_iload C d_La_law_1115 rfl ?_
  refine V_if_ne (tgt := 1132) C d_La_law_1117 (by decide) (fun h1117 => ?_) (fun h1117 => ?_)
  · refine V_goto (tgt := 1160) C d_La_law_1132 (by decide) ?_
    refine V_pick [2, 3, 4, 5, 6] rfl ?_
    exact nx _ _ _ _ ⟨_, _, _, _, _, _, _, hI2⟩ h90d
  · refine V_aload_n C d_La_law_1120 rfl ?_
    refine V_iconst (v := 0) C d_La_law_1121 (by decide) ?_
    refine V_lald C d_La_law_1122 (by decide) rfl h90d (rfl : (0 : Int32) = nI 0) (by decide) rfl ?_
    refine V_iload C d_La_law_1123 rfl ?_
    refine V_i2l C d_La_law_1125 ?_
    refine V_lcmp C d_La_law_1126 ?_
    refine V_if_eq (tgt := 1132) C d_La_law_1127 (by decide) (fun h1127 => ?_) (fun h1127 => absurd (cmp0 (hb h1117) (hbb h1117)) h1127)
    refine V_goto (tgt := 1160) C d_La_law_1132 (by decide) ?_
    refine V_pick [2, 3, 4, 5, 6] rfl ?_
    exact nx _ _ _ _ ⟨_, _, _, _, _, _, _, hI2⟩ h90d
set_option maxHeartbeats 1000000 in
set_option maxRecDepth 10000 in
theorem br_count (C : Cx p l s m args meth c D B tW α0 R_La b_La_law 7 rt mn tab) (hX : va_X sb L xs s s.heap) (hbl : sb < B) (h98 : α0 98 0 0 = sb) (hL : L ≤ 3584) (h00 : ∀ r i j, ν0 r i j = none) {i : Nat} (hi : 7 * i + 7 ≤ L) {N c9 w9 n9 z9 kn g9 : Nat} (hI : IV ν ι ρ N c9 w9 n9 z9 kn g9) (hClo : Clo ν ρ) (h90 : ν 90 0 0 = some 1) (hc : cells + 60 ≤ 601024) (hs : slots + 2000 ≤ 7293034) (nx : ∀ (νd : Nu) (ι2 : Io) (ρ2 : Ro) (ℓ2 : Lo), INV νd ι2 ρ2 → νd 90 0 0 = some 1 → V p l e room_1 s m args below meth c D B α0 ν0 7 Q (cells + 60) (slots + 2000) νd ι2 ρ2 ℓ2 1160 [(4, sI (nI (7 * i))), (3, sR 90 0 0), (2, sR 10 0 0), (1, sR 9 0 0), (0, sR 98 0 0)] []) : V p l e room_1 s m args below meth c D B α0 ν0 7 Q cells slots ν ι ρ ℓ 1135 [(4, sI (nI (7 * i))), (3, sR 90 0 0), (2, sR 10 0 0), (1, sR 9 0 0), (0, sR 98 0 0)] [] := by
  refine V_aload_n C d_La_law_1135 rfl ?_
  refine V_aload_n C d_La_law_1136 rfl ?_
  refine V_iload C d_La_law_1137 rfl ?_
  refine V_iconst (v := 1) C d_La_law_1139 (by decide) ?_
  refine V_iadd C d_La_law_1140 ?_
  refine V_eScr (t := 7 * i + 1) C d_La_law_1141 hX hbl h98 (nI_add (7 * i) 1) (by omega) hL ?_
  refine V_callV (as := [_]) C d_La_law_1142 (c_OL_count hI) m_OL_count cf_OL k_La_126 (nn hI.os.n9) ⟨by decide, by decide⟩ (Nat.le_of_ble_eq_true rfl) ⟨hc, hs⟩ rfl ?_
  rintro _ ν1 ι1 ρ1 ℓ1 ⟨el1, h9, b, rfl, hM⟩
  dsimp only [Option.toList, List.cons_append, List.nil_append]
  refine V_aload_n C d_La_law_1145 rfl ?_
  refine V_aload_n C d_La_law_1146 rfl ?_
  refine V_iload C d_La_law_1147 rfl ?_
  refine V_iconst (v := 1) C d_La_law_1149 (by decide) ?_
  refine V_iadd C d_La_law_1150 ?_
  refine V_eScr (t := 7 * i + 1) C d_La_law_1151 hX hbl h98 (nI_add (7 * i) 1) (by omega) hL ?_
  obtain ⟨Po2, hC2, hP2⟩ := hM ℓ1
  refine V_al (n := 2) rfl (by decide) (fun a10 => ?_)
  refine V_callV (as := [_]) C d_La_law_1152 hC2 m_Mo_count cf_Mo k_La_129 a10 ⟨by decide, by decide⟩ (Nat.le_of_ble_eq_true rfl) ⟨hc, hs⟩ rfl ?_
  rintro v2 ν2 ι2 ρ2 ℓ2 hp2
  obtain ⟨⟨el, ⟨b2_, ev, hbb⟩, hk2, νd, hIN, hDr⟩, en⟩ := hP2 _ _ _ _ _ hp2
  subst ev
  subst el
  subst en
  skip
  refine V_dr hClo hDr h00 (wfl_c wfv_I (wfl_c (wfv_R (hDr.2.2 90 0 0 (nn h90))) (wfl_c (wfv_R (hDr.2.2 10 0 0 hI.mo.al)) (wfl_c (wfv_R (hDr.2.2 9 0 0 (nn hI.os.n9))) (wfl_c (wfv_G (by decide)) wfl_n))))) (wfl_c wfv_I (wfl_c wfv_I wfl_n)) ?_
  have h90d := hDr.n90 h9 h90
  obtain ⟨N2, c2, w2, n2, z2, kn2, g2, hI2⟩ := hIN
  dsimp only [Option.toList, List.cons_append, List.nil_append]
  refine V_icmp_eq (tgt := 1160) C d_La_law_1155 (by decide) (fun h1155 => ?_) (fun h1155 => absurd (hbb rfl).symm h1155)
  refine V_pick [0, 1, 2, 3, 4] rfl ?_
  exact nx _ _ _ _ ⟨_, _, _, _, _, _, _, hI2⟩ h90d
theorem sc_le {L i : Nat} (hL : L ≤ 3584) (h : ¬ nI L - 7 < nI (7 * i)) (hi : 7 * i ≤ 4000) : 7 * i + 7 ≤ L := by
  rcases Nat.lt_or_ge L 7 with h7 | h7
  · refine absurd ?_ h
    have hn : nI L - 7 < 0 := by
      rcases (show L = 0 ∨ L = 1 ∨ L = 2 ∨ L = 3 ∨ L = 4 ∨ L = 5 ∨ L = 6 by omega) with rfl | rfl | rfl | rfl | rfl | rfl | rfl <;> decide
    exact Int32.lt_of_lt_of_le hn (Int32.not_lt.mp (nI_nneg (by omega)))
  · obtain ⟨d, rfl⟩ : ∃ d, L = d + 7 := ⟨L - 7, by omega⟩
    rw [show nI (d + 7) - 7 = nI d from by rw [← nI_add d 7]; exact Int32.add_sub_cancel _ _] at h
    rcases Nat.lt_or_ge d (7 * i) with q | q
    · exact absurd (nI_lt q (by omega)) h
    · omega
set_option maxHeartbeats 4000000 in
set_option maxRecDepth 20000 in
theorem La_loop (C : Cx p l s m args meth c D B tW α0 R_La b_La_law 7 rt mn tab) (hX : va_X sb L xs s s.heap) (hbl : sb < B) (h98 : α0 98 0 0 = sb) (hL : L ≤ 3584) (h00 : ∀ r i j, ν0 r i j = none) (hE : ∀ (cells slots : Nat) (ν : Nu) (ι : Io) (ρ : Ro) (ℓ : Lo) (lv : List (Nat × SV)), cells ≤ 601024 → slots ≤ 7293034 → V p l e room_1 s m args below meth c D B α0 ν0 7 Q cells slots ν ι ρ ℓ 1166 lv []) : ∀ (f i cells slots : Nat) (ν : Nu) (ι : Io) (ρ : Ro) (ℓ : Lo), L + 8 ≤ 7 * i + f → 7 * i ≤ L → INV ν ι ρ → ν 90 0 0 = some 1 → cells ≤ 186 + 60 * i → slots ≤ 28986 + 2000 * i → V p l e room_1 s m args below meth c D B α0 ν0 7 Q cells slots ν ι ρ ℓ 23 [(4, sI (nI (7 * i))), (3, sR 90 0 0), (2, sR 10 0 0), (1, sR 9 0 0), (0, sR 98 0 0)] [] := by
  intro f
  induction f with
  | zero =>
    intro i cells slots ν ι ρ ℓ hf hiL hIN h90 hc hs
    omega
  | succ f ih =>
    intro i cells slots ν ι ρ ℓ hf hiL hIN h90 hc hs
    obtain ⟨N, c9, w9, n9, z9, kn, g9, hI⟩ := hIN
    refine V_iload C d_La_law_23 rfl ?_
    refine V_aload_n C d_La_law_25 rfl ?_
    refine V_lScr C d_La_law_26 hX hbl h98 ?_
    refine V_bipush (v := 7) C d_La_law_27 (by decide) ?_
    refine V_isub C d_La_law_29 ?_
    refine V_icmp_gt (tgt := 1166) C d_La_law_30 (by decide) (fun h30 => ?_) (fun h30 => ?_)
    · exact hE _ _ _ _ _ _ _ (by omega) (by omega)
    · have hi : 7 * i + 7 ≤ L := sc_le hL h30 (by omega)
      refine V_wf fun hClo => ?_
      have nxt : ∀ (νd : Nu) (ι2 : Io) (ρ2 : Ro) (ℓ2 : Lo), INV νd ι2 ρ2 → νd 90 0 0 = some 1 → ∀ (c2 s2 : Nat), c2 ≤ cells + 60 → s2 ≤ slots + 2000 → V p l e room_1 s m args below meth c D B α0 ν0 7 Q c2 s2 νd ι2 ρ2 ℓ2 1160 [(4, sI (nI (7 * i))), (3, sR 90 0 0), (2, sR 10 0 0), (1, sR 9 0 0), (0, sR 98 0 0)] [] := by
        intro νd ι2 ρ2 ℓ2 q1 q2 c2 s2 q3 q4
        refine V_iinc (v := nI (7 * (i + 1))) (lv' := [(4, _), (3, _), (2, _), (1, _), (0, _)]) C d_La_law_1160 rfl (nI_add (7 * i) 7) (by decide) rfl ?_
        refine V_goto (tgt := 23) C d_La_law_1163 (by decide) ?_
        exact ih (i + 1) c2 s2 νd ι2 ρ2 ℓ2 (by omega) (by omega) q1 q2 (by omega) (by omega)
      refine V_aload_n C d_La_law_33 rfl ?_
      refine V_iload C d_La_law_34 rfl ?_
      refine V_eScr (t := 7 * i) C d_La_law_36 hX hbl h98 rfl (by omega) hL ?_
      refine V_bipush (v := 15) C d_La_law_37 (by decide) ?_
      refine V_iand C d_La_law_39 ?_
      refine V_topi (fun x ex => ?_)
      by_cases c40_0 : x = 0
      · subst c40_0
        refine V_tswI (tgt := 120) C d_La_law_40 (by decide) (by decide) rfl (by decide) ?_
        exact br_object C hX hbl h98 hL h00 hi hI hClo h90 (by omega) (by omega) (fun νd ι2 ρ2 ℓ2 q1 q2 => nxt νd ι2 ρ2 ℓ2 q1 q2 _ _ (by omega) (by omega))
      by_cases c40_1 : x = 1
      · subst c40_1
        refine V_tswI (tgt := 164) C d_La_law_40 (by decide) (by decide) rfl (by decide) ?_
        exact br_section C hX hbl h98 hL h00 hi hI hClo h90 (by omega) (by omega) (fun νd ι2 ρ2 ℓ2 q1 q2 => nxt νd ι2 ρ2 ℓ2 q1 q2 _ _ (by omega) (by omega))
      by_cases c40_2 : x = 2
      · subst c40_2
        refine V_tswI (tgt := 256) C d_La_law_40 (by decide) (by decide) rfl (by decide) ?_
        exact br_bytes C hX hbl h98 hL h00 hi hI hClo h90 (by omega) (by omega) (fun νd ι2 ρ2 ℓ2 q1 q2 => nxt νd ι2 ρ2 ℓ2 q1 q2 _ _ (by omega) (by omega))
      by_cases c40_3 : x = 3
      · subst c40_3
        refine V_tswI (tgt := 348) C d_La_law_40 (by decide) (by decide) rfl (by decide) ?_
        exact br_name C hX hbl h98 hL h00 hi hI hClo h90 (by omega) (by omega) (fun νd ι2 ρ2 ℓ2 q1 q2 => nxt νd ι2 ρ2 ℓ2 q1 q2 _ _ (by omega) (by omega))
      by_cases c40_4 : x = 4
      · subst c40_4
        refine V_tswI (tgt := 452) C d_La_law_40 (by decide) (by decide) rfl (by decide) ?_
        exact br_reference C hX hbl h98 hL h00 hi hI hClo h90 (by omega) (by omega) (fun νd ι2 ρ2 ℓ2 q1 q2 => nxt νd ι2 ρ2 ℓ2 q1 q2 _ _ (by omega) (by omega))
      by_cases c40_5 : x = 5
      · subst c40_5
        refine V_tswI (tgt := 570) C d_La_law_40 (by decide) (by decide) rfl (by decide) ?_
        exact br_choose C hX hbl h98 hL h00 hi hI hClo h90 (by omega) (by omega) (fun νd ι2 ρ2 ℓ2 q1 q2 => nxt νd ι2 ρ2 ℓ2 q1 q2 _ _ (by omega) (by omega))
      by_cases c40_6 : x = 6
      · subst c40_6
        refine V_tswI (tgt := 626) C d_La_law_40 (by decide) (by decide) rfl (by decide) ?_
        exact br_link C hX hbl h98 hL h00 hi hI hClo h90 (by omega) (by omega) (fun νd ι2 ρ2 ℓ2 q1 q2 => nxt νd ι2 ρ2 ℓ2 q1 q2 _ _ (by omega) (by omega))
      by_cases c40_7 : x = 7
      · subst c40_7
        refine V_tswI (tgt := 694) C d_La_law_40 (by decide) (by decide) rfl (by decide) ?_
        exact br_fault C hX hbl h98 hL h00 hi hI hClo h90 (by omega) (by omega) (fun νd ι2 ρ2 ℓ2 q1 q2 => nxt νd ι2 ρ2 ℓ2 q1 q2 _ _ (by omega) (by omega))
      by_cases c40_8 : x = 8
      · subst c40_8
        refine V_tswI (tgt := 750) C d_La_law_40 (by decide) (by decide) rfl (by decide) ?_
        exact br_image C hX hbl h98 hL h00 hi hI hClo h90 (by omega) (by omega) (fun νd ι2 ρ2 ℓ2 q1 q2 => nxt νd ι2 ρ2 ℓ2 q1 q2 _ _ (by omega) (by omega))
      by_cases c40_9 : x = 9
      · subst c40_9
        refine V_tswI (tgt := 806) C d_La_law_40 (by decide) (by decide) rfl (by decide) ?_
        exact br_placeOf C hX hbl h98 hL h00 hi hI hClo h90 (by omega) (by omega) (fun νd ι2 ρ2 ℓ2 q1 q2 => nxt νd ι2 ρ2 ℓ2 q1 q2 _ _ (by omega) (by omega))
      by_cases c40_10 : x = 10
      · subst c40_10
        refine V_tswI (tgt := 874) C d_La_law_40 (by decide) (by decide) rfl (by decide) ?_
        exact br_nameAt C hX hbl h98 hL h00 hi hI hClo h90 (by omega) (by omega) (fun νd ι2 ρ2 ℓ2 q1 q2 => nxt νd ι2 ρ2 ℓ2 q1 q2 _ _ (by omega) (by omega))
      by_cases c40_11 : x = 11
      · subst c40_11
        refine V_tswI (tgt := 899) C d_La_law_40 (by decide) (by decide) rfl (by decide) ?_
        exact br_write C hX hbl h98 hL h00 hi hI hClo h90 (by omega) (by omega) (fun νd ι2 ρ2 ℓ2 q1 q2 => nxt νd ι2 ρ2 ℓ2 q1 q2 _ _ (by omega) (by omega))
      by_cases c40_12 : x = 12
      · subst c40_12
        refine V_tswI (tgt := 955) C d_La_law_40 (by decide) (by decide) rfl (by decide) ?_
        exact br_written C hX hbl h98 hL h00 hi hI hClo h90 (by omega) (by omega) (fun νd ι2 ρ2 ℓ2 q1 q2 => nxt νd ι2 ρ2 ℓ2 q1 q2 _ _ (by omega) (by omega))
      by_cases c40_13 : x = 13
      · subst c40_13
        refine V_tswI (tgt := 1011) C d_La_law_40 (by decide) (by decide) rfl (by decide) ?_
        exact br_alter C hX hbl h98 hL h00 hi hI hClo h90 (by omega) (by omega) (fun νd ι2 ρ2 ℓ2 q1 q2 => nxt νd ι2 ρ2 ℓ2 q1 q2 _ _ (by omega) (by omega))
      by_cases c40_14 : x = 14
      · subst c40_14
        refine V_tswI (tgt := 1079) C d_La_law_40 (by decide) (by decide) rfl (by decide) ?_
        exact br_read C hX hbl h98 hL h00 hi hI hClo h90 (by omega) (by omega) (fun νd ι2 ρ2 ℓ2 q1 q2 => nxt νd ι2 ρ2 ℓ2 q1 q2 _ _ (by omega) (by omega))
      by_cases c40_15 : x = 15
      · subst c40_15
        refine V_tswI (tgt := 1135) C d_La_law_40 (by decide) (by decide) rfl (by decide) ?_
        exact br_count C hX hbl h98 hL h00 hi hI hClo h90 (by omega) (by omega) (fun νd ι2 ρ2 ℓ2 q1 q2 => nxt νd ι2 ρ2 ℓ2 q1 q2 _ _ (by omega) (by omega))
      refine V_tswO (tgt := 1160) C d_La_law_40 (tsw_out (lo := 0) 16 (by decide) (fun t ht => ?_)) (by decide) ?_
      · rcases (show t = 0 ∨ t = 1 ∨ t = 2 ∨ t = 3 ∨ t = 4 ∨ t = 5 ∨ t = 6 ∨ t = 7 ∨ t = 8 ∨ t = 9 ∨ t = 10 ∨ t = 11 ∨ t = 12 ∨ t = 13 ∨ t = 14 ∨ t = 15 by omega) with rfl | rfl | rfl | rfl | rfl | rfl | rfl | rfl | rfl | rfl | rfl | rfl | rfl | rfl | rfl | rfl <;> assumption
      refine nxt _ _ _ _ ⟨_, _, _, _, _, _, _, hI⟩ h90 _ _ (by omega) (by omega)
end Am7
