def nxL (L : Ls) (q : Int32) : Ls := up2 (up2 L 10 31 (L 10 31 + (nxt (L 10 41) q - L 10 41))) 10 41 (nxt (L 10 41) q)
def secS (ι : Io) (k : Nat) (L : Ls) (s : Nat) : Ls := if L 61 s ≠ 0 ∧ ι 43 0 0 s = nI k then up2 (up2 (up2 (nxL L (ι 44 0 0 s)) 64 s (nxt (L 10 41) (ι 44 0 0 s))) 10 41 (nxt (L 10 41) (ι 44 0 0 s) + ι 45 0 0 s)) 10 30 (L 10 30 + 1) else L
def comS (ι : Io) (c : Nat) (L : Ls) (i : Nat) : Ls := if L 62 i ≠ 0 then up2 (up2 (up2 (nxL L (gr ι c (ι 48 0 0 i) 50)) 63 i (nxt (L 10 41) (gr ι c (ι 48 0 0 i) 50))) 10 41 (nxt (L 10 41) (gr ι c (ι 48 0 0 i) 50) + gr ι c (ι 48 0 0 i) 51)) 10 32 (L 10 32 + 1) else L
def kinL (ι : Io) (c n : Nat) (L : Ls) : Ls := (List.range n).foldl (fun L k => (sq ι 8 42 c).foldl (secS ι k) L) L
theorem kinL_s {ι : Io} {c n : Nat} {L : Ls} : kinL ι c (n + 1) L = (sq ι 8 42 c).foldl (secS ι n) (kinL ι c n L) := by
  unfold kinL
  rw [List.range_succ, List.foldl_append]
  rfl
def bg0 (L : Ls) : Ls := up2 (up2 (up2 (up2 L 10 41 (L 10 20)) 10 31 0) 10 30 0) 10 32 0
def bgL (L : Ls) : Ls := flL (bg0 L) 64 96 (-1)
def enL (L : Ls) : Ls := if 4096 < L 10 41 - L 10 20 then tlL (up2 L 10 29 (L 10 41 - L 10 20)) 6 (-1) (-1) else up2 L 10 29 (L 10 41 - L 10 20)
def ordL (ι : Io) (c : Nat) (L : Ls) : Ls := enL ((sq ι 12 47 c).foldl (comS ι c) (kinL ι c 4 (bgL L)))
theorem k_next {ν : Nu} {ι : Io} {ρ : Ro} {ℓ : Lo} (hM : MoS ν ρ) {c9 : Nat} (K : LK ι c9) {L : Ls} {q : Int32} : Ct y_Mo_next (Cond.code y_Mo_next b_Mo_next 3 (some .int) :: tb_) { frames := 0, cells := 0, slots := 0, locals := 0 } [sR 10 0 0, sI q] ν (setL ι L) ρ ℓ (pEq (some (sI (nxt (L 10 41) q))) ν (setL ι (nxL L q)) ρ ℓ) (noX) := by
  have h := c_Mo_next (ι := setL ι L) (ℓ := ℓ) hM (q := q)
  rw [setL_up rfl, setL_up rfl] at h
  exact h
theorem k_greatest {ν : Nu} {ι : Io} {ρ : Ro} {ℓ : Lo} (hM : MoS ν ρ) {c9 : Nat} (K : LK ι c9) {L : Ls} {n z : Int32} (r : Nat) (hr : r = if z = 0 then 50 else 51) : Ct y_Mo_greatest (Cond.code y_Mo_greatest b_Mo_greatest 8 (some .int) :: tb_) { frames := 0, cells := 0, slots := 0, locals := 0 } [sR 10 0 0, sI n, sI z] ν (setL ι L) ρ ℓ (pEq (some (sI (gr ι c9 n r))) ν (setL ι L) ρ ℓ) (noX) := by
  rcases (show r = 50 ∨ r = 51 by rw [hr]; split <;> simp) with h | h
  · subst h
    exact c_Mo_greatest (ι := setL ι L) hM K.c18 K.c12 K.b59 K.b47 50 hr
  · subst h
    exact c_Mo_greatest (ι := setL ι L) hM K.c18 K.c12 K.b59 K.b47 51 hr
set_option maxHeartbeats 1000000 in
set_option maxRecDepth 10000 in
theorem k_order {ν : Nu} {ι : Io} {ρ : Ro} {ℓ : Lo} (hM : MoS ν ρ) {c9 : Nat} (K : LK ι c9) {L : Ls}  : Ct y_Mo_order (Cond.code y_Mo_order b_Mo_order 4 none :: tb_) { frames := 1, cells := 0, slots := 0, locals := 27 } [sR 10 0 0] ν (setL ι L) ρ ℓ (pEq none ν (setL ι (ordL ι c9 L)) ρ ℓ) (noX) := by
  refine Ct.ofV (by decide) (Nat.le_of_ble_eq_true rfl) rfl ?_
  intro p l e s m args below meth c D B tW α0 Q C hQ
  have h12 := K.c12
  have coms : ∀ (f : Nat) (k9 : Nat) (L1 : Ls), c9 - k9 < f → (k9 ≤ c9) → (L1 = (sq ι 12 47 k9).foldl (comS ι c9) (kinL ι c9 4 (bgL L))) → V p l e { frames := 1, cells := 0, slots := 0, locals := 27 } s m args below meth c D B α0 ν 4 Q 0 0 ν (setL ι L1) ρ ℓ 176 [(1, sI (nI k9)), (0, sR 10 0 0)] [] := by
    intro f
    induction f with
    | zero => intros; omega
    | succ f ih =>
      intro k9 L1 hf hk0 hpre0
      refine V_iload_n C d_Mo_order_176 rfl ?_
      refine V_aload_n C d_Mo_order_177 rfl ?_
      refine V_getI (kx := 18) C d_Mo_order_178 cf_Mo (by decide) k_Mo_144 hM.al rfl ?_
      refine V_eqi (y := nI c9) K.c18 ?_
      refine V_icmp_ge (tgt := 283) C d_Mo_order_181 (by decide) (fun h181 => ?_) (fun h181 => ?_)
      · have hk : k9 = c9 := by have := (nI_leI (a := c9) (b := k9) (by omega) (by omega)).mp h181; omega
        subst hk
        refine V_aload_n C d_Mo_order_283 rfl ?_
        refine V_aload_n C d_Mo_order_284 rfl ?_
        refine V_getI (kx := 41) C d_Mo_order_285 cf_Mo (by decide) k_Mo_170 hM.al rfl ?_
        refine V_aload_n C d_Mo_order_288 rfl ?_
        refine V_getI (kx := 20) C d_Mo_order_289 cf_Mo (by decide) k_Mo_176 hM.al rfl ?_
        refine V_isub C d_Mo_order_292 ?_
        refine V_putI (kx := 29) C d_Mo_order_293 cf_Mo (by decide) k_Mo_192 hM.al rfl rfl rfl rfl ?_
        refine V_io (show _ = setL ι (up2 L1 10 29 (L1 10 41 - L1 10 20)) from setL_up rfl) ?_
        refine V_aload_n C d_Mo_order_296 rfl ?_
        refine V_getI (kx := 29) C d_Mo_order_297 cf_Mo (by decide) k_Mo_192 hM.al rfl ?_
        refine V_sipush (v := 4096) C d_Mo_order_300 (by decide) ?_
        refine V_icmp_le (tgt := 314) C d_Mo_order_303 (by decide) (fun h303 => ?_) (fun h303 => ?_)
        · have hst : enL L1 = up2 L1 10 29 (L1 10 41 - L1 10 20) := if_neg (Int32.not_lt.mpr h303)
          refine V_vret C hQ (by decide) (by decide) d_Mo_order_314 rfl ?_
          refine ⟨rfl, rfl, congrArg (setL ι) ?_, rfl, rfl⟩
          unfold ordL
          rw [← hpre0]
          exact hst
        · have hst : enL L1 = tlL (up2 L1 10 29 (L1 10 41 - L1 10 20)) 6 (-1) (-1) := if_pos (lt_of_nle h303)
          refine V_aload_n C d_Mo_order_306 rfl ?_
          refine V_bipush (v := 6) C d_Mo_order_307 (by decide) ?_
          refine V_iconst (v := (-1)) C d_Mo_order_309 (by decide) ?_
          refine V_iconst (v := (-1)) C d_Mo_order_310 (by decide) ?_
          refine V_callV (as := [_, _, _]) C d_Mo_order_311 (k_tell hM K) m_Mo_tell cf_Mo k_Mo_157 hM.al ⟨by decide, by decide⟩ (Nat.le_of_ble_eq_true rfl) ⟨by decide, by decide⟩ rfl ?_
          rintro _ _ _ _ _ ⟨rfl, rfl, rfl, rfl, rfl⟩
          dsimp only [Option.toList, List.cons_append, List.nil_append]
          refine V_vret C hQ (by decide) (by decide) d_Mo_order_314 rfl ?_
          refine ⟨rfl, rfl, congrArg (setL ι) ?_, rfl, rfl⟩
          unfold ordL
          rw [← hpre0]
          exact hst
      · have hk : k9 < c9 := Nat.lt_of_not_le fun z => h181 ((nI_leI (by omega) (by omega)).mpr z)
        have ho := K.b59.le (t := k9) (by omega)
        have hnn := K.b47.le (t := mn ι 59 k9) (by omega)
        have inner : ∀ (f : Nat) (i : Nat) (L1 : Ls), mn ι 47 (mn ι 59 k9) - i < f → (i ≤ mn ι 47 (mn ι 59 k9)) → (L1 = (sqP ι 12 47 k9 i).foldl (comS ι c9) (kinL ι c9 4 (bgL L))) → V p l e { frames := 1, cells := 0, slots := 0, locals := 27 } s m args below meth c D B α0 ν 4 Q 0 0 ν (setL ι L1) ρ ℓ 196 [(3, sI (nI (12 * mn ι 59 k9 + i))), (2, sI (nI (mn ι 59 k9))), (1, sI (nI k9)), (0, sR 10 0 0)] [] := by
          intro f
          induction f with
          | zero => intros; omega
          | succ f ih2 =>
                  intro i L1 hf2 hi0 hpre
                  refine V_iload_n C d_Mo_order_196 rfl ?_
                  refine V_bipush (v := 12) C d_Mo_order_197 (by decide) ?_
                  refine V_iload_n C d_Mo_order_199 rfl ?_
                  refine V_imul C d_Mo_order_200 ?_
                  refine V_aload_n C d_Mo_order_201 rfl ?_
                  refine V_getR (kx := 7) C d_Mo_order_202 cf_Mo (by decide) k_Mo_25 hM.al rfl hM.r7 ?_
                  refine V_iload_n C d_Mo_order_205 rfl ?_
                  refine V_iald C d_Mo_order_206 (by decide) rfl hM.n7 rfl (by omega) rfl ?_
                  refine V_eqi (y := nI (mn ι 47 (mn ι 59 k9))) (K.b47.eq (t := mn ι 59 k9) (by omega)) ?_
                  refine V_iadd C d_Mo_order_207 ?_
                  refine V_eqi (ixa 12 (mn ι 59 k9) (mn ι 47 (mn ι 59 k9))) ?_
                  refine V_icmp_ge (tgt := 277) C d_Mo_order_208 (by decide) (fun h208 => ?_) (fun h208 => ?_)
                  · have hi : i = mn ι 47 (mn ι 59 k9) := by have := (nI_leI (by omega) (by omega)).mp h208; omega
                    refine V_iinc (v := nI (k9 + 1)) (lv' := [(1, _), (3, _), (2, _), (0, _)]) C d_Mo_order_277 rfl (nI_1 k9) (by decide) rfl ?_
                    refine V_goto (tgt := 176) C d_Mo_order_280 (by decide) ?_
                    refine V_pick [0, 3] rfl ?_
                    exact ih (k9 + 1) _ (by omega) (by omega) (by rw [sq_s, ← hi]; exact hpre)
                  · have hi : i < mn ι 47 (mn ι 59 k9) := Nat.lt_of_not_le fun z => h208 ((nI_leI (by omega) (by omega)).mpr (by omega))
                    refine V_aload_n C d_Mo_order_211 rfl ?_
                    refine V_getR (kx := 22) C d_Mo_order_212 cf_Mo (by decide) k_Mo_65 hM.al rfl hM.r22 ?_
                    refine V_iload_n C d_Mo_order_215 rfl ?_
                    refine V_zald C d_Mo_order_216 (by decide) rfl hM.n22 rfl (by omega) rfl ?_
                    refine V_if_eq (tgt := 271) C d_Mo_order_217 (by decide) (fun h217 => ?_) (fun h217 => ?_)
                    · have hst : comS ι c9 L1 (12 * mn ι 59 k9 + i) = L1 := if_neg (fun z => z h217)
                      refine V_iinc (v := nI (12 * mn ι 59 k9 + (i + 1))) (lv' := [(3, _), (2, _), (1, _), (0, _)]) C d_Mo_order_271 rfl (nI_1 _) (by decide) rfl ?_
                      refine V_goto (tgt := 196) C d_Mo_order_274 (by decide) ?_
                      refine V_pick [0, 1, 2, 3] rfl ?_
                      refine V_io (show _ = setL ι (comS ι c9 L1 (12 * mn ι 59 k9 + i)) by first | (rw [hst]; done) | (rw [hst, setL_up rfl, setL_up rfl, setL_up rfl]; rfl)) ?_
                      exact ih2 (i + 1) _ (by omega) (by omega) (by rw [sqP_s, fold_g, ← hpre])
                    · have hst : comS ι c9 L1 (12 * mn ι 59 k9 + i) = _ := if_pos h217
                      refine V_aload_n C d_Mo_order_220 rfl ?_
                      refine V_getR (kx := 23) C d_Mo_order_221 cf_Mo (by decide) k_Mo_68 hM.al rfl hM.r23 ?_
                      refine V_iload_n C d_Mo_order_224 rfl ?_
                      refine V_aload_n C d_Mo_order_225 rfl ?_
                      refine V_aload_n C d_Mo_order_226 rfl ?_
                      refine V_aload_n C d_Mo_order_227 rfl ?_
                      refine V_getR (kx := 8) C d_Mo_order_228 cf_Mo (by decide) k_Mo_28 hM.al rfl hM.r8 ?_
                      refine V_iload_n C d_Mo_order_231 rfl ?_
                      refine V_iald C d_Mo_order_232 (by decide) rfl hM.n8 rfl (by omega) rfl ?_
                      refine V_iconst (v := 0) C d_Mo_order_233 (by decide) ?_
                      refine V_callV (as := [_, _]) C d_Mo_order_234 (k_greatest hM K 50 (by decide)) m_Mo_greatest cf_Mo k_Mo_188 hM.al ⟨by decide, by decide⟩ (Nat.le_of_ble_eq_true rfl) ⟨by decide, by decide⟩ rfl ?_
                      rintro _ _ _ _ _ ⟨rfl, rfl, rfl, rfl, rfl⟩
                      dsimp only [Option.toList, List.cons_append, List.nil_append]
                      refine V_callV (as := [_]) C d_Mo_order_237 (k_next hM K) m_Mo_next cf_Mo k_Mo_185 hM.al ⟨by decide, by decide⟩ (Nat.le_of_ble_eq_true rfl) ⟨by decide, by decide⟩ rfl ?_
                      rintro _ _ _ _ _ ⟨rfl, rfl, rfl, rfl, rfl⟩
                      dsimp only [Option.toList, List.cons_append, List.nil_append]
                      refine V_iast C d_Mo_order_240 (by decide) rfl hM.n23 rfl (by omega) rfl ?_
                      refine V_aload_n C d_Mo_order_241 rfl ?_
                      refine V_dup C d_Mo_order_242 rfl ?_
                      refine V_getI (kx := 41) C d_Mo_order_243 cf_Mo (by decide) k_Mo_170 hM.al rfl ?_
                      refine V_aload_n C d_Mo_order_246 rfl ?_
                      refine V_aload_n C d_Mo_order_247 rfl ?_
                      refine V_getR (kx := 8) C d_Mo_order_248 cf_Mo (by decide) k_Mo_28 hM.al rfl hM.r8 ?_
                      refine V_iload_n C d_Mo_order_251 rfl ?_
                      refine V_iald C d_Mo_order_252 (by decide) rfl hM.n8 rfl (by omega) rfl ?_
                      refine V_iconst (v := 1) C d_Mo_order_253 (by decide) ?_
                      refine V_io (show _ = setL ι _ from setL_up rfl) ?_
                      refine V_callV (as := [_, _]) C d_Mo_order_254 (k_greatest hM K 51 (by decide)) m_Mo_greatest cf_Mo k_Mo_188 hM.al ⟨by decide, by decide⟩ (Nat.le_of_ble_eq_true rfl) ⟨by decide, by decide⟩ rfl ?_
                      rintro _ _ _ _ _ ⟨rfl, rfl, rfl, rfl, rfl⟩
                      dsimp only [Option.toList, List.cons_append, List.nil_append]
                      refine V_iadd C d_Mo_order_257 ?_
                      refine V_putI (kx := 41) C d_Mo_order_258 cf_Mo (by decide) k_Mo_170 hM.al rfl rfl rfl rfl ?_
                      refine V_aload_n C d_Mo_order_261 rfl ?_
                      refine V_dup C d_Mo_order_262 rfl ?_
                      refine V_getI (kx := 32) C d_Mo_order_263 cf_Mo (by decide) k_Mo_182 hM.al rfl ?_
                      refine V_iconst (v := 1) C d_Mo_order_266 (by decide) ?_
                      refine V_iadd C d_Mo_order_267 ?_
                      refine V_putI (kx := 32) C d_Mo_order_268 cf_Mo (by decide) k_Mo_182 hM.al rfl rfl rfl rfl ?_
                      refine V_iinc (v := nI (12 * mn ι 59 k9 + (i + 1))) (lv' := [(3, _), (2, _), (1, _), (0, _)]) C d_Mo_order_271 rfl (nI_1 _) (by decide) rfl ?_
                      refine V_goto (tgt := 196) C d_Mo_order_274 (by decide) ?_
                      refine V_pick [0, 1, 2, 3] rfl ?_
                      refine V_io (show _ = setL ι (comS ι c9 L1 (12 * mn ι 59 k9 + i)) by first | (rw [hst]; done) | (rw [hst, setL_up rfl, setL_up rfl, setL_up rfl]; rfl)) ?_
                      exact ih2 (i + 1) _ (by omega) (by omega) (by rw [sqP_s, fold_g, ← hpre])
        refine V_aload_n C d_Mo_order_184 rfl ?_
        refine V_getR (kx := 19) C d_Mo_order_185 cf_Mo (by decide) k_Mo_58 hM.al rfl hM.r19 ?_
        refine V_iload_n C d_Mo_order_188 rfl ?_
        refine V_iald C d_Mo_order_189 (by decide) rfl hM.n19 rfl (by omega) rfl ?_
        refine V_eqi (y := nI (mn ι 59 k9)) (K.b59.eq (t := k9) (by omega)) ?_
        refine V_istore_n (lv' := [(2, _), (1, _), (0, _)]) C d_Mo_order_190 (by decide) rfl ?_
        refine V_bipush (v := 12) C d_Mo_order_191 (by decide) ?_
        refine V_iload_n C d_Mo_order_193 rfl ?_
        refine V_imul C d_Mo_order_194 ?_
        refine V_eqi (y := nI (12 * mn ι 59 k9 + 0)) (pk_mul 12 _) ?_
        refine V_istore_n (lv' := [(3, _), (2, _), (1, _), (0, _)]) C d_Mo_order_195 (by decide) rfl ?_
        refine V_pick [0, 1, 2, 3] rfl ?_
        exact inner (mn ι 47 (mn ι 59 k9) + 1) 0 _ (by omega) (by omega) (by rw [sqP_0]; exact hpre0)
  have kinds : ∀ (f : Nat) (kk : Nat) (L2 : Ls), 4 - kk < f → (kk ≤ 4) → (L2 = kinL ι c9 kk (bgL L)) → V p l e { frames := 1, cells := 0, slots := 0, locals := 27 } s m args below meth c D B α0 ν 4 Q 0 0 ν (setL ι L2) ρ ℓ 46 [(1, sI (nI kk)), (0, sR 10 0 0)] [] := by
    intro f
    induction f with
    | zero => intros; omega
    | succ f ihK =>
      intro kk L2 hfK hk4 hL2
      refine V_iload_n C d_Mo_order_46 rfl ?_
      refine V_iconst (v := 4) C d_Mo_order_47 (by decide) ?_
      refine V_icmp_ge (tgt := 174) C d_Mo_order_48 (by decide) (fun h48 => ?_) (fun h48 => ?_)
      · have hkk : kk = 4 := by have := (nI_leI (a := 4) (b := kk) (by decide) (by omega)).mp h48; omega
        subst hkk
        refine V_iconst (v := 0) C d_Mo_order_174 (by decide) ?_
        refine V_istore_n (lv' := [(1, _), (0, _)]) C d_Mo_order_175 (by decide) rfl ?_
        refine V_pick [0, 1] rfl ?_
        exact coms (c9 + 1) 0 _ (by omega) (by omega) hL2
      · have hkk : kk < 4 := Nat.lt_of_not_le fun z => h48 ((nI_leI (a := 4) (b := kk) (by decide) (by omega)).mpr z)
        have outK : ∀ (f : Nat) (k9 : Nat) (L1 : Ls), c9 - k9 < f → (k9 ≤ c9) → (L1 = (sq ι 8 42 k9).foldl (secS ι kk) L2) → V p l e { frames := 1, cells := 0, slots := 0, locals := 27 } s m args below meth c D B α0 ν 4 Q 0 0 ν (setL ι L1) ρ ℓ 53 [(2, sI (nI k9)), (1, sI (nI kk)), (0, sR 10 0 0)] [] := by
          intro f
          induction f with
          | zero => intros; omega
          | succ f ih =>
                  intro k9 L1 hf hk0 hpre0
                  refine V_iload_n C d_Mo_order_53 rfl ?_
                  refine V_aload_n C d_Mo_order_54 rfl ?_
                  refine V_getI (kx := 18) C d_Mo_order_55 cf_Mo (by decide) k_Mo_144 hM.al rfl ?_
                  refine V_eqi (y := nI c9) K.c18 ?_
                  refine V_icmp_ge (tgt := 168) C d_Mo_order_58 (by decide) (fun h58 => ?_) (fun h58 => ?_)
                  · have hk : k9 = c9 := by have := (nI_leI (a := c9) (b := k9) (by omega) (by omega)).mp h58; omega
                    subst hk
                    refine V_iinc (v := nI (kk + 1)) (lv' := [(1, _), (2, _), (0, _)]) C d_Mo_order_168 rfl (nI_1 kk) (by decide) rfl ?_
                    refine V_goto (tgt := 46) C d_Mo_order_171 (by decide) ?_
                    refine V_pick [0, 2] rfl ?_
                    exact ihK (kk + 1) _ (by omega) (by omega) (by rw [kinL_s, ← hL2]; exact hpre0)
                  · have hk : k9 < c9 := Nat.lt_of_not_le fun z => h58 ((nI_leI (by omega) (by omega)).mpr z)
                    have ho := K.b59.le (t := k9) (by omega)
                    have hnn := K.b42.le (t := mn ι 59 k9) (by omega)
                    have inner : ∀ (f : Nat) (i : Nat) (L1 : Ls), mn ι 42 (mn ι 59 k9) - i < f → (i ≤ mn ι 42 (mn ι 59 k9)) → (L1 = (sqP ι 8 42 k9 i).foldl (secS ι kk) L2) → V p l e { frames := 1, cells := 0, slots := 0, locals := 27 } s m args below meth c D B α0 ν 4 Q 0 0 ν (setL ι L1) ρ ℓ 71 [(3, sI (nI (8 * mn ι 59 k9 + i))), (2, sI (nI k9)), (1, sI (nI kk)), (0, sR 10 0 0)] [] := by
                      intro f
                      induction f with
                      | zero => intros; omega
                      | succ f ih2 =>
                                  intro i L1 hf2 hi0 hpre
                                  refine V_iload_n C d_Mo_order_71 rfl ?_
                                  refine V_bipush (v := 8) C d_Mo_order_72 (by decide) ?_
                                  refine V_aload_n C d_Mo_order_74 rfl ?_
                                  refine V_getR (kx := 19) C d_Mo_order_75 cf_Mo (by decide) k_Mo_58 hM.al rfl hM.r19 ?_
                                  refine V_iload_n C d_Mo_order_78 rfl ?_
                                  refine V_iald C d_Mo_order_79 (by decide) rfl hM.n19 rfl (by omega) rfl ?_
                                  refine V_eqi (y := nI (mn ι 59 k9)) (K.b59.eq (t := k9) (by omega)) ?_
                                  refine V_imul C d_Mo_order_80 ?_
                                  refine V_aload_n C d_Mo_order_81 rfl ?_
                                  refine V_getR (kx := 2) C d_Mo_order_82 cf_Mo (by decide) k_Mo_7 hM.al rfl hM.r2 ?_
                                  refine V_aload_n C d_Mo_order_85 rfl ?_
                                  refine V_getR (kx := 19) C d_Mo_order_86 cf_Mo (by decide) k_Mo_58 hM.al rfl hM.r19 ?_
                                  refine V_iload_n C d_Mo_order_89 rfl ?_
                                  refine V_iald C d_Mo_order_90 (by decide) rfl hM.n19 rfl (by omega) rfl ?_
                                  refine V_iald C d_Mo_order_91 (by decide) rfl hM.n2 (K.b59.eq (t := k9) (by omega)) (show mn ι 59 k9 < 13 by omega) rfl ?_
                                  refine V_eqi (y := nI (mn ι 42 (mn ι 59 k9))) (K.b42.eq (t := mn ι 59 k9) (by omega)) ?_
                                  refine V_iadd C d_Mo_order_92 ?_
                                  refine V_eqi (ixa 8 (mn ι 59 k9) (mn ι 42 (mn ι 59 k9))) ?_
                                  refine V_icmp_ge (tgt := 162) C d_Mo_order_93 (by decide) (fun h93 => ?_) (fun h93 => ?_)
                                  · have hi : i = mn ι 42 (mn ι 59 k9) := by have := (nI_leI (by omega) (by omega)).mp h93; omega
                                    refine V_iinc (v := nI (k9 + 1)) (lv' := [(2, _), (3, _), (1, _), (0, _)]) C d_Mo_order_162 rfl (nI_1 k9) (by decide) rfl ?_
                                    refine V_goto (tgt := 53) C d_Mo_order_165 (by decide) ?_
                                    refine V_pick [0, 2, 3] rfl ?_
                                    exact ih (k9 + 1) _ (by omega) (by omega) (by rw [sq_s, ← hi]; exact hpre)
                                  · have hi : i < mn ι 42 (mn ι 59 k9) := Nat.lt_of_not_le fun z => h93 ((nI_leI (by omega) (by omega)).mpr (by omega))
                                    refine V_aload_n C d_Mo_order_96 rfl ?_
                                    refine V_getR (kx := 21) C d_Mo_order_97 cf_Mo (by decide) k_Mo_61 hM.al rfl hM.r21 ?_
                                    refine V_iload_n C d_Mo_order_100 rfl ?_
                                    refine V_zald C d_Mo_order_101 (by decide) rfl hM.n21 rfl (by omega) rfl ?_
                                    refine V_if_eq (tgt := 156) C d_Mo_order_102 (by decide) (fun h102 => ?_) (fun h102 => ?_)
                                    · have hst : secS ι kk L1 (8 * mn ι 59 k9 + i) = L1 := if_neg (fun z => z.1 h102)
                                      refine V_iinc (v := nI (8 * mn ι 59 k9 + (i + 1))) (lv' := [(3, _), (2, _), (1, _), (0, _)]) C d_Mo_order_156 rfl (nI_1 _) (by decide) rfl ?_
                                      refine V_goto (tgt := 71) C d_Mo_order_159 (by decide) ?_
                                      refine V_pick [0, 1, 2, 3] rfl ?_
                                      refine V_io (show _ = setL ι (secS ι kk L1 (8 * mn ι 59 k9 + i)) by first | (rw [hst]; done) | (rw [hst, setL_up rfl, setL_up rfl, setL_up rfl]; rfl)) ?_
                                      exact ih2 (i + 1) _ (by omega) (by omega) (by rw [sqP_s, fold_g, ← hpre])
                                    · refine V_aload_n C d_Mo_order_105 rfl ?_
                                      refine V_getR (kx := 3) C d_Mo_order_106 cf_Mo (by decide) k_Mo_13 hM.al rfl hM.r3 ?_
                                      refine V_iload_n C d_Mo_order_109 rfl ?_
                                      refine V_iald C d_Mo_order_110 (by decide) rfl hM.n3 rfl (by omega) rfl ?_
                                      refine V_iload_n C d_Mo_order_111 rfl ?_
                                      refine V_icmp_ne (tgt := 156) C d_Mo_order_112 (by decide) (fun h112 => ?_) (fun h112 => ?_)
                                      · have hst : secS ι kk L1 (8 * mn ι 59 k9 + i) = L1 := if_neg (fun z => h112 z.2)
                                        refine V_iinc (v := nI (8 * mn ι 59 k9 + (i + 1))) (lv' := [(3, _), (2, _), (1, _), (0, _)]) C d_Mo_order_156 rfl (nI_1 _) (by decide) rfl ?_
                                        refine V_goto (tgt := 71) C d_Mo_order_159 (by decide) ?_
                                        refine V_pick [0, 1, 2, 3] rfl ?_
                                        refine V_io (show _ = setL ι (secS ι kk L1 (8 * mn ι 59 k9 + i)) by first | (rw [hst]; done) | (rw [hst, setL_up rfl, setL_up rfl, setL_up rfl]; rfl)) ?_
                                        exact ih2 (i + 1) _ (by omega) (by omega) (by rw [sqP_s, fold_g, ← hpre])
                                      · have hst : secS ι kk L1 (8 * mn ι 59 k9 + i) = _ := if_pos ⟨h102, h112⟩
                                        refine V_aload_n C d_Mo_order_115 rfl ?_
                                        refine V_getR (kx := 24) C d_Mo_order_116 cf_Mo (by decide) k_Mo_71 hM.al rfl hM.r24 ?_
                                        refine V_iload_n C d_Mo_order_119 rfl ?_
                                        refine V_aload_n C d_Mo_order_120 rfl ?_
                                        refine V_aload_n C d_Mo_order_121 rfl ?_
                                        refine V_getR (kx := 4) C d_Mo_order_122 cf_Mo (by decide) k_Mo_16 hM.al rfl hM.r4 ?_
                                        refine V_iload_n C d_Mo_order_125 rfl ?_
                                        refine V_iald C d_Mo_order_126 (by decide) rfl hM.n4 rfl (by omega) rfl ?_
                                        refine V_callV (as := [_]) C d_Mo_order_127 (k_next hM K) m_Mo_next cf_Mo k_Mo_185 hM.al ⟨by decide, by decide⟩ (Nat.le_of_ble_eq_true rfl) ⟨by decide, by decide⟩ rfl ?_
                                        rintro _ _ _ _ _ ⟨rfl, rfl, rfl, rfl, rfl⟩
                                        dsimp only [Option.toList, List.cons_append, List.nil_append]
                                        refine V_iast C d_Mo_order_130 (by decide) rfl hM.n24 rfl (by omega) rfl ?_
                                        refine V_aload_n C d_Mo_order_131 rfl ?_
                                        refine V_dup C d_Mo_order_132 rfl ?_
                                        refine V_getI (kx := 41) C d_Mo_order_133 cf_Mo (by decide) k_Mo_170 hM.al rfl ?_
                                        refine V_aload_n C d_Mo_order_136 rfl ?_
                                        refine V_getR (kx := 5) C d_Mo_order_137 cf_Mo (by decide) k_Mo_19 hM.al rfl hM.r5 ?_
                                        refine V_iload_n C d_Mo_order_140 rfl ?_
                                        refine V_iald C d_Mo_order_141 (by decide) rfl hM.n5 rfl (by omega) rfl ?_
                                        refine V_iadd C d_Mo_order_142 ?_
                                        refine V_putI (kx := 41) C d_Mo_order_143 cf_Mo (by decide) k_Mo_170 hM.al rfl rfl rfl rfl ?_
                                        refine V_aload_n C d_Mo_order_146 rfl ?_
                                        refine V_dup C d_Mo_order_147 rfl ?_
                                        refine V_getI (kx := 30) C d_Mo_order_148 cf_Mo (by decide) k_Mo_179 hM.al rfl ?_
                                        refine V_iconst (v := 1) C d_Mo_order_151 (by decide) ?_
                                        refine V_iadd C d_Mo_order_152 ?_
                                        refine V_putI (kx := 30) C d_Mo_order_153 cf_Mo (by decide) k_Mo_179 hM.al rfl rfl rfl rfl ?_
                                        refine V_iinc (v := nI (8 * mn ι 59 k9 + (i + 1))) (lv' := [(3, _), (2, _), (1, _), (0, _)]) C d_Mo_order_156 rfl (nI_1 _) (by decide) rfl ?_
                                        refine V_goto (tgt := 71) C d_Mo_order_159 (by decide) ?_
                                        refine V_pick [0, 1, 2, 3] rfl ?_
                                        refine V_io (show _ = setL ι (secS ι kk L1 (8 * mn ι 59 k9 + i)) by first | (rw [hst]; done) | (rw [hst, setL_up rfl, setL_up rfl, setL_up rfl]; rfl)) ?_
                                        exact ih2 (i + 1) _ (by omega) (by omega) (by rw [sqP_s, fold_g, ← hpre])
                    refine V_bipush (v := 8) C d_Mo_order_61 (by decide) ?_
                    refine V_aload_n C d_Mo_order_63 rfl ?_
                    refine V_getR (kx := 19) C d_Mo_order_64 cf_Mo (by decide) k_Mo_58 hM.al rfl hM.r19 ?_
                    refine V_iload_n C d_Mo_order_67 rfl ?_
                    refine V_iald C d_Mo_order_68 (by decide) rfl hM.n19 rfl (by omega) rfl ?_
                    refine V_eqi (y := nI (mn ι 59 k9)) (K.b59.eq (t := k9) (by omega)) ?_
                    refine V_imul C d_Mo_order_69 ?_
                    refine V_eqi (y := nI (8 * mn ι 59 k9 + 0)) (pk_mul 8 _) ?_
                    refine V_istore_n (lv' := [(3, _), (2, _), (1, _), (0, _)]) C d_Mo_order_70 (by decide) rfl ?_
                    refine V_pick [0, 1, 2, 3] rfl ?_
                    exact inner (mn ι 42 (mn ι 59 k9) + 1) 0 _ (by omega) (by omega) (by rw [sqP_0]; exact hpre0)
        refine V_iconst (v := 0) C d_Mo_order_51 (by decide) ?_
        refine V_istore_n (lv' := [(2, _), (1, _), (0, _)]) C d_Mo_order_52 (by decide) rfl ?_
        refine V_pick [0, 1, 2] rfl ?_
        exact outK (c9 + 1) 0 _ (by omega) (by omega) rfl
  have fl9 : ∀ (f : Nat) (i : Nat), 96 - i < f → (i ≤ 96) → V p l e { frames := 1, cells := 0, slots := 0, locals := 27 } s m args below meth c D B α0 ν 4 Q 0 0 ν (setL ι (flL (bg0 L) 64 i (-1))) ρ ℓ 25 [(1, sI (nI i)), (0, sR 10 0 0)] [] := by
    intro f
    induction f with
    | zero => intros; omega
    | succ f ih =>
      intro i hf hi0
      refine V_iload_n C d_Mo_order_25 rfl ?_
      refine V_bipush (v := 96) C d_Mo_order_26 (by decide) ?_
      refine V_icmp_ge (tgt := 44) C d_Mo_order_28 (by decide) (fun h28 => ?_) (fun h28 => ?_)
      · have hi : i = 96 := by have := (nI_leI (a := 96) (b := i) (by decide) (by omega)).mp h28; omega
        subst hi
        refine V_iconst (v := 0) C d_Mo_order_44 (by decide) ?_
        refine V_istore_n (lv' := [(1, _), (0, _)]) C d_Mo_order_45 (by decide) rfl ?_
        refine V_pick [0, 1] rfl ?_
        exact kinds 5 0 _ (by omega) (by omega) rfl
      · have hi : i < 96 := Nat.lt_of_not_le fun z => h28 ((nI_leI (a := 96) (b := i) (by decide) (by omega)).mpr z)
        refine V_aload_n C d_Mo_order_31 rfl ?_
        refine V_getR (kx := 24) C d_Mo_order_32 cf_Mo (by decide) k_Mo_71 hM.al rfl hM.r24 ?_
        refine V_iload_n C d_Mo_order_35 rfl ?_
        refine V_iconst (v := (-1)) C d_Mo_order_36 (by decide) ?_
        refine V_iast C d_Mo_order_37 (by decide) rfl hM.n24 rfl hi rfl ?_
        refine V_iinc (v := nI (i + 1)) (lv' := [(1, _), (0, _)]) C d_Mo_order_38 rfl (nI_1 i) (by decide) rfl ?_
        refine V_goto (tgt := 25) C d_Mo_order_41 (by decide) ?_
        refine V_pick [0, 1] rfl ?_
        refine V_io (show up4 (setL ι (flL (bg0 L) 64 i (-1))) 64 0 0 i (-1) = setL ι (flL (bg0 L) 64 (i + 1) (-1)) by rw [setL_up rfl, flL_s]) ?_
        exact ih (i + 1) (by omega) (by omega)
  refine V_aload_n C d_Mo_order_0 rfl ?_
  refine V_aload_n C d_Mo_order_1 rfl ?_
  refine V_getI (kx := 20) C d_Mo_order_2 cf_Mo (by decide) k_Mo_176 hM.al rfl ?_
  refine V_putI (kx := 41) C d_Mo_order_5 cf_Mo (by decide) k_Mo_170 hM.al rfl rfl rfl rfl ?_
  refine V_aload_n C d_Mo_order_8 rfl ?_
  refine V_iconst (v := 0) C d_Mo_order_9 (by decide) ?_
  refine V_putI (kx := 31) C d_Mo_order_10 cf_Mo (by decide) k_Mo_173 hM.al rfl rfl rfl rfl ?_
  refine V_aload_n C d_Mo_order_13 rfl ?_
  refine V_iconst (v := 0) C d_Mo_order_14 (by decide) ?_
  refine V_putI (kx := 30) C d_Mo_order_15 cf_Mo (by decide) k_Mo_179 hM.al rfl rfl rfl rfl ?_
  refine V_aload_n C d_Mo_order_18 rfl ?_
  refine V_iconst (v := 0) C d_Mo_order_19 (by decide) ?_
  refine V_putI (kx := 32) C d_Mo_order_20 cf_Mo (by decide) k_Mo_182 hM.al rfl rfl rfl rfl ?_
  refine V_iconst (v := 0) C d_Mo_order_23 (by decide) ?_
  refine V_istore_n (lv' := [(1, _), (0, _)]) C d_Mo_order_24 (by decide) rfl ?_
  refine V_pick [0, 1] rfl ?_
  refine V_io (show _ = setL ι (flL (bg0 L) 64 0 (-1)) by rw [flL_0, setL_up rfl, setL_up rfl, setL_up rfl, setL_up rfl]; rfl) ?_
  exact fl9 97 0 (by omega) (by omega)
