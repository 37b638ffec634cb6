/-- the bytes of a number, the highest first -/
def bys (v : Int32) (w : Nat) : List Int32 := (List.range w).map (byA v w)
theorem bys_len {v : Int32} {w : Nat} : (bys v w).length = w := by simp [bys]
def wrS (ι : Io) (l : List Int32) : Io := up4 (filF ι 78 0 l.length (fun k => l.getD k 0)) 10 0 0 37 (nI l.length)
theorem wr_say {ι : Io} {l : List Int32} {v : Int32} {w : Nat} : up4 (filF (wrS ι l) 78 l.length w (byA v w)) 10 0 0 37 (nI (l.length + w)) = wrS ι (l ++ bys v w) := by
  funext r i j k
  unfold wrS up4 filF
  rw [List.length_append, bys_len]
  by_cases h1 : r = 10 ∧ i = 0 ∧ j = 0 ∧ k = 37
  · rw [if_pos h1, if_pos h1]
  · rw [if_neg h1, if_neg h1]
    by_cases h2 : r = 78 ∧ i = 0 ∧ j = 0 ∧ l.length ≤ k ∧ k < l.length + w
    · rw [if_pos h2, if_pos (by omega)]
      obtain ⟨_, _, _, h3, h4⟩ := h2
      simp only [Nat.sub_zero, List.getD_eq_getElem?_getD]
      rw [List.getElem?_append_right h3]
      unfold bys
      rw [List.getElem?_map, List.getElem?_range (by omega)]
      rfl
    · rw [if_neg h2]
      dsimp only
      rw [if_neg h1]
      by_cases h3 : r = 78 ∧ i = 0 ∧ j = 0 ∧ 0 ≤ k ∧ k < 0 + l.length
      · rw [if_pos h3, if_pos (by omega)]
        simp only [Nat.sub_zero, List.getD_eq_getElem?_getD]
        rw [List.getElem?_append_left (by omega)]
      · rw [if_neg h3, if_neg (by omega)]
theorem k_say {ν : Nu} {ι : Io} {ρ : Ro} {ℓ : Lo} (hM : MoS ν ρ) {l : List Int32} {w : Nat} (hw : w ≤ 4) (hn : l.length + w ≤ 1400) {v : Int32} : Ct y_Mo_say (Cond.code y_Mo_say b_Mo_say 4 none :: tb_) { frames := 0, cells := 0, slots := 0, locals := 0 } [sR 10 0 0, sI v, sI (nI w)] ν (wrS ι l) ρ ℓ (pEq none ν (wrS ι (l ++ bys v w)) ρ ℓ) (noX) := by
  have h := c_Mo_say (ι := wrS ι l) (ℓ := ℓ) hM (n0 := l.length) (w := w) up4_s hw hn (v := v)
  rw [wr_say] at h
  exact h
def datB (ι : Io) (s n : Nat) : List Int32 := (List.range n).flatMap (fun k => bys (ι 46 0 0 (128 * s + k)) 1)
theorem datB_s {ι : Io} {s n : Nat} : datB ι s (n + 1) = datB ι s n ++ bys (ι 46 0 0 (128 * s + n)) 1 := by
  unfold datB
  rw [List.range_succ, List.flatMap_append]
  simp
theorem datB_len {ι : Io} {s n : Nat} : (datB ι s n).length = n := by
  induction n with
  | zero => rfl
  | succ n ih => rw [datB_s, List.length_append, ih, bys_len]
def hd4 (ι : Io) (s : Nat) : List Int32 := bys (ι 43 0 0 s) 1 ++ bys (ι 44 0 0 s) 1 ++ bys (ι 45 0 0 s) 2
def secB (ι : Io) (s : Nat) : List Int32 := hd4 ι s ++ (if ι 43 0 0 s = 3 then [] else datB ι s (mn ι 45 s))
def namB (ι : Io) (i : Nat) : List Int32 := bys (ι 48 0 0 i) 4 ++ bys (ι 49 0 0 i) 1 ++ bys (ι 50 0 0 i) 1 ++ bys (ι 51 0 0 i) 2
def refB (ι : Io) (r : Nat) : List Int32 := bys (ι 53 0 0 r) 1 ++ bys (ι 54 0 0 r) 2 ++ bys (ι 55 0 0 r) 1 ++ bys (ι 56 0 0 r) 1 ++ bys (ι 57 0 0 r) 4
def wlG (f : Nat → List Int32) (a n : Nat) : List Int32 := (List.range n).flatMap (fun k => f (a + k))
theorem wlG_s {f : Nat → List Int32} {a n : Nat} : wlG f a (n + 1) = wlG f a n ++ f (a + n) := by
  unfold wlG
  rw [List.range_succ, List.flatMap_append]
  simp
def hdB (ι : Io) (t : Nat) : List Int32 := bys 79 1 ++ bys 66 1 ++ bys (ι 42 0 0 t) 1 ++ bys (ι 47 0 0 t) 1 ++ bys (ι 52 0 0 t) 1
def wlA (ι : Io) (t : Nat) : List Int32 := hdB ι t ++ wlG (secB ι) (8 * t) (mn ι 42 t) ++ wlG (namB ι) (12 * t) (mn ι 47 t) ++ wlG (refB ι) (16 * t) (mn ι 52 t)
def suL (l : List Int32) : Int32 := sumR (fun k => l.getD k 0) l.length &&& 65535
def wlF (ι : Io) (t : Nat) : List Int32 := wlA ι t ++ bys (suL (wlA ι t)) 2
theorem sumR_c {f g : Nat → Int32} {n : Nat} (h : ∀ k, k < n → f k = g k) : sumR f n = sumR g n := by
  induction n with
  | zero => rfl
  | succ n ih => unfold sumR; rw [ih (fun k hk => h k (by omega)), h n (by omega)]
theorem wr_sum {ι : Io} {l : List Int32} : sumR (wrS ι l 78 0 0) l.length &&& 65535 = suL l := by
  unfold suL
  rw [sumR_c (g := fun k => l.getD k 0)]
  intro k hk
  exact (up4_ne (by omega)).trans (if_pos (by omega))
set_option maxHeartbeats 1000000 in
set_option maxRecDepth 10000 in
theorem c_Mo_write {ν : Nu} {ι : Io} {ρ : Ro} {ℓ : Lo} (hM : MoS ν ρ) {t : Nat} (ht : t < 12) (hob : isOb ι (nI t)) (hs : bd ι 42 13 8) (hn9 : bd ι 47 13 12) (hr9 : bd ι 52 13 16) (hle : bd ι 45 104 128) : Ct y_Mo_write (Cond.code y_Mo_write b_Mo_write 4 (some .int) :: tb_) { frames := 2, cells := 0, slots := 0, locals := 43 } [sR 10 0 0, sI (nI t)] ν ι ρ ℓ (pEq (some (sI (nI (wlF ι t).length))) ν (wrS (z0 ι) (wlF ι t)) ρ ℓ) (noX) := by
  refine Ct.ofV (by decide) (Nat.le_of_ble_eq_true rfl) rfl ?_
  intro p l e s m args below meth c D B tW α0 Q C hQ
  have c8 := hs.le (t := t) (by omega)
  have c12 := hn9.le (t := t) (by omega)
  have c16 := hr9.le (t := t) (by omega)
  have refs : ∀ (f : Nat) (i : Nat) (l9 : List Int32), mn ι 52 t - i < f → (i ≤ mn ι 52 t) → (l9 = hdB ι t ++ wlG (secB ι) (8 * t) (mn ι 42 t) ++ wlG (namB ι) (12 * t) (mn ι 47 t) ++ wlG (refB ι) (16 * t) i) → (l9.length ≤ 1157 + 9 * i) → V p l e { frames := 2, cells := 0, slots := 0, locals := 43 } s m args below meth c D B α0 ν 4 Q 0 0 ν (wrS (z0 ι) l9) ρ ℓ 241 [(2, sI (nI (16 * t + i))), (0, sR 10 0 0), (1, sI (nI t))] [] := by
    intro f
    induction f with
    | zero => intros; omega
    | succ f ih =>
      intro i l9 hf hi0 hl hlen
      refine V_iload_n C d_Mo_write_241 rfl ?_
      refine V_bipush (v := 16) C d_Mo_write_242 (by decide) ?_
      refine V_iload_n C d_Mo_write_244 rfl ?_
      refine V_imul C d_Mo_write_245 ?_
      refine V_aload_n C d_Mo_write_246 rfl ?_
      refine V_getR (kx := 12) C d_Mo_write_247 cf_Mo (by decide) k_Mo_40 hM.al rfl hM.r12 ?_
      refine V_iload_n C d_Mo_write_250 rfl ?_
      refine V_iald C d_Mo_write_251 (by decide) rfl hM.n12 rfl (by omega) rfl ?_
      refine V_eqi (y := nI (mn ι 52 t)) (hr9.eq (t := t) (by omega)) ?_
      refine V_iadd C d_Mo_write_252 ?_
      refine V_eqi (ixa 16 t (mn ι 52 t)) ?_
      refine V_icmp_ge (tgt := 317) C d_Mo_write_253 (by decide) (fun h253 => ?_) (fun h253 => ?_)
      · have hi : i = mn ι 52 t := by have := (nI_leI (by omega) (by omega)).mp h253; omega
        refine V_aload_n C d_Mo_write_317 rfl ?_
        refine V_aload_n C d_Mo_write_318 rfl ?_
        refine V_getI (kx := 37) C d_Mo_write_319 cf_Mo (by decide) k_Mo_252 hM.al rfl ?_
        refine V_eqi (y := nI l9.length) up4_s ?_
        refine V_callV (as := [_]) C d_Mo_write_322 (c_Mo_sumOf hM (n := l9.length) (by omega)) m_Mo_sumOf cf_Mo k_Mo_259 hM.al ⟨by decide, by decide⟩ (Nat.le_of_ble_eq_true rfl) ⟨by decide, by decide⟩ rfl ?_
        rintro _ _ _ _ _ ⟨rfl, rfl, rfl, rfl, rfl⟩
        dsimp only [Option.toList, List.cons_append, List.nil_append]
        refine V_eqi (y := suL l9) wr_sum ?_
        refine V_istore_n (lv' := [(2, _), (0, _), (1, _)]) C d_Mo_write_325 (by decide) rfl ?_
        refine V_aload_n C d_Mo_write_326 rfl ?_
        refine V_iload_n C d_Mo_write_327 rfl ?_
        refine V_iconst (v := 2) C d_Mo_write_328 (by decide) ?_
        refine V_callV (as := [_, _]) C d_Mo_write_329 (k_say hM (w := 2) (by omega) (by (try simp only [List.length_append, bys_len, List.length_nil]); omega)) m_Mo_say cf_Mo k_Mo_256 hM.al ⟨by decide, by decide⟩ (Nat.le_of_ble_eq_true rfl) ⟨by decide, by decide⟩ rfl ?_
        rintro _ _ _ _ _ ⟨rfl, rfl, rfl, rfl, rfl⟩
        dsimp only [Option.toList, List.cons_append, List.nil_append]
        refine V_aload_n C d_Mo_write_332 rfl ?_
        refine V_getI (kx := 37) C d_Mo_write_333 cf_Mo (by decide) k_Mo_252 hM.al rfl ?_
        refine V_iret C hQ (by decide) (by decide) d_Mo_write_336 rfl ?_
        have hl2 : l9 = wlA ι t := by rw [hl, hi]; rfl
        refine ⟨congrArg (fun z => some (sI z)) ?_, rfl, ?_, rfl, rfl⟩
        · unfold wlF
          rw [← hl2]
          exact up4_s.symm
        · unfold wlF
          rw [← hl2]
      · have hi : i < mn ι 52 t := Nat.lt_of_not_le fun z => h253 ((nI_leI (by omega) (by omega)).mpr (by omega))
        refine V_aload_n C d_Mo_write_256 rfl ?_
        refine V_aload_n C d_Mo_write_257 rfl ?_
        refine V_getR (kx := 13) C d_Mo_write_258 cf_Mo (by decide) k_Mo_43 hM.al rfl hM.r13 ?_
        refine V_iload_n C d_Mo_write_261 rfl ?_
        refine V_iald C d_Mo_write_262 (by decide) rfl hM.n13 rfl (by omega) rfl ?_
        refine V_eqi (y := ι 53 0 0 (16 * t + i)) rfl ?_
        refine V_iconst (v := 1) C d_Mo_write_263 (by decide) ?_
        refine V_callV (as := [_, _]) C d_Mo_write_264 (k_say hM (w := 1) (by omega) (by (try simp only [List.length_append, bys_len, List.length_nil]); omega)) m_Mo_say cf_Mo k_Mo_256 hM.al ⟨by decide, by decide⟩ (Nat.le_of_ble_eq_true rfl) ⟨by decide, by decide⟩ rfl ?_
        rintro _ _ _ _ _ ⟨rfl, rfl, rfl, rfl, rfl⟩
        dsimp only [Option.toList, List.cons_append, List.nil_append]
        refine V_aload_n C d_Mo_write_267 rfl ?_
        refine V_aload_n C d_Mo_write_268 rfl ?_
        refine V_getR (kx := 14) C d_Mo_write_269 cf_Mo (by decide) k_Mo_46 hM.al rfl hM.r14 ?_
        refine V_iload_n C d_Mo_write_272 rfl ?_
        refine V_iald C d_Mo_write_273 (by decide) rfl hM.n14 rfl (by omega) rfl ?_
        refine V_eqi (y := ι 54 0 0 (16 * t + i)) rfl ?_
        refine V_iconst (v := 2) C d_Mo_write_274 (by decide) ?_
        refine V_callV (as := [_, _]) C d_Mo_write_275 (k_say hM (w := 2) (by omega) (by (try simp only [List.length_append, bys_len, List.length_nil]); omega)) m_Mo_say cf_Mo k_Mo_256 hM.al ⟨by decide, by decide⟩ (Nat.le_of_ble_eq_true rfl) ⟨by decide, by decide⟩ rfl ?_
        rintro _ _ _ _ _ ⟨rfl, rfl, rfl, rfl, rfl⟩
        dsimp only [Option.toList, List.cons_append, List.nil_append]
        refine V_aload_n C d_Mo_write_278 rfl ?_
        refine V_aload_n C d_Mo_write_279 rfl ?_
        refine V_getR (kx := 15) C d_Mo_write_280 cf_Mo (by decide) k_Mo_49 hM.al rfl hM.r15 ?_
        refine V_iload_n C d_Mo_write_283 rfl ?_
        refine V_iald C d_Mo_write_284 (by decide) rfl hM.n15 rfl (by omega) rfl ?_
        refine V_eqi (y := ι 55 0 0 (16 * t + i)) rfl ?_
        refine V_iconst (v := 1) C d_Mo_write_285 (by decide) ?_
        refine V_callV (as := [_, _]) C d_Mo_write_286 (k_say hM (w := 1) (by omega) (by (try simp only [List.length_append, bys_len, List.length_nil]); omega)) m_Mo_say cf_Mo k_Mo_256 hM.al ⟨by decide, by decide⟩ (Nat.le_of_ble_eq_true rfl) ⟨by decide, by decide⟩ rfl ?_
        rintro _ _ _ _ _ ⟨rfl, rfl, rfl, rfl, rfl⟩
        dsimp only [Option.toList, List.cons_append, List.nil_append]
        refine V_aload_n C d_Mo_write_289 rfl ?_
        refine V_aload_n C d_Mo_write_290 rfl ?_
        refine V_getR (kx := 16) C d_Mo_write_291 cf_Mo (by decide) k_Mo_52 hM.al rfl hM.r16 ?_
        refine V_iload_n C d_Mo_write_294 rfl ?_
        refine V_iald C d_Mo_write_295 (by decide) rfl hM.n16 rfl (by omega) rfl ?_
        refine V_eqi (y := ι 56 0 0 (16 * t + i)) rfl ?_
        refine V_iconst (v := 1) C d_Mo_write_296 (by decide) ?_
        refine V_callV (as := [_, _]) C d_Mo_write_297 (k_say hM (w := 1) (by omega) (by (try simp only [List.length_append, bys_len, List.length_nil]); omega)) m_Mo_say cf_Mo k_Mo_256 hM.al ⟨by decide, by decide⟩ (Nat.le_of_ble_eq_true rfl) ⟨by decide, by decide⟩ rfl ?_
        rintro _ _ _ _ _ ⟨rfl, rfl, rfl, rfl, rfl⟩
        dsimp only [Option.toList, List.cons_append, List.nil_append]
        refine V_aload_n C d_Mo_write_300 rfl ?_
        refine V_aload_n C d_Mo_write_301 rfl ?_
        refine V_getR (kx := 17) C d_Mo_write_302 cf_Mo (by decide) k_Mo_55 hM.al rfl hM.r17 ?_
        refine V_iload_n C d_Mo_write_305 rfl ?_
        refine V_iald C d_Mo_write_306 (by decide) rfl hM.n17 rfl (by omega) rfl ?_
        refine V_eqi (y := ι 57 0 0 (16 * t + i)) rfl ?_
        refine V_iconst (v := 4) C d_Mo_write_307 (by decide) ?_
        refine V_callV (as := [_, _]) C d_Mo_write_308 (k_say hM (w := 4) (by omega) (by (try simp only [List.length_append, bys_len, List.length_nil]); omega)) m_Mo_say cf_Mo k_Mo_256 hM.al ⟨by decide, by decide⟩ (Nat.le_of_ble_eq_true rfl) ⟨by decide, by decide⟩ rfl ?_
        rintro _ _ _ _ _ ⟨rfl, rfl, rfl, rfl, rfl⟩
        dsimp only [Option.toList, List.cons_append, List.nil_append]
        refine V_iinc (v := nI (16 * t + (i + 1))) (lv' := [(2, _), (0, _), (1, _)]) C d_Mo_write_311 rfl (nI_1 _) (by decide) rfl ?_
        refine V_goto (tgt := 241) C d_Mo_write_314 (by decide) ?_
        refine V_pick [0, 1, 2] rfl ?_
        exact ih (i + 1) _ (by omega) (by omega) (by rw [wlG_s, hl]; simp only [refB, List.append_assoc]) (by (try simp only [List.length_append, bys_len]); omega)
  have nams : ∀ (f : Nat) (i : Nat) (l9 : List Int32), mn ι 47 t - i < f → (i ≤ mn ι 47 t) → (l9 = hdB ι t ++ wlG (secB ι) (8 * t) (mn ι 42 t) ++ wlG (namB ι) (12 * t) i) → (l9.length ≤ 1061 + 8 * i) → V p l e { frames := 2, cells := 0, slots := 0, locals := 43 } s m args below meth c D B α0 ν 4 Q 0 0 ν (wrS (z0 ι) l9) ρ ℓ 171 [(2, sI (nI (12 * t + i))), (0, sR 10 0 0), (1, sI (nI t))] [] := by
    intro f
    induction f with
    | zero => intros; omega
    | succ f ih =>
      intro i l9 hf hi0 hl hlen
      refine V_iload_n C d_Mo_write_171 rfl ?_
      refine V_bipush (v := 12) C d_Mo_write_172 (by decide) ?_
      refine V_iload_n C d_Mo_write_174 rfl ?_
      refine V_imul C d_Mo_write_175 ?_
      refine V_aload_n C d_Mo_write_176 rfl ?_
      refine V_getR (kx := 7) C d_Mo_write_177 cf_Mo (by decide) k_Mo_25 hM.al rfl hM.r7 ?_
      refine V_iload_n C d_Mo_write_180 rfl ?_
      refine V_iald C d_Mo_write_181 (by decide) rfl hM.n7 rfl (by omega) rfl ?_
      refine V_eqi (y := nI (mn ι 47 t)) (hn9.eq (t := t) (by omega)) ?_
      refine V_iadd C d_Mo_write_182 ?_
      refine V_eqi (ixa 12 t (mn ι 47 t)) ?_
      refine V_icmp_ge (tgt := 236) C d_Mo_write_183 (by decide) (fun h183 => ?_) (fun h183 => ?_)
      · have hi : i = mn ι 47 t := by have := (nI_leI (by omega) (by omega)).mp h183; omega
        refine V_bipush (v := 16) C d_Mo_write_236 (by decide) ?_
        refine V_iload_n C d_Mo_write_238 rfl ?_
        refine V_imul C d_Mo_write_239 ?_
        refine V_eqi (y := nI (16 * t + 0)) (pk_mul 16 t) ?_
        refine V_istore_n (lv' := [(2, _), (0, _), (1, _)]) C d_Mo_write_240 (by decide) rfl ?_
        refine V_pick [0, 1, 2] rfl ?_
        exact refs (mn ι 52 t + 1) 0 _ (by omega) (by omega) (by rw [hl, hi]; exact (List.append_nil _).symm) (by omega)
      · have hi : i < mn ι 47 t := Nat.lt_of_not_le fun z => h183 ((nI_leI (by omega) (by omega)).mpr (by omega))
        refine V_aload_n C d_Mo_write_186 rfl ?_
        refine V_aload_n C d_Mo_write_187 rfl ?_
        refine V_getR (kx := 8) C d_Mo_write_188 cf_Mo (by decide) k_Mo_28 hM.al rfl hM.r8 ?_
        refine V_iload_n C d_Mo_write_191 rfl ?_
        refine V_iald C d_Mo_write_192 (by decide) rfl hM.n8 rfl (by omega) rfl ?_
        refine V_eqi (y := ι 48 0 0 (12 * t + i)) rfl ?_
        refine V_iconst (v := 4) C d_Mo_write_193 (by decide) ?_
        refine V_callV (as := [_, _]) C d_Mo_write_194 (k_say hM (w := 4) (by omega) (by (try simp only [List.length_append, bys_len, List.length_nil]); omega)) m_Mo_say cf_Mo k_Mo_256 hM.al ⟨by decide, by decide⟩ (Nat.le_of_ble_eq_true rfl) ⟨by decide, by decide⟩ rfl ?_
        rintro _ _ _ _ _ ⟨rfl, rfl, rfl, rfl, rfl⟩
        dsimp only [Option.toList, List.cons_append, List.nil_append]
        refine V_aload_n C d_Mo_write_197 rfl ?_
        refine V_aload_n C d_Mo_write_198 rfl ?_
        refine V_getR (kx := 9) C d_Mo_write_199 cf_Mo (by decide) k_Mo_31 hM.al rfl hM.r9 ?_
        refine V_iload_n C d_Mo_write_202 rfl ?_
        refine V_iald C d_Mo_write_203 (by decide) rfl hM.n9 rfl (by omega) rfl ?_
        refine V_eqi (y := ι 49 0 0 (12 * t + i)) rfl ?_
        refine V_iconst (v := 1) C d_Mo_write_204 (by decide) ?_
        refine V_callV (as := [_, _]) C d_Mo_write_205 (k_say hM (w := 1) (by omega) (by (try simp only [List.length_append, bys_len, List.length_nil]); omega)) m_Mo_say cf_Mo k_Mo_256 hM.al ⟨by decide, by decide⟩ (Nat.le_of_ble_eq_true rfl) ⟨by decide, by decide⟩ rfl ?_
        rintro _ _ _ _ _ ⟨rfl, rfl, rfl, rfl, rfl⟩
        dsimp only [Option.toList, List.cons_append, List.nil_append]
        refine V_aload_n C d_Mo_write_208 rfl ?_
        refine V_aload_n C d_Mo_write_209 rfl ?_
        refine V_getR (kx := 10) C d_Mo_write_210 cf_Mo (by decide) k_Mo_34 hM.al rfl hM.r10 ?_
        refine V_iload_n C d_Mo_write_213 rfl ?_
        refine V_iald C d_Mo_write_214 (by decide) rfl hM.n10 rfl (by omega) rfl ?_
        refine V_eqi (y := ι 50 0 0 (12 * t + i)) rfl ?_
        refine V_iconst (v := 1) C d_Mo_write_215 (by decide) ?_
        refine V_callV (as := [_, _]) C d_Mo_write_216 (k_say hM (w := 1) (by omega) (by (try simp only [List.length_append, bys_len, List.length_nil]); omega)) m_Mo_say cf_Mo k_Mo_256 hM.al ⟨by decide, by decide⟩ (Nat.le_of_ble_eq_true rfl) ⟨by decide, by decide⟩ rfl ?_
        rintro _ _ _ _ _ ⟨rfl, rfl, rfl, rfl, rfl⟩
        dsimp only [Option.toList, List.cons_append, List.nil_append]
        refine V_aload_n C d_Mo_write_219 rfl ?_
        refine V_aload_n C d_Mo_write_220 rfl ?_
        refine V_getR (kx := 11) C d_Mo_write_221 cf_Mo (by decide) k_Mo_37 hM.al rfl hM.r11 ?_
        refine V_iload_n C d_Mo_write_224 rfl ?_
        refine V_iald C d_Mo_write_225 (by decide) rfl hM.n11 rfl (by omega) rfl ?_
        refine V_eqi (y := ι 51 0 0 (12 * t + i)) rfl ?_
        refine V_iconst (v := 2) C d_Mo_write_226 (by decide) ?_
        refine V_callV (as := [_, _]) C d_Mo_write_227 (k_say hM (w := 2) (by omega) (by (try simp only [List.length_append, bys_len, List.length_nil]); omega)) m_Mo_say cf_Mo k_Mo_256 hM.al ⟨by decide, by decide⟩ (Nat.le_of_ble_eq_true rfl) ⟨by decide, by decide⟩ rfl ?_
        rintro _ _ _ _ _ ⟨rfl, rfl, rfl, rfl, rfl⟩
        dsimp only [Option.toList, List.cons_append, List.nil_append]
        refine V_iinc (v := nI (12 * t + (i + 1))) (lv' := [(2, _), (0, _), (1, _)]) C d_Mo_write_230 rfl (nI_1 _) (by decide) rfl ?_
        refine V_goto (tgt := 171) C d_Mo_write_233 (by decide) ?_
        refine V_pick [0, 1, 2] rfl ?_
        exact ih (i + 1) _ (by omega) (by omega) (by rw [wlG_s, hl]; simp only [namB, List.append_assoc]) (by (try simp only [List.length_append, bys_len]); omega)
  have secs : ∀ (f : Nat) (i : Nat) (l9 : List Int32), mn ι 42 t - i < f → (i ≤ mn ι 42 t) → (l9 = hdB ι t ++ wlG (secB ι) (8 * t) i) → (l9.length ≤ 5 + 132 * i) → V p l e { frames := 2, cells := 0, slots := 0, locals := 43 } s m args below meth c D B α0 ν 4 Q 0 0 ν (wrS (z0 ι) l9) ρ ℓ 67 [(2, sI (nI (8 * t + i))), (0, sR 10 0 0), (1, sI (nI t))] [] := by
    intro f
    induction f with
    | zero => intros; omega
    | succ f ih =>
      intro i l9 hf hi0 hl hlen
      refine V_iload_n C d_Mo_write_67 rfl ?_
      refine V_bipush (v := 8) C d_Mo_write_68 (by decide) ?_
      refine V_iload_n C d_Mo_write_70 rfl ?_
      refine V_imul C d_Mo_write_71 ?_
      refine V_aload_n C d_Mo_write_72 rfl ?_
      refine V_getR (kx := 2) C d_Mo_write_73 cf_Mo (by decide) k_Mo_7 hM.al rfl hM.r2 ?_
      refine V_iload_n C d_Mo_write_76 rfl ?_
      refine V_iald C d_Mo_write_77 (by decide) rfl hM.n2 rfl (by omega) rfl ?_
      refine V_eqi (y := nI (mn ι 42 t)) (hs.eq (t := t) (by omega)) ?_
      refine V_iadd C d_Mo_write_78 ?_
      refine V_eqi (ixa 8 t (mn ι 42 t)) ?_
      refine V_icmp_ge (tgt := 166) C d_Mo_write_79 (by decide) (fun h79 => ?_) (fun h79 => ?_)
      · have hi : i = mn ι 42 t := by have := (nI_leI (by omega) (by omega)).mp h79; omega
        refine V_bipush (v := 12) C d_Mo_write_166 (by decide) ?_
        refine V_iload_n C d_Mo_write_168 rfl ?_
        refine V_imul C d_Mo_write_169 ?_
        refine V_eqi (y := nI (12 * t + 0)) (pk_mul 12 t) ?_
        refine V_istore_n (lv' := [(2, _), (0, _), (1, _)]) C d_Mo_write_170 (by decide) rfl ?_
        refine V_pick [0, 1, 2] rfl ?_
        exact nams (mn ι 47 t + 1) 0 _ (by omega) (by omega) (by rw [hl, hi]; exact (List.append_nil _).symm) (by omega)
      · have hi : i < mn ι 42 t := Nat.lt_of_not_le fun z => h79 ((nI_leI (by omega) (by omega)).mpr (by omega))
        refine V_aload_n C d_Mo_write_82 rfl ?_
        refine V_aload_n C d_Mo_write_83 rfl ?_
        refine V_getR (kx := 3) C d_Mo_write_84 cf_Mo (by decide) k_Mo_13 hM.al rfl hM.r3 ?_
        refine V_iload_n C d_Mo_write_87 rfl ?_
        refine V_iald C d_Mo_write_88 (by decide) rfl hM.n3 rfl (by omega) rfl ?_
        refine V_eqi (y := ι 43 0 0 (8 * t + i)) rfl ?_
        refine V_iconst (v := 1) C d_Mo_write_89 (by decide) ?_
        refine V_callV (as := [_, _]) C d_Mo_write_90 (k_say hM (w := 1) (by omega) (by (try simp only [List.length_append, bys_len, List.length_nil]); omega)) m_Mo_say cf_Mo k_Mo_256 hM.al ⟨by decide, by decide⟩ (Nat.le_of_ble_eq_true rfl) ⟨by decide, by decide⟩ rfl ?_
        rintro _ _ _ _ _ ⟨rfl, rfl, rfl, rfl, rfl⟩
        dsimp only [Option.toList, List.cons_append, List.nil_append]
        refine V_aload_n C d_Mo_write_93 rfl ?_
        refine V_aload_n C d_Mo_write_94 rfl ?_
        refine V_getR (kx := 4) C d_Mo_write_95 cf_Mo (by decide) k_Mo_16 hM.al rfl hM.r4 ?_
        refine V_iload_n C d_Mo_write_98 rfl ?_
        refine V_iald C d_Mo_write_99 (by decide) rfl hM.n4 rfl (by omega) rfl ?_
        refine V_eqi (y := ι 44 0 0 (8 * t + i)) rfl ?_
        refine V_iconst (v := 1) C d_Mo_write_100 (by decide) ?_
        refine V_callV (as := [_, _]) C d_Mo_write_101 (k_say hM (w := 1) (by omega) (by (try simp only [List.length_append, bys_len, List.length_nil]); omega)) m_Mo_say cf_Mo k_Mo_256 hM.al ⟨by decide, by decide⟩ (Nat.le_of_ble_eq_true rfl) ⟨by decide, by decide⟩ rfl ?_
        rintro _ _ _ _ _ ⟨rfl, rfl, rfl, rfl, rfl⟩
        dsimp only [Option.toList, List.cons_append, List.nil_append]
        refine V_aload_n C d_Mo_write_104 rfl ?_
        refine V_aload_n C d_Mo_write_105 rfl ?_
        refine V_getR (kx := 5) C d_Mo_write_106 cf_Mo (by decide) k_Mo_19 hM.al rfl hM.r5 ?_
        refine V_iload_n C d_Mo_write_109 rfl ?_
        refine V_iald C d_Mo_write_110 (by decide) rfl hM.n5 rfl (by omega) rfl ?_
        refine V_eqi (y := ι 45 0 0 (8 * t + i)) rfl ?_
        refine V_iconst (v := 2) C d_Mo_write_111 (by decide) ?_
        refine V_callV (as := [_, _]) C d_Mo_write_112 (k_say hM (w := 2) (by omega) (by (try simp only [List.length_append, bys_len, List.length_nil]); omega)) m_Mo_say cf_Mo k_Mo_256 hM.al ⟨by decide, by decide⟩ (Nat.le_of_ble_eq_true rfl) ⟨by decide, by decide⟩ rfl ?_
        rintro _ _ _ _ _ ⟨rfl, rfl, rfl, rfl, rfl⟩
        dsimp only [Option.toList, List.cons_append, List.nil_append]
        refine V_iconst (v := 0) C d_Mo_write_115 (by decide) ?_
        refine V_istore_n (lv' := [(3, _), (2, _), (0, _), (1, _)]) C d_Mo_write_116 (by decide) rfl ?_
        refine V_pick [0, 1, 2, 3] rfl ?_
        have hle9 := hle.le (t := 8 * t + i) (by omega)
        by_cases h3 : ι 43 0 0 (8 * t + i) = 3
        · skip
          refine V_iload_n C d_Mo_write_117 rfl ?_
          refine V_aload_n C d_Mo_write_118 rfl ?_
          refine V_getR (kx := 5) C d_Mo_write_119 cf_Mo (by decide) k_Mo_19 hM.al rfl hM.r5 ?_
          refine V_iload_n C d_Mo_write_122 rfl ?_
          refine V_iald C d_Mo_write_123 (by decide) rfl hM.n5 rfl (by omega) rfl ?_
          refine V_icmp_ge (tgt := 160) C d_Mo_write_124 (by decide) (fun h124 => ?_) (fun h124 => ?_)
          · refine V_iinc (v := nI (8 * t + (i + 1))) (lv' := [(2, _), (3, _), (0, _), (1, _)]) C d_Mo_write_160 rfl (nI_1 _) (by decide) rfl ?_
            refine V_goto (tgt := 67) C d_Mo_write_163 (by decide) ?_
            refine V_pick [0, 2, 3] rfl ?_
            exact ih (i + 1) _ (by omega) (by omega) (by rw [wlG_s, hl]; simp only [secB, hd4, if_pos h3, List.append_nil, List.append_assoc]) (by (try simp only [List.length_append, bys_len]); omega)
          · refine V_aload_n C d_Mo_write_127 rfl ?_
            refine V_getR (kx := 3) C d_Mo_write_128 cf_Mo (by decide) k_Mo_13 hM.al rfl hM.r3 ?_
            refine V_iload_n C d_Mo_write_131 rfl ?_
            refine V_iald C d_Mo_write_132 (by decide) rfl hM.n3 rfl (by omega) rfl ?_
            refine V_iconst (v := 3) C d_Mo_write_133 (by decide) ?_
            refine V_icmp_eq (tgt := 160) C d_Mo_write_134 (by decide) (fun h134 => ?_) (fun h134 => absurd h3 h134)
            refine V_iinc (v := nI (8 * t + (i + 1))) (lv' := [(2, _), (3, _), (0, _), (1, _)]) C d_Mo_write_160 rfl (nI_1 _) (by decide) rfl ?_
            refine V_goto (tgt := 67) C d_Mo_write_163 (by decide) ?_
            refine V_pick [0, 2, 3] rfl ?_
            exact ih (i + 1) _ (by omega) (by omega) (by rw [wlG_s, hl]; simp only [secB, hd4, if_pos h3, List.append_nil, List.append_assoc]) (by (try simp only [List.length_append, bys_len]); omega)
        · skip
          have dat : ∀ (f : Nat) (k : Nat) (l8 : List Int32), mn ι 45 (8 * t + i) - k < f → (k ≤ mn ι 45 (8 * t + i)) → (l8 = l9 ++ hd4 ι (8 * t + i) ++ datB ι (8 * t + i) k) → (l8.length ≤ l9.length + 4 + k) → V p l e { frames := 2, cells := 0, slots := 0, locals := 43 } s m args below meth c D B α0 ν 4 Q 0 0 ν (wrS (z0 ι) l8) ρ ℓ 117 [(3, sI (nI k)), (2, sI (nI (8 * t + i))), (0, sR 10 0 0), (1, sI (nI t))] [] := by
            intro f
            induction f with
            | zero => intros; omega
            | succ f ihd =>
                    intro k l8 hf2 hk0 hl2 hlen2
                    refine V_iload_n C d_Mo_write_117 rfl ?_
                    refine V_aload_n C d_Mo_write_118 rfl ?_
                    refine V_getR (kx := 5) C d_Mo_write_119 cf_Mo (by decide) k_Mo_19 hM.al rfl hM.r5 ?_
                    refine V_iload_n C d_Mo_write_122 rfl ?_
                    refine V_iald C d_Mo_write_123 (by decide) rfl hM.n5 rfl (by omega) rfl ?_
                    refine V_eqi (y := nI (mn ι 45 (8 * t + i))) (hle.eq (t := 8 * t + i) (by omega)) ?_
                    refine V_icmp_ge (tgt := 160) C d_Mo_write_124 (by decide) (fun h124 => ?_) (fun h124 => ?_)
                    · have hk : k = mn ι 45 (8 * t + i) := by have := (nI_leI (by omega) (by omega)).mp h124; omega
                      refine V_iinc (v := nI (8 * t + (i + 1))) (lv' := [(2, _), (3, _), (0, _), (1, _)]) C d_Mo_write_160 rfl (nI_1 _) (by decide) rfl ?_
                      refine V_goto (tgt := 67) C d_Mo_write_163 (by decide) ?_
                      refine V_pick [0, 2, 3] rfl ?_
                      exact ih (i + 1) _ (by omega) (by omega) (by rw [wlG_s, hl2, hl, hk]; simp only [secB, if_neg h3, List.append_assoc]) (by omega)
                    · have hk : k < mn ι 45 (8 * t + i) := Nat.lt_of_not_le fun z => h124 ((nI_leI (by omega) (by omega)).mpr z)
                      refine V_aload_n C d_Mo_write_127 rfl ?_
                      refine V_getR (kx := 3) C d_Mo_write_128 cf_Mo (by decide) k_Mo_13 hM.al rfl hM.r3 ?_
                      refine V_iload_n C d_Mo_write_131 rfl ?_
                      refine V_iald C d_Mo_write_132 (by decide) rfl hM.n3 rfl (by omega) rfl ?_
                      refine V_iconst (v := 3) C d_Mo_write_133 (by decide) ?_
                      refine V_icmp_eq (tgt := 160) C d_Mo_write_134 (by decide) (fun h134 => absurd h134 h3) (fun h134 => ?_)
                      refine V_aload_n C d_Mo_write_137 rfl ?_
                      refine V_aload_n C d_Mo_write_138 rfl ?_
                      refine V_getR (kx := 6) C d_Mo_write_139 cf_Mo (by decide) k_Mo_22 hM.al rfl hM.r6 ?_
                      refine V_sipush (v := 128) C d_Mo_write_142 (by decide) ?_
                      refine V_iload_n C d_Mo_write_145 rfl ?_
                      refine V_imul C d_Mo_write_146 ?_
                      refine V_iload_n C d_Mo_write_147 rfl ?_
                      refine V_iadd C d_Mo_write_148 ?_
                      refine V_iald C d_Mo_write_149 (by decide) rfl hM.n6 (ixa 128 (8 * t + i) k) (by omega) rfl ?_
                      refine V_eqi (y := ι 46 0 0 (128 * (8 * t + i) + k)) rfl ?_
                      refine V_iconst (v := 1) C d_Mo_write_150 (by decide) ?_
                      refine V_callV (as := [_, _]) C d_Mo_write_151 (k_say hM (w := 1) (by omega) (by (try simp only [List.length_append, bys_len, List.length_nil]); omega)) m_Mo_say cf_Mo k_Mo_256 hM.al ⟨by decide, by decide⟩ (Nat.le_of_ble_eq_true rfl) ⟨by decide, by decide⟩ rfl ?_
                      rintro _ _ _ _ _ ⟨rfl, rfl, rfl, rfl, rfl⟩
                      dsimp only [Option.toList, List.cons_append, List.nil_append]
                      refine V_iinc (v := nI (k + 1)) (lv' := [(3, _), (2, _), (0, _), (1, _)]) C d_Mo_write_154 rfl (nI_1 k) (by decide) rfl ?_
                      refine V_goto (tgt := 117) C d_Mo_write_157 (by decide) ?_
                      refine V_pick [0, 1, 2, 3] rfl ?_
                      exact ihd (k + 1) _ (by omega) (by omega) (by rw [datB_s, hl2, List.append_assoc]) (by (try simp only [List.length_append, bys_len]); omega)
          exact dat (mn ι 45 (8 * t + i) + 1) 0 _ (by omega) (by omega) (by simp only [datB, hd4, List.range_zero, List.flatMap_nil, List.append_nil, List.append_assoc]) (by (try simp only [List.length_append, bys_len]); omega)
  refine V_aload_n C d_Mo_write_0 rfl ?_
  refine V_iload_n C d_Mo_write_1 rfl ?_
  refine V_callV (as := [_]) C d_Mo_write_2 (c_Mo_isObject hM) m_Mo_isObject cf_Mo k_Mo_111 hM.al ⟨by decide, by decide⟩ (Nat.le_of_ble_eq_true rfl) ⟨by decide, by decide⟩ rfl ?_
  rintro _ _ _ _ _ ⟨rfl, rfl, rfl, rfl, rfl⟩
  rw [if_pos hob]
  dsimp only [Option.toList, List.cons_append, List.nil_append]
  refine V_if_ne (tgt := 10) C d_Mo_write_5 (by decide) (fun h5 => ?_) (fun h5 => absurd h5 (by rw [b2_t hob]; decide))
  refine V_aload_n C d_Mo_write_10 rfl ?_
  refine V_iconst (v := 0) C d_Mo_write_11 (by decide) ?_
  refine V_putI (kx := 37) C d_Mo_write_12 cf_Mo (by decide) k_Mo_252 hM.al rfl rfl rfl rfl ?_
  refine V_io (show _ = wrS (z0 ι) [] by unfold wrS; rw [show ([] : List Int32).length = 0 from rfl, filF_0]; rfl) ?_
  refine V_aload_n C d_Mo_write_15 rfl ?_
  refine V_bipush (v := 79) C d_Mo_write_16 (by decide) ?_
  refine V_iconst (v := 1) C d_Mo_write_18 (by decide) ?_
  refine V_callV (as := [_, _]) C d_Mo_write_19 (k_say hM (w := 1) (by omega) (by (try simp only [List.length_append, bys_len, List.length_nil]); omega)) m_Mo_say cf_Mo k_Mo_256 hM.al ⟨by decide, by decide⟩ (Nat.le_of_ble_eq_true rfl) ⟨by decide, by decide⟩ rfl ?_
  rintro _ _ _ _ _ ⟨rfl, rfl, rfl, rfl, rfl⟩
  dsimp only [Option.toList, List.cons_append, List.nil_append]
  refine V_aload_n C d_Mo_write_22 rfl ?_
  refine V_bipush (v := 66) C d_Mo_write_23 (by decide) ?_
  refine V_iconst (v := 1) C d_Mo_write_25 (by decide) ?_
  refine V_callV (as := [_, _]) C d_Mo_write_26 (k_say hM (w := 1) (by omega) (by (try simp only [List.length_append, bys_len, List.length_nil]); omega)) m_Mo_say cf_Mo k_Mo_256 hM.al ⟨by decide, by decide⟩ (Nat.le_of_ble_eq_true rfl) ⟨by decide, by decide⟩ rfl ?_
  rintro _ _ _ _ _ ⟨rfl, rfl, rfl, rfl, rfl⟩
  dsimp only [Option.toList, List.cons_append, List.nil_append]
  refine V_aload_n C d_Mo_write_29 rfl ?_
  refine V_aload_n C d_Mo_write_30 rfl ?_
  refine V_getR (kx := 2) C d_Mo_write_31 cf_Mo (by decide) k_Mo_7 hM.al rfl hM.r2 ?_
  refine V_iload_n C d_Mo_write_34 rfl ?_
  refine V_iald C d_Mo_write_35 (by decide) rfl hM.n2 rfl (by omega) rfl ?_
  refine V_eqi (y := ι 42 0 0 t) rfl ?_
  refine V_iconst (v := 1) C d_Mo_write_36 (by decide) ?_
  refine V_callV (as := [_, _]) C d_Mo_write_37 (k_say hM (w := 1) (by omega) (by (try simp only [List.length_append, bys_len, List.length_nil]); omega)) m_Mo_say cf_Mo k_Mo_256 hM.al ⟨by decide, by decide⟩ (Nat.le_of_ble_eq_true rfl) ⟨by decide, by decide⟩ rfl ?_
  rintro _ _ _ _ _ ⟨rfl, rfl, rfl, rfl, rfl⟩
  dsimp only [Option.toList, List.cons_append, List.nil_append]
  refine V_aload_n C d_Mo_write_40 rfl ?_
  refine V_aload_n C d_Mo_write_41 rfl ?_
  refine V_getR (kx := 7) C d_Mo_write_42 cf_Mo (by decide) k_Mo_25 hM.al rfl hM.r7 ?_
  refine V_iload_n C d_Mo_write_45 rfl ?_
  refine V_iald C d_Mo_write_46 (by decide) rfl hM.n7 rfl (by omega) rfl ?_
  refine V_eqi (y := ι 47 0 0 t) rfl ?_
  refine V_iconst (v := 1) C d_Mo_write_47 (by decide) ?_
  refine V_callV (as := [_, _]) C d_Mo_write_48 (k_say hM (w := 1) (by omega) (by (try simp only [List.length_append, bys_len, List.length_nil]); omega)) m_Mo_say cf_Mo k_Mo_256 hM.al ⟨by decide, by decide⟩ (Nat.le_of_ble_eq_true rfl) ⟨by decide, by decide⟩ rfl ?_
  rintro _ _ _ _ _ ⟨rfl, rfl, rfl, rfl, rfl⟩
  dsimp only [Option.toList, List.cons_append, List.nil_append]
  refine V_aload_n C d_Mo_write_51 rfl ?_
  refine V_aload_n C d_Mo_write_52 rfl ?_
  refine V_getR (kx := 12) C d_Mo_write_53 cf_Mo (by decide) k_Mo_40 hM.al rfl hM.r12 ?_
  refine V_iload_n C d_Mo_write_56 rfl ?_
  refine V_iald C d_Mo_write_57 (by decide) rfl hM.n12 rfl (by omega) rfl ?_
  refine V_eqi (y := ι 52 0 0 t) rfl ?_
  refine V_iconst (v := 1) C d_Mo_write_58 (by decide) ?_
  refine V_callV (as := [_, _]) C d_Mo_write_59 (k_say hM (w := 1) (by omega) (by (try simp only [List.length_append, bys_len, List.length_nil]); omega)) m_Mo_say cf_Mo k_Mo_256 hM.al ⟨by decide, by decide⟩ (Nat.le_of_ble_eq_true rfl) ⟨by decide, by decide⟩ rfl ?_
  rintro _ _ _ _ _ ⟨rfl, rfl, rfl, rfl, rfl⟩
  dsimp only [Option.toList, List.cons_append, List.nil_append]
  refine V_bipush (v := 8) C d_Mo_write_62 (by decide) ?_
  refine V_iload_n C d_Mo_write_64 rfl ?_
  refine V_imul C d_Mo_write_65 ?_
  refine V_eqi (y := nI (8 * t + 0)) (pk_mul 8 t) ?_
  refine V_istore_n (lv' := [(2, _), (0, _), (1, _)]) C d_Mo_write_66 (by decide) rfl ?_
  refine V_pick [0, 1, 2] rfl ?_
  exact secs (mn ι 42 t + 1) 0 _ (by omega) (by omega) (by simp [wlG, hdB]) (by simp only [List.length_append, bys_len, List.length_nil]; omega)
