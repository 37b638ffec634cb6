theorem up4_cx {ι : Io} {r i j k r2 i2 j2 k2 : Nat} {x y : Int32} (h : ¬ (r = r2 ∧ i = i2 ∧ j = j2 ∧ k = k2)) : up4 (up4 ι r i j k x) r2 i2 j2 k2 y = up4 (up4 ι r2 i2 j2 k2 y) r i j k x := by
  funext a b d e
  unfold up4
  grind
theorem sq_0 {ι : Io} {m fld : Nat} : sq ι m fld 0 = [] := rfl
def wkT (ι : Io) (c : Nat) (L : Ls) (j : Nat) : Ls := if L 10 25 = 0 ∧ L 61 (slR ι j) ≠ 0 then wkS ι c L j else L
def noL (L : Ls) : Ls := flL (up2 (up2 (up2 (up2 (up2 (up2 L 10 28 0) 10 29 0) 10 30 0) 10 31 0) 10 32 0) 10 34 0) 64 96 (-1)
theorem fil_set {ι : Io} {L : Ls} {r n : Nat} {x : Int32} (h : ∀ k, isL r k = true) : fil (setL ι L) r 0 n x = setL ι (flL L r n x) := by
  funext r' i j k
  unfold fil setL flL
  grind
def LE (ι : Io) (c : Nat) (L Lf : Ls) : Prop := (L 10 25 ≠ 0 ∧ Lf = noL (up2 L 10 28 0)) ∨ (L 10 25 = 0 ∧ knI ι c (up2 L 10 28 1) (sq ι 12 47 c) Lf)
def LR3 (ι : Io) (c : Nat) (L3 Lf : Ls) : Prop := (L3 10 25 ≠ 0 ∧ LE ι c L3 Lf) ∨ (L3 10 25 = 0 ∧ LE ι c ((sq ι 16 52 c).foldl (wkT ι c) (copL ι L3)) Lf)
def LR2 (ι : Io) (c : Nat) (L2 Lf : Ls) : Prop := (L2 10 25 ≠ 0 ∧ LE ι c L2 Lf) ∨ (L2 10 25 = 0 ∧ LR3 ι c (ordL ι c L2) Lf)
def LR (ι : Io) (c : Nat) (en : Int32) (L0 Lf : Ls) : Prop := ((sq ι 12 47 c).foldl (dbS ι c) L0 10 25 ≠ 0 ∧ LE ι c ((sq ι 12 47 c).foldl (dbS ι c) L0) Lf) ∨ ((sq ι 12 47 c).foldl (dbS ι c) L0 10 25 = 0 ∧ ∃ L1, Rd ι c en L1 ∧ (∀ r k, ¬ (r = 61 ∧ k < 96) → ¬ (r = 62 ∧ k < 144) → L1 r k = (if me ι c en < 0 then tlL ((sq ι 12 47 c).foldl (dbS ι c) L0) 2 (-1) en else (sq ι 12 47 c).foldl (dbS ι c) L0) r k) ∧ LR2 ι c ((sq ι 16 52 c).foldl (miS ι c) L1) Lf)
def bsL (ι : Io) (x : Int32) : Ls := up2 (up2 (up2 (up2 (up2 (curL ι) 10 0 0) 10 20 x) 10 25 0) 10 26 (-1)) 10 27 (-1)
theorem tl0_fr {L : Ls} {a b d : Int32} {r k : Nat} (h : ¬ (r = 10 ∧ 25 ≤ k ∧ k ≤ 27)) : tl0 L a b d r k = L r k := by
  unfold tl0 tlL
  split
  · rfl
  · split
    · rfl
    · rw [up2_ne (by omega), up2_ne (by omega), up2_ne (by omega)]
theorem tlL_fr2 {L : Ls} {a b d : Int32} {r k : Nat} (h : ¬ (r = 10 ∧ 25 ≤ k ∧ k ≤ 27)) : tlL L a b d r k = L r k := by
  unfold tlL
  split
  · rfl
  · rw [up2_ne (by omega), up2_ne (by omega), up2_ne (by omega)]
theorem wkT_fr {ι : Io} {c j r k : Nat} {L : Ls} (h : ¬ (r = 10 ∧ 25 ≤ k ∧ k ≤ 27)) (h2 : r ≠ 73) : wkT ι c L j r k = L r k := by
  unfold wkT
  split
  · unfold wkS
    split
    · exact tlL_fr2 h
    · unfold puL
      rw [show flF _ 73 _ _ _ r k = _ from if_neg (by omega)]
      exact tl0_fr h
  · rfl
theorem dbS_20 {ι : Io} {c i : Nat} {L : Ls} : dbS ι c L i 10 20 = L 10 20 := by
  unfold dbS
  split
  · exact tlL_20
  · rfl
theorem miS_20 {ι : Io} {c i : Nat} {L : Ls} : miS ι c L i 10 20 = L 10 20 := by
  unfold miS
  split
  · exact tlL_20
  · rfl
theorem i32_sw (x y z : Int32) : x + y - z = (x - z) + y := by grind
theorem copL_fr {ι : Io} {L : Ls} {r k : Nat} (h : r ≠ 73) : copL ι L r k = L r k := by
  unfold copL
  rw [fold_fr (fun L s => cpS_fr h)]
  exact if_neg (by omega)
theorem HL.pr {ι : Io} {c9 : Nat} {L L3 : Ls} (h : HL ι L3) (hf : ∀ r k, ¬ (r = 10 ∧ 25 ≤ k ∧ k ≤ 27) → r ≠ 73 → L r k = L3 r k) {j w : Nat} (K : LK ι c9) (hj : j ∈ sq ι 16 52 c9) (hr : L 61 (slR ι j) ≠ 0) (hw : mn ι 54 j + w ≤ mn ι 45 (slR ι j)) : ∃ a, pR ι L j - L 10 20 = nI a ∧ a + w ≤ 4096 := by
  obtain ⟨h1, h2⟩ := K.rf hj
  rw [hf 61 _ (by omega) (by omega)] at hr
  obtain ⟨a, h3, h4⟩ := h _ h1 hr
  refine ⟨a + mn ι 54 j, ?_, by omega⟩
  unfold pR
  rw [i32_sw, hf 64 _ (by omega) (by omega), hf 10 20 (by omega) (by omega), h3, K.b54.eq (t := j) (by omega), nI_add]
theorem k_noImage {ν : Nu} {ι : Io} {ρ : Ro} {ℓ : Lo} (hM : MoS ν ρ) {c9 : Nat} (K : LK ι c9) {L : Ls}  : Ct y_Mo_noImage (Cond.code y_Mo_noImage b_Mo_noImage 2 none :: tb_) { frames := 0, cells := 0, slots := 0, locals := 0 } [sR 10 0 0] ν (setL ι L) ρ ℓ (pEq none ν (setL ι (noL L)) ρ ℓ) (noX) := by
  have h := c_Mo_noImage (ι := setL ι L) (ℓ := ℓ) hM
  rw [setL_up rfl, setL_up rfl, setL_up rfl, setL_up rfl, setL_up rfl, setL_up rfl, fil_set (fun _ => rfl)] at h
  exact h
set_option maxHeartbeats 1000000 in
set_option maxRecDepth 10000 in
theorem c_Mo_link_b {ν : Nu} {ι : Io} {ρ : Ro} {ℓ : Lo} (hM : MoS ν ρ) {en x : Int32} (hx : ¬ (0 ≤ x ∧ x ≤ 1000000)) : Ct y_Mo_link (Cond.code y_Mo_link b_Mo_link 5 (some .int) :: tb_) { frames := 4, cells := 0, slots := 0, locals := 101 } [sR 10 0 0, sI en, sI x] ν ι ρ ℓ (pEq (some (sI 0)) ν (up4 ι 10 0 0 0 1) ρ ℓ) (noX) := by
  refine Ct.ofV (by decide) (Nat.le_of_ble_eq_true rfl) rfl ?_
  intro p l e s m args below meth c D B tW α0 Q C hQ
  refine V_aload_n C d_Mo_link_0 rfl ?_
  refine V_iconst (v := 0) C d_Mo_link_1 (by decide) ?_
  refine V_putI (kx := 0) C d_Mo_link_2 cf_Mo (by decide) k_Mo_93 hM.al rfl rfl rfl rfl ?_
  refine V_iload_n C d_Mo_link_5 rfl ?_
  refine V_iconst (v := 0) C d_Mo_link_6 (by decide) ?_
  refine V_ldc C d_Mo_link_7 k_Mo_229 ?_
  refine V_callS (as := [_, _, _]) C d_Mo_link_9 (c_Mo_within) m_Mo_within k_Mo_99 ⟨by decide, by decide⟩ (Nat.le_of_ble_eq_true rfl) ⟨by decide, by decide⟩ rfl ?_
  rintro _ _ _ _ _ ⟨rfl, rfl, rfl, rfl, rfl⟩
  dsimp only [Option.toList, List.cons_append, List.nil_append]
  refine V_if_ne (tgt := 21) C d_Mo_link_12 (by decide) (fun h12 => absurd (b2_n0.mp h12) hx) (fun h12 => ?_)
  refine V_aload_n C d_Mo_link_15 rfl ?_
  refine V_iconst (v := 1) C d_Mo_link_16 (by decide) ?_
  refine V_callV (as := [_]) C d_Mo_link_17 (c_Mo_fail hM) m_Mo_fail cf_Mo k_Mo_103 hM.al ⟨by decide, by decide⟩ (Nat.le_of_ble_eq_true rfl) ⟨by decide, by decide⟩ rfl ?_
  rintro _ _ _ _ _ ⟨rfl, rfl, rfl, rfl, rfl⟩
  dsimp only [Option.toList, List.cons_append, List.nil_append]
  refine V_iret C hQ (by decide) (by decide) d_Mo_link_20 rfl ?_
  exact ⟨rfl, rfl, up4_up4.symm, rfl, rfl⟩
set_option maxHeartbeats 1000000 in
set_option maxRecDepth 10000 in
theorem c_Mo_link_n {ν : Nu} {ι : Io} {ρ : Ro} {ℓ : Lo} (hM : MoS ν ρ) {en x : Int32} (hx : 0 ≤ x ∧ x ≤ 1000000) (hc : ι 10 0 0 18 = 0) : Ct y_Mo_link (Cond.code y_Mo_link b_Mo_link 5 (some .int) :: tb_) { frames := 4, cells := 0, slots := 0, locals := 101 } [sR 10 0 0, sI en, sI x] ν ι ρ ℓ (pEq (some (sI 0)) ν (up4 ι 10 0 0 0 2) ρ ℓ) (noX) := by
  refine Ct.ofV (by decide) (Nat.le_of_ble_eq_true rfl) rfl ?_
  intro p l e s m args below meth c D B tW α0 Q C hQ
  refine V_aload_n C d_Mo_link_0 rfl ?_
  refine V_iconst (v := 0) C d_Mo_link_1 (by decide) ?_
  refine V_putI (kx := 0) C d_Mo_link_2 cf_Mo (by decide) k_Mo_93 hM.al rfl rfl rfl rfl ?_
  refine V_iload_n C d_Mo_link_5 rfl ?_
  refine V_iconst (v := 0) C d_Mo_link_6 (by decide) ?_
  refine V_ldc C d_Mo_link_7 k_Mo_229 ?_
  refine V_callS (as := [_, _, _]) C d_Mo_link_9 (c_Mo_within) m_Mo_within k_Mo_99 ⟨by decide, by decide⟩ (Nat.le_of_ble_eq_true rfl) ⟨by decide, by decide⟩ rfl ?_
  rintro _ _ _ _ _ ⟨rfl, rfl, rfl, rfl, rfl⟩
  dsimp only [Option.toList, List.cons_append, List.nil_append]
  refine V_if_ne (tgt := 21) C d_Mo_link_12 (by decide) (fun h12 => ?_) (fun h12 => absurd hx (b2_0.mp h12))
  refine V_aload_n C d_Mo_link_21 rfl ?_
  refine V_getI (kx := 18) C d_Mo_link_22 cf_Mo (by decide) k_Mo_144 hM.al rfl ?_
  refine V_if_ne (tgt := 34) C d_Mo_link_25 (by decide) (fun h25 => absurd hc h25) (fun h25 => ?_)
  refine V_aload_n C d_Mo_link_28 rfl ?_
  refine V_iconst (v := 2) C d_Mo_link_29 (by decide) ?_
  refine V_callV (as := [_]) C d_Mo_link_30 (c_Mo_fail hM) m_Mo_fail cf_Mo k_Mo_103 hM.al ⟨by decide, by decide⟩ (Nat.le_of_ble_eq_true rfl) ⟨by decide, by decide⟩ rfl ?_
  rintro _ _ _ _ _ ⟨rfl, rfl, rfl, rfl, rfl⟩
  dsimp only [Option.toList, List.cons_append, List.nil_append]
  refine V_iret C hQ (by decide) (by decide) d_Mo_link_33 rfl ?_
  exact ⟨rfl, rfl, up4_up4.symm, rfl, rfl⟩
theorem LEND_20 {ι : Io} {c : Nat} {en : Int32} {L : Ls} : (if me ι c en < 0 then tlL L 2 (-1) en else L) 10 20 = L 10 20 := by
  split
  · exact tlL_20
  · rfl
theorem jus_fr {ι : Io} {c : Nat} {e : Int32} {L L' : Ls} (h : ∀ r k, r ≠ 10 → L' r k = L r k) (hJ : Jus ι c e L) : Jus ι c e L' :=
  ⟨fun s hs => by rw [h 61 s (by decide)]; exact hJ.1 s hs, fun s hs => by rw [h 62 s (by decide)]; exact hJ.2 s hs⟩
set_option maxHeartbeats 1000000 in
set_option maxRecDepth 10000 in
theorem c_Mo_link {ν : Nu} {ι : Io} {ρ : Ro} {ℓ : Lo} (hM : MoS ν ρ) {c9 : Nat} (K : LK ι c9) (hD : DI ι c9) {en x : Int32} {b : Nat} (hxb : x = nI b) (hb : b ≤ 1000000) (hc0 : ι 10 0 0 18 ≠ 0) : Ct y_Mo_link (Cond.code y_Mo_link b_Mo_link 5 (some .int) :: tb_) { frames := 4, cells := 0, slots := 0, locals := 101 } [sR 10 0 0, sI en, sI x] ν ι ρ ℓ (fun v ν1 ι1 ρ1 ℓ1 => ν = ν1 ∧ ρ = ρ1 ∧ ℓ = ℓ1 ∧ ∃ Lf, LR ι c9 en (bsL ι x) Lf ∧ some (sI (if Lf 10 28 = 0 then 0 else Lf 10 29)) = v ∧ up4 (setL ι (if Lf 10 28 = 0 then up2 Lf 10 0 3 else Lf)) 10 0 0 18 0 = ι1) (noX) := by
  refine Ct.ofV (by decide) (Nat.le_of_ble_eq_true rfl) rfl ?_
  intro p l e s m args below meth c D B tW α0 Q C hQ
  have h12 := K.c12
  have hx : 0 ≤ x ∧ x ≤ 1000000 := by rw [hxb]; exact ⟨nI_pos' (by omega), (nI_leI (b := 1000000) (by omega) (by decide)).mpr hb⟩
  have j167 : ∀ L : Ls, (∀ Lf, LE ι c9 L Lf → LR ι c9 en (bsL ι x) Lf) → V p l e { frames := 4, cells := 0, slots := 0, locals := 101 } s m args below meth c D B α0 ν 5 Q 0 0 ν (setL ι L) ρ ℓ 167 [(0, sR 10 0 0), (1, sI en), (2, sI x)] [] := by
    intro L hLR
    by_cases hf9 : L 10 25 = 0
    · skip
      refine V_aload_n C d_Mo_link_167 rfl ?_
      refine V_aload_n C d_Mo_link_168 rfl ?_
      refine V_getI (kx := 25) C d_Mo_link_169 cf_Mo (by decide) k_Mo_154 hM.al rfl ?_
      refine V_if_ne (tgt := 179) C d_Mo_link_172 (by decide) (fun h172 => absurd hf9 h172) (fun h172 => ?_)
      refine V_iconst (v := 1) C d_Mo_link_175 (by decide) ?_
      refine V_goto (tgt := 180) C d_Mo_link_176 (by decide) ?_
      refine V_putI (kx := 28) C d_Mo_link_180 cf_Mo (by decide) k_Mo_225 hM.al rfl rfl rfl rfl ?_
      refine V_io (setL_up rfl) ?_
      refine V_aload_n C d_Mo_link_183 rfl ?_
      refine V_getI (kx := 28) C d_Mo_link_184 cf_Mo (by decide) k_Mo_225 hM.al rfl ?_
      refine V_if_eq (tgt := 197) C d_Mo_link_187 (by decide) (fun h187 => absurd (show (1 : Int32) = 0 from h187) (by decide)) (fun h187 => ?_)
      refine V_aload_n C d_Mo_link_190 rfl ?_
      refine V_callV (as := []) C d_Mo_link_191 (k_know hM K) m_Mo_know cf_Mo k_Mo_246 hM.al ⟨by decide, by decide⟩ (Nat.le_of_ble_eq_true rfl) ⟨by decide, by decide⟩ rfl ?_
      rintro _ _ _ _ _ ⟨rfl, rfl, rfl, rfl, L9, hk9, rfl⟩
      have hl9 := hLR L9 (Or.inr ⟨hf9, hk9⟩)
      have h28 : L9 10 28 = 1 := hk9.2.2 10 28 (by omega) (by omega) (by omega)
      dsimp only [Option.toList, List.cons_append, List.nil_append]
      refine V_goto (tgt := 201) C d_Mo_link_194 (by decide) ?_
      refine V_aload_n C d_Mo_link_201 rfl ?_
      refine V_iconst (v := 0) C d_Mo_link_202 (by decide) ?_
      refine V_putI (kx := 18) C d_Mo_link_203 cf_Mo (by decide) k_Mo_144 hM.al rfl rfl rfl rfl ?_
      refine V_aload_n C d_Mo_link_206 rfl ?_
      refine V_getI (kx := 28) C d_Mo_link_207 cf_Mo (by decide) k_Mo_225 hM.al rfl ?_
      refine V_eqi (y := 1) h28 ?_
      refine V_if_eq (tgt := 220) C d_Mo_link_210 (by decide) (fun h210 => absurd h210 (by decide)) (fun h210 => ?_)
      refine V_aload_n C d_Mo_link_213 rfl ?_
      refine V_getI (kx := 29) C d_Mo_link_214 cf_Mo (by decide) k_Mo_192 hM.al rfl ?_
      refine V_goto (tgt := 225) C d_Mo_link_217 (by decide) ?_
      refine V_iret C hQ (by decide) (by decide) d_Mo_link_225 rfl ?_
      exact ⟨rfl, rfl, rfl, L9, hl9, by rw [if_neg (by rw [h28]; decide)]; rfl, by rw [if_neg (by rw [h28]; decide)]⟩
    · skip
      refine V_aload_n C d_Mo_link_167 rfl ?_
      refine V_aload_n C d_Mo_link_168 rfl ?_
      refine V_getI (kx := 25) C d_Mo_link_169 cf_Mo (by decide) k_Mo_154 hM.al rfl ?_
      refine V_if_ne (tgt := 179) C d_Mo_link_172 (by decide) (fun h172 => ?_) (fun h172 => absurd h172 hf9)
      refine V_iconst (v := 0) C d_Mo_link_179 (by decide) ?_
      refine V_putI (kx := 28) C d_Mo_link_180 cf_Mo (by decide) k_Mo_225 hM.al rfl rfl rfl rfl ?_
      refine V_io (setL_up rfl) ?_
      refine V_aload_n C d_Mo_link_183 rfl ?_
      refine V_getI (kx := 28) C d_Mo_link_184 cf_Mo (by decide) k_Mo_225 hM.al rfl ?_
      refine V_if_eq (tgt := 197) C d_Mo_link_187 (by decide) (fun h187 => ?_) (fun h187 => absurd rfl h187)
      refine V_aload_n C d_Mo_link_197 rfl ?_
      refine V_callV (as := []) C d_Mo_link_198 (k_noImage hM K) m_Mo_noImage cf_Mo k_Mo_249 hM.al ⟨by decide, by decide⟩ (Nat.le_of_ble_eq_true rfl) ⟨by decide, by decide⟩ rfl ?_
      rintro _ _ _ _ _ ⟨rfl, rfl, rfl, rfl, rfl⟩
      dsimp only [Option.toList, List.cons_append, List.nil_append]
      refine V_aload_n C d_Mo_link_201 rfl ?_
      refine V_iconst (v := 0) C d_Mo_link_202 (by decide) ?_
      refine V_putI (kx := 18) C d_Mo_link_203 cf_Mo (by decide) k_Mo_144 hM.al rfl rfl rfl rfl ?_
      refine V_aload_n C d_Mo_link_206 rfl ?_
      refine V_getI (kx := 28) C d_Mo_link_207 cf_Mo (by decide) k_Mo_225 hM.al rfl ?_
      refine V_if_eq (tgt := 220) C d_Mo_link_210 (by decide) (fun h210 => ?_) (fun h210 => absurd rfl h210)
      refine V_aload_n C d_Mo_link_220 rfl ?_
      refine V_iconst (v := 3) C d_Mo_link_221 (by decide) ?_
      refine V_callV (as := [_]) C d_Mo_link_222 (c_Mo_fail hM) m_Mo_fail cf_Mo k_Mo_103 hM.al ⟨by decide, by decide⟩ (Nat.le_of_ble_eq_true rfl) ⟨by decide, by decide⟩ rfl ?_
      rintro _ _ _ _ _ ⟨rfl, rfl, rfl, rfl, rfl⟩
      dsimp only [Option.toList, List.cons_append, List.nil_append]
      refine V_iret C hQ (by decide) (by decide) d_Mo_link_225 rfl ?_
      exact ⟨rfl, rfl, rfl, _, hLR _ (Or.inl ⟨hf9, rfl⟩), rfl, by rw [if_pos (show noL (up2 L 10 28 0) 10 28 = 0 from rfl), ← setL_up (r := 10) (k := 0) rfl]; exact up4_cx (by decide)⟩
  have j81x : ∀ L : Ls, L 10 25 ≠ 0 → (∀ Lf, LE ι c9 L Lf → LR ι c9 en (bsL ι x) Lf) → V p l e { frames := 4, cells := 0, slots := 0, locals := 101 } s m args below meth c D B α0 ν 5 Q 0 0 ν (setL ι L) ρ ℓ 81 [(0, sR 10 0 0), (1, sI en), (2, sI x)] [] := by
    intro L hf hLR
    refine V_aload_n C d_Mo_link_81 rfl ?_
    refine V_getI (kx := 25) C d_Mo_link_82 cf_Mo (by decide) k_Mo_154 hM.al rfl ?_
    refine V_if_ne (tgt := 167) C d_Mo_link_85 (by decide) (fun h85 => ?_) (fun h85 => absurd h85 hf)
    refine V_pick [0, 1, 2] rfl ?_
    exact j167 L hLR
  have j70x : ∀ L : Ls, L 10 25 ≠ 0 → (∀ Lf, LE ι c9 L Lf → LR ι c9 en (bsL ι x) Lf) → V p l e { frames := 4, cells := 0, slots := 0, locals := 101 } s m args below meth c D B α0 ν 5 Q 0 0 ν (setL ι L) ρ ℓ 70 [(0, sR 10 0 0), (1, sI en), (2, sI x)] [] := by
    intro L hf hLR
    refine V_aload_n C d_Mo_link_70 rfl ?_
    refine V_getI (kx := 25) C d_Mo_link_71 cf_Mo (by decide) k_Mo_154 hM.al rfl ?_
    refine V_if_ne (tgt := 81) C d_Mo_link_74 (by decide) (fun h74 => ?_) (fun h74 => absurd h74 hf)
    refine V_pick [0, 1, 2] rfl ?_
    exact j81x L hf hLR
  have j81 : ∀ L3 : Ls, (L3 10 25 = 0 → HL ι L3) → (∀ s, s < 96 → L3 61 s = 0 ∨ L3 61 s = 1) → (∀ Lf, LR3 ι c9 L3 Lf → LR ι c9 en (bsL ι x) Lf) → V p l e { frames := 4, cells := 0, slots := 0, locals := 101 } s m args below meth c D B α0 ν 5 Q 0 0 ν (setL ι L3) ρ ℓ 81 [(0, sR 10 0 0), (1, sI en), (2, sI x)] [] := by
    intro L3 hL0 hR hLR
    refine V_aload_n C d_Mo_link_81 rfl ?_
    refine V_getI (kx := 25) C d_Mo_link_82 cf_Mo (by decide) k_Mo_154 hM.al rfl ?_
    refine V_if_ne (tgt := 167) C d_Mo_link_85 (by decide) (fun h85 => ?_) (fun h85 => ?_)
    · refine V_pick [0, 1, 2] rfl ?_
      exact j167 L3 (fun Lf h => hLR Lf (Or.inl ⟨h85, h⟩))
    · have hL := hL0 h85
      have outer : ∀ (f : Nat) (k9 : Nat) (L1 : Ls), c9 - k9 < f → (k9 ≤ c9) → (L1 = (sq ι 16 52 k9).foldl (wkT ι c9) (copL ι L3)) → V p l e { frames := 4, cells := 0, slots := 0, locals := 101 } s m args below meth c D B α0 ν 5 Q 0 0 ν (setL ι L1) ρ ℓ 94 [(3, sI (nI k9)), (0, sR 10 0 0), (1, sI en), (2, sI x)] [] := by
        intro f
        induction f with
        | zero => intros; omega
        | succ f ih =>
              intro k9 L1 hf hk0 hpre0
              refine V_iload_n C d_Mo_link_94 rfl ?_
              refine V_aload_n C d_Mo_link_95 rfl ?_
              refine V_getI (kx := 18) C d_Mo_link_96 cf_Mo (by decide) k_Mo_144 hM.al rfl ?_
              refine V_eqi (y := nI c9) K.c18 ?_
              refine V_icmp_ge (tgt := 167) C d_Mo_link_99 (by decide) (fun h99 => ?_) (fun h99 => ?_)
              · have hk : k9 = c9 := by have := (nI_leI (a := c9) (b := k9) (by omega) (by omega)).mp h99; omega
                subst hk
                refine V_pick [1, 2, 3] rfl ?_
                exact j167 L1 (fun Lf h => hLR Lf (Or.inr ⟨h85, by rw [← hpre0]; exact h⟩))
              · have hk : k9 < c9 := Nat.lt_of_not_le fun z => h99 ((nI_leI (by omega) (by omega)).mpr z)
                have ho := K.b59.le (t := k9) (by omega)
                have hnn := K.b52.le (t := mn ι 59 k9) (by omega)
                have inner : ∀ (f : Nat) (i : Nat) (L1 : Ls), mn ι 52 (mn ι 59 k9) - i < f → (i ≤ mn ι 52 (mn ι 59 k9)) → (L1 = (sqP ι 16 52 k9 i).foldl (wkT ι c9) (copL ι L3)) → V p l e { frames := 4, cells := 0, slots := 0, locals := 101 } s m args below meth c D B α0 ν 5 Q 0 0 ν (setL ι L1) ρ ℓ 105 [(4, sI (nI i)), (3, sI (nI k9)), (0, sR 10 0 0), (1, sI en), (2, sI x)] [] := by
                  intro f
                  induction f with
                  | zero => intros; omega
                  | succ f ih2 =>
                            intro i L1 hf2 hi0 hpre
                            refine V_iload C d_Mo_link_105 rfl ?_
                            refine V_aload_n C d_Mo_link_107 rfl ?_
                            refine V_getR (kx := 12) C d_Mo_link_108 cf_Mo (by decide) k_Mo_40 hM.al rfl hM.r12 ?_
                            refine V_aload_n C d_Mo_link_111 rfl ?_
                            refine V_getR (kx := 19) C d_Mo_link_112 cf_Mo (by decide) k_Mo_58 hM.al rfl hM.r19 ?_
                            refine V_iload_n C d_Mo_link_115 rfl ?_
                            refine V_iald C d_Mo_link_116 (by decide) rfl hM.n19 rfl (by omega) rfl ?_
                            refine V_iald C d_Mo_link_117 (by decide) rfl hM.n12 (K.b59.eq (t := k9) (by omega)) (show mn ι 59 k9 < 13 by omega) rfl ?_
                            refine V_eqi (y := nI (mn ι 52 (mn ι 59 k9))) (K.b52.eq (t := mn ι 59 k9) (by omega)) ?_
                            refine V_icmp_ge (tgt := 161) C d_Mo_link_118 (by decide) (fun h118 => ?_) (fun h118 => ?_)
                            · have hi : i = mn ι 52 (mn ι 59 k9) := by have := (nI_leI (by omega) (by omega)).mp h118; omega
                              refine V_iinc (v := nI (k9 + 1)) (lv' := [(3, _), (4, _), (0, _), (1, _), (2, _)]) C d_Mo_link_161 rfl (nI_1 k9) (by decide) rfl ?_
                              refine V_goto (tgt := 94) C d_Mo_link_164 (by decide) ?_
                              refine V_pick [0, 2, 3, 4] rfl ?_
                              exact ih (k9 + 1) _ (by omega) (by omega) (by rw [sq_s, ← hi]; exact hpre)
                            · have hi : i < mn ι 52 (mn ι 59 k9) := Nat.lt_of_not_le fun z => h118 ((nI_leI (by omega) (by omega)).mpr (by omega))
                              have hjm := sq_mem (m := 16) (fld := 52) hk hi
                              have hfr : ∀ r k, ¬ (r = 10 ∧ 25 ≤ k ∧ k ≤ 27) → r ≠ 73 → L1 r k = L3 r k := (fun r k h1 h2 => by rw [hpre, fold_fr (fun L s => wkT_fr h1 h2), copL_fr h2])
                              refine V_aload_n C d_Mo_link_121 rfl ?_
                              refine V_getI (kx := 25) C d_Mo_link_122 cf_Mo (by decide) k_Mo_154 hM.al rfl ?_
                              refine V_if_ne (tgt := 155) C d_Mo_link_125 (by decide) (fun h125 => ?_) (fun h125 => ?_)
                              · have hst : L1 = wkT ι c9 L1 (16 * mn ι 59 k9 + i) := (if_neg (fun z => h125 z.1)).symm
                                refine V_iinc (v := nI (i + 1)) (lv' := [(4, _), (3, _), (0, _), (1, _), (2, _)]) C d_Mo_link_155 rfl (nI_1 _) (by decide) rfl ?_
                                refine V_goto (tgt := 105) C d_Mo_link_158 (by decide) ?_
                                refine V_pick [0, 1, 2, 3, 4] rfl ?_
                                refine V_io (congrArg (setL ι) hst) ?_
                                exact ih2 (i + 1) _ (by omega) (by omega) (by rw [sqP_s, fold_g, ← hpre])
                              · refine V_aload_n C d_Mo_link_128 rfl ?_
                                refine V_aload_n C d_Mo_link_129 rfl ?_
                                refine V_getR (kx := 19) C d_Mo_link_130 cf_Mo (by decide) k_Mo_58 hM.al rfl hM.r19 ?_
                                refine V_iload_n C d_Mo_link_133 rfl ?_
                                refine V_iald C d_Mo_link_134 (by decide) rfl hM.n19 rfl (by omega) rfl ?_
                                refine V_eqi (y := nI (mn ι 59 k9)) (K.b59.eq (t := k9) (by omega)) ?_
                                refine V_iload C d_Mo_link_135 rfl ?_
                                refine V_callV (as := [_, _]) C d_Mo_link_137 (k_isWorked hM K (t := mn ι 59 k9) (j := i) (by omega) (by omega) (fun s hs => by rw [hfr 61 s (by omega) (by omega)]; exact hR s hs)) m_Mo_isWorked cf_Mo k_Mo_164 hM.al ⟨by decide, by decide⟩ (Nat.le_of_ble_eq_true rfl) ⟨by decide, by decide⟩ rfl ?_
                                rintro _ _ _ _ _ ⟨rfl, rfl, rfl, rfl, rfl⟩
                                dsimp only [Option.toList, List.cons_append, List.nil_append]
                                refine V_if_eq (tgt := 155) C d_Mo_link_140 (by decide) (fun h140 => ?_) (fun h140 => ?_)
                                · have hst : L1 = wkT ι c9 L1 (16 * mn ι 59 k9 + i) := (if_neg (fun z => z.2 h140)).symm
                                  refine V_iinc (v := nI (i + 1)) (lv' := [(4, _), (3, _), (0, _), (1, _), (2, _)]) C d_Mo_link_155 rfl (nI_1 _) (by decide) rfl ?_
                                  refine V_goto (tgt := 105) C d_Mo_link_158 (by decide) ?_
                                  refine V_pick [0, 1, 2, 3, 4] rfl ?_
                                  refine V_io (congrArg (setL ι) hst) ?_
                                  exact ih2 (i + 1) _ (by omega) (by omega) (by rw [sqP_s, fold_g, ← hpre])
                                · have hst : wkS ι c9 L1 (16 * mn ι 59 k9 + i) = wkT ι c9 L1 (16 * mn ι 59 k9 + i) := (if_pos ⟨h125, h140⟩).symm
                                  refine V_aload_n C d_Mo_link_143 rfl ?_
                                  refine V_aload_n C d_Mo_link_144 rfl ?_
                                  refine V_getR (kx := 19) C d_Mo_link_145 cf_Mo (by decide) k_Mo_58 hM.al rfl hM.r19 ?_
                                  refine V_iload_n C d_Mo_link_148 rfl ?_
                                  refine V_iald C d_Mo_link_149 (by decide) rfl hM.n19 rfl (by omega) rfl ?_
                                  refine V_eqi (y := nI (mn ι 59 k9)) (K.b59.eq (t := k9) (by omega)) ?_
                                  refine V_iload C d_Mo_link_150 rfl ?_
                                  refine V_callV (as := [_, _]) C d_Mo_link_152 (k_workIn hM K (t := mn ι 59 k9) (j := i) (by omega) (by omega) (fun hw9 => HL.pr hL hfr K hjm h140 hw9)) m_Mo_workIn cf_Mo k_Mo_242 hM.al ⟨by decide, by decide⟩ (Nat.le_of_ble_eq_true rfl) ⟨by decide, by decide⟩ rfl ?_
                                  rintro _ _ _ _ _ ⟨rfl, rfl, rfl, rfl, rfl⟩
                                  dsimp only [Option.toList, List.cons_append, List.nil_append]
                                  refine V_iinc (v := nI (i + 1)) (lv' := [(4, _), (3, _), (0, _), (1, _), (2, _)]) C d_Mo_link_155 rfl (nI_1 _) (by decide) rfl ?_
                                  refine V_goto (tgt := 105) C d_Mo_link_158 (by decide) ?_
                                  refine V_pick [0, 1, 2, 3, 4] rfl ?_
                                  refine V_io (congrArg (setL ι) hst) ?_
                                  exact ih2 (i + 1) _ (by omega) (by omega) (by rw [sqP_s, fold_g, ← hpre])
                refine V_iconst (v := 0) C d_Mo_link_102 (by decide) ?_
                refine V_istore (lv' := [(4, _), (3, _), (0, _), (1, _), (2, _)]) C d_Mo_link_103 (by decide) rfl ?_
                refine V_pick [0, 1, 2, 3, 4] rfl ?_
                exact inner (mn ι 52 (mn ι 59 k9) + 1) 0 _ (by omega) (by omega) (by rw [sqP_0]; exact hpre0)
      refine V_aload_n C d_Mo_link_88 rfl ?_
      refine V_callV (as := []) C d_Mo_link_89 (k_copySections hM K hL) m_Mo_copySections cf_Mo k_Mo_239 hM.al ⟨by decide, by decide⟩ (Nat.le_of_ble_eq_true rfl) ⟨by decide, by decide⟩ rfl ?_
      rintro _ _ _ _ _ ⟨rfl, rfl, rfl, rfl, rfl⟩
      dsimp only [Option.toList, List.cons_append, List.nil_append]
      refine V_iconst (v := 0) C d_Mo_link_92 (by decide) ?_
      refine V_istore_n (lv' := [(3, _), (0, _), (1, _), (2, _)]) C d_Mo_link_93 (by decide) rfl ?_
      refine V_pick [0, 1, 2, 3] rfl ?_
      exact outer (c9 + 1) 0 (copL ι L3) (by omega) (by omega) (by rw [sq_0, List.foldl_nil])
  have j70 : ∀ L2 : Ls, L2 10 20 = nI b → Jus ι c9 en L2 → (∀ Lf, LR2 ι c9 L2 Lf → LR ι c9 en (bsL ι x) Lf) → V p l e { frames := 4, cells := 0, slots := 0, locals := 101 } s m args below meth c D B α0 ν 5 Q 0 0 ν (setL ι L2) ρ ℓ 70 [(0, sR 10 0 0), (1, sI en), (2, sI x)] [] := by
    intro L2 h20 hJ hLR
    by_cases hf9 : L2 10 25 = 0
    · skip
      refine V_aload_n C d_Mo_link_70 rfl ?_
      refine V_getI (kx := 25) C d_Mo_link_71 cf_Mo (by decide) k_Mo_154 hM.al rfl ?_
      refine V_if_ne (tgt := 81) C d_Mo_link_74 (by decide) (fun h74 => absurd hf9 h74) (fun h74 => ?_)
      refine V_aload_n C d_Mo_link_77 rfl ?_
      refine V_callV (as := []) C d_Mo_link_78 (k_order hM K) m_Mo_order cf_Mo k_Mo_236 hM.al ⟨by decide, by decide⟩ (Nat.le_of_ble_eq_true rfl) ⟨by decide, by decide⟩ rfl ?_
      rintro _ _ _ _ _ ⟨rfl, rfl, rfl, rfl, rfl⟩
      dsimp only [Option.toList, List.cons_append, List.nil_append]
      refine V_pick [0, 1, 2] rfl ?_
      exact j81 _ (fun h => ord_hl K hD hJ h20 hb hf9 h) (fun s hs => by rw [ordL_fr (Or.inl rfl)]; exact hJ.r s hs) (fun Lf h => hLR Lf (Or.inr ⟨hf9, h⟩))
    · exact j70x L2 hf9 (fun Lf h => hLR Lf (Or.inl ⟨hf9, h⟩))
  refine V_aload_n C d_Mo_link_0 rfl ?_
  refine V_iconst (v := 0) C d_Mo_link_1 (by decide) ?_
  refine V_putI (kx := 0) C d_Mo_link_2 cf_Mo (by decide) k_Mo_93 hM.al rfl rfl rfl rfl ?_
  refine V_iload_n C d_Mo_link_5 rfl ?_
  refine V_iconst (v := 0) C d_Mo_link_6 (by decide) ?_
  refine V_ldc C d_Mo_link_7 k_Mo_229 ?_
  refine V_callS (as := [_, _, _]) C d_Mo_link_9 (c_Mo_within) m_Mo_within k_Mo_99 ⟨by decide, by decide⟩ (Nat.le_of_ble_eq_true rfl) ⟨by decide, by decide⟩ rfl ?_
  rintro _ _ _ _ _ ⟨rfl, rfl, rfl, rfl, rfl⟩
  dsimp only [Option.toList, List.cons_append, List.nil_append]
  refine V_if_ne (tgt := 21) C d_Mo_link_12 (by decide) (fun hx12 => ?_) (fun hx12 => absurd hx (b2_0.mp hx12))
  refine V_aload_n C d_Mo_link_21 rfl ?_
  refine V_getI (kx := 18) C d_Mo_link_22 cf_Mo (by decide) k_Mo_144 hM.al rfl ?_
  refine V_if_ne (tgt := 34) C d_Mo_link_25 (by decide) (fun h25 => ?_) (fun h25 => absurd (show ι 10 0 0 18 = 0 from h25) hc0)
  refine V_aload_n C d_Mo_link_34 rfl ?_
  refine V_iload_n C d_Mo_link_35 rfl ?_
  refine V_putI (kx := 20) C d_Mo_link_36 cf_Mo (by decide) k_Mo_176 hM.al rfl rfl rfl rfl ?_
  refine V_aload_n C d_Mo_link_39 rfl ?_
  refine V_iconst (v := 0) C d_Mo_link_40 (by decide) ?_
  refine V_putI (kx := 25) C d_Mo_link_41 cf_Mo (by decide) k_Mo_154 hM.al rfl rfl rfl rfl ?_
  refine V_aload_n C d_Mo_link_44 rfl ?_
  refine V_iconst (v := (-1)) C d_Mo_link_45 (by decide) ?_
  refine V_putI (kx := 26) C d_Mo_link_46 cf_Mo (by decide) k_Mo_74 hM.al rfl rfl rfl rfl ?_
  refine V_aload_n C d_Mo_link_49 rfl ?_
  refine V_iconst (v := (-1)) C d_Mo_link_50 (by decide) ?_
  refine V_putI (kx := 27) C d_Mo_link_51 cf_Mo (by decide) k_Mo_78 hM.al rfl rfl rfl rfl ?_
  refine V_io (show _ = setL ι (bsL ι x) by rw [show ι = setL ι (curL ι) from setL_cur.symm, setL_up rfl, setL_up rfl, setL_up rfl, setL_up rfl, setL_up rfl, setL_cur]; rfl) ?_
  refine V_aload_n C d_Mo_link_54 rfl ?_
  refine V_callV (as := []) C d_Mo_link_55 (k_findDoubled hM K) m_Mo_findDoubled cf_Mo k_Mo_230 hM.al ⟨by decide, by decide⟩ (Nat.le_of_ble_eq_true rfl) ⟨by decide, by decide⟩ rfl ?_
  rintro _ _ _ _ _ ⟨rfl, rfl, rfl, rfl, rfl⟩
  dsimp only [Option.toList, List.cons_append, List.nil_append]
  refine V_aload_n C d_Mo_link_58 rfl ?_
  refine V_getI (kx := 25) C d_Mo_link_59 cf_Mo (by decide) k_Mo_154 hM.al rfl ?_
  refine V_if_ne (tgt := 70) C d_Mo_link_62 (by decide) (fun h62 => ?_) (fun h62 => ?_)
  · have hf9 : ((sq ι 12 47 c9).foldl (dbS ι c9) (bsL ι x)) 10 25 ≠ 0 := h62
    refine V_pick [0, 1, 2] rfl ?_
    first | exact j70x _ hf9 (fun Lf h => Or.inl ⟨hf9, h⟩) | exact j70 _ (by rw [fold_fr (fun L s => miS_20), hfr 10 20 (by omega) (by omega), LEND_20, fold_fr (fun L s => dbS_20), ← hxb]; rfl) (jus_fr (fun r k hr => fold_fr (fun L s => miS_fr hr)) hrd.1) (fun Lf h => Or.inr ⟨hf9, L1, hrd, hfr, h⟩)
  · have hf9 : ((sq ι 12 47 c9).foldl (dbS ι c9) (bsL ι x)) 10 25 = 0 := h62
    refine V_aload_n C d_Mo_link_65 rfl ?_
    refine V_iload_n C d_Mo_link_66 rfl ?_
    refine V_callV (as := [_]) C d_Mo_link_67 (k_findReached hM K) m_Mo_findReached cf_Mo k_Mo_233 hM.al ⟨by decide, by decide⟩ (Nat.le_of_ble_eq_true rfl) ⟨by decide, by decide⟩ rfl ?_
    rintro _ _ _ _ _ ⟨rfl, rfl, rfl, rfl, L1, hrd, hfr, rfl⟩
    dsimp only [Option.toList, List.cons_append, List.nil_append]
    refine V_pick [0, 1, 2] rfl ?_
    first | exact j70x _ hf9 (fun Lf h => Or.inl ⟨hf9, h⟩) | exact j70 _ (by rw [fold_fr (fun L s => miS_20), hfr 10 20 (by omega) (by omega), LEND_20, fold_fr (fun L s => dbS_20), ← hxb]; rfl) (jus_fr (fun r k hr => fold_fr (fun L s => miS_fr hr)) hrd.1) (fun Lf h => Or.inr ⟨hf9, L1, hrd, hfr, h⟩)
