set_option maxHeartbeats 1000000 in
set_option maxRecDepth 10000 in
theorem c_Me_init {ν : Nu} {ι : Io} {ρ : Ro} {ℓ : Lo} {k9 : Nat} (hal : ν 1 k9 0 ≠ none) : Ct y_Me_init (Cond.code y_Me_init b_Me_init 1 none :: tb_) { frames := 1, cells := 0, slots := 0, locals := 40 } [sR 1 k9 0] ν ι ρ ℓ (pEq none ν ι ρ ℓ) (noX) := by
  refine Ct.ofV (by decide) (Nat.le_of_ble_eq_true rfl) rfl ?_
  intro p l e s m args below meth c D B tW α0 Q C hQ
  refine V_aload_n C d_Me_init_0 rfl ?_
  refine V_objI C d_Me_init_1 k_Me_3 k_obj (by decide) (Nat.le_of_ble_eq_true rfl) ?_
  refine V_vret C hQ (by decide) (by decide) d_Me_init_4 rfl ?_
  exact ⟨rfl, rfl, rfl, rfl, rfl⟩
set_option maxHeartbeats 1000000 in
set_option maxRecDepth 10000 in
theorem c_Oc_init {ν : Nu} {ι : Io} {ρ : Ro} {ℓ : Lo} (hal : ν 4 0 0 ≠ none) (h25 : ν 25 0 0 = none) : Ct y_Oc_init (Cond.code y_Oc_init b_Oc_init 1 none :: tb_) { frames := 1, cells := 1, slots := 1303, locals := 40 } [sR 4 0 0] ν ι ρ ℓ (pEq none (up3 ν 25 0 0 (some 1303)) (upA ι 25 0 0 (fun _ => 0)) (up4 ρ 4 0 0 0 (some (25, 0, 0))) ℓ) (noX) := by
  refine Ct.ofV (by decide) (Nat.le_of_ble_eq_true rfl) rfl ?_
  intro p l e s m args below meth c D B tW α0 Q C hQ
  refine V_aload_n C d_Oc_init_0 rfl ?_
  refine V_objI C d_Oc_init_1 k_Oc_3 k_obj (by decide) (Nat.le_of_ble_eq_true rfl) ?_
  refine V_aload_n C d_Oc_init_4 rfl ?_
  refine V_sipush (v := 1303) C d_Oc_init_5 (by decide) ?_
  refine V_newa (r := 25) (i := 0) (j := 0) (n := 1303) C d_Oc_init_8 k_arr_int (by decide) (by decide) (by decide) rfl (fun _ _ => ⟨rfl, rfl⟩) h25 rfl (by decide) (by decide) (by decide) (by decide) (fun _ => show (0 : Nat) ≠ 1 by decide) ?_
  refine V_putRF (kx := 0) C d_Oc_init_10 cf_Oc (by decide) k_Oc_9 hal rfl rfl rfl rfl (fun _ => rfl) (fun _ => rfl) ?_
  refine V_vret C hQ (by decide) (by decide) d_Oc_init_13 rfl ?_
  exact ⟨rfl, rfl, rfl, rfl, rfl⟩
def NTF (i : Nat) (ν ν1 : Nu) (ι ι1 : Io) (ρ ρ1 : Ro) : Prop := (∀ r a b, r ≠ 1 → r ≠ 32 → r ≠ 33 → r ≠ 34 → ν1 r a b = ν r a b) ∧ (∀ r a b k, r ≠ 1 → ι1 r a b k = ι r a b k) ∧ (∀ r a b k, r ≠ 1 → r ≠ 3 → r ≠ 32 → r ≠ 33 → r ≠ 34 → ρ1 r a b k = ρ r a b k) ∧ ν1 32 0 0 = some 144 ∧ ν1 33 0 0 = some 144 ∧ ν1 34 0 0 = some 144 ∧ ρ1 3 0 0 0 = some (32, 0, 0) ∧ ρ1 3 0 0 2 = some (33, 0, 0) ∧ ρ1 3 0 0 3 = some (34, 0, 0) ∧ (∀ k, k < i → ν1 1 k 0 = some 8 ∧ ρ1 32 0 0 k = some (1, k, 0)) ∧ (∀ k, i ≤ k → ν1 1 k 0 = none)
theorem NTF.s {i : Nat} {ν ν1 : Nu} {ι ι1 : Io} {ρ ρ1 : Ro} (h : NTF i ν ν1 ι ι1 ρ ρ1) : NTF (i + 1) ν (up3 ν1 1 i 0 (some 8)) ι (upA ι1 1 i 0 (fun _ => 0)) ρ (up4 (upA ρ1 1 i 0 (fun _ => none)) 32 0 0 i (some (1, i, 0))) := by
  obtain ⟨h1, h2, h3, h4, h5, h6, h7, h8, h9, h10, h11⟩ := h
  refine ⟨fun r a b q1 q2 q3 q4 => ?_, fun r a b k q => ?_, fun r a b k q1 q2 q3 q4 q5 => ?_, h4, h5, h6, h7, h8, h9, fun k hk => ?_, fun k hk => ?_⟩
  · rw [up3_ne (by omega)]; exact h1 r a b q1 q2 q3 q4
  · rw [upA_ne (by omega)]; exact h2 r a b k q
  · rw [up4_ne (by omega), upA_ne (by omega)]; exact h3 r a b k q1 q2 q3 q4 q5
  · by_cases hq : k = i
    · subst hq
      exact ⟨up3_s, up4_s⟩
    · rw [up3_ne (by omega), up4_ne (by omega), upA_ne (by omega)]
      exact h10 k (by omega)
  · rw [up3_ne (by omega)]; exact h11 k (by omega)
set_option maxHeartbeats 1000000 in
set_option maxRecDepth 10000 in
theorem c_NT_init {ν : Nu} {ι : Io} {ρ : Ro} {ℓ : Lo} (hal : ν 3 0 0 ≠ none) (hN : ∀ r i j, r = 1 ∨ r = 32 ∨ r = 33 ∨ r = 34 → ν r i j = none) : Ct y_NT_init (Cond.code y_NT_init b_NT_init 2 none :: tb_) { frames := 2, cells := 147, slots := 1584, locals := 60 } [sR 3 0 0] ν ι ρ ℓ (fun v ν1 ι1 ρ1 ℓ1 => none = v ∧ ℓ = ℓ1 ∧ NTF 144 ν ν1 ι ι1 ρ ρ1) (noX) := by
  refine Ct.ofV (by decide) (Nat.le_of_ble_eq_true rfl) rfl ?_
  intro p l e s m args below meth c D B tW α0 Q C hQ
  have loop : ∀ (f : Nat) (i : Nat) (ν1 : Nu) (ι1 : Io) (ρ1 : Ro), 144 - i < f → i ≤ 144 → NTF i ν ν1 ι ι1 ρ ρ1 → V p l e { frames := 2, cells := 147, slots := 1584, locals := 60 } s m args below meth c D B α0 ν 2 Q (3 + i) (432 + 8 * i) ν1 ι1 ρ1 ℓ 36 [(1, sI (nI i)), (0, sR 3 0 0)] [] := by
    intro f
    induction f with
    | zero => intros; omega
    | succ f ih =>
      intro i ν1 ι1 ρ1 hf hi0 hF
      refine V_iload_n C d_NT_init_36 rfl ?_
      refine V_sipush (v := 144) C d_NT_init_37 (by decide) ?_
      refine V_icmp_ge (tgt := 62) C d_NT_init_40 (by decide) (fun h40 => ?_) (fun h40 => ?_)
      · have hi : i = 144 := by have := (nI_leI (a := 144) (b := i) (by omega) (by omega)).mp h40; omega
        subst hi
        refine V_vret C hQ (by first | rfl | ((try dsimp only); omega)) (by first | rfl | ((try dsimp only); omega)) d_NT_init_62 rfl ?_
        exact ⟨rfl, rfl, hF⟩
      · have hi : i < 144 := Nat.lt_of_not_le fun z => h40 ((nI_leI (a := 144) (by omega) (by omega)).mpr z)
        refine V_aload_n C d_NT_init_43 rfl ?_
        refine V_getR (kx := 0) C d_NT_init_44 cf_NT (by decide) k_NT_11 (show ν1 3 0 0 ≠ none from by rw [hF.1 3 0 0 (by decide) (by decide) (by decide) (by decide)]; exact hal) rfl hF.2.2.2.2.2.2.1 ?_
        refine V_iload_n C d_NT_init_47 rfl ?_
        refine V_new (i := i) (j := 0) C d_NT_init_48 cf_Me k_NT_9 (hF.2.2.2.2.2.2.2.2.2.2 i (Nat.le_refl i)) (fun k hk => ?_) (by first | rfl | ((try dsimp only); omega)) (by first | rfl | ((try dsimp only); omega)) ?_
        · rcases (show k = 0 ∨ k = 1 ∨ k = 2 ∨ k = 3 ∨ k = 4 ∨ k = 5 ∨ k = 6 ∨ k = 7 by omega) with rfl | rfl | rfl | rfl | rfl | rfl | rfl | rfl <;> first | exact Or.inl ⟨rfl, rfl⟩ | exact Or.inr ⟨rfl, rfl⟩
        refine V_dup C d_NT_init_51 rfl ?_
        refine V_callIN (as := []) C d_NT_init_52 (c_Me_init (ν := up3 ν1 1 i 0 (some 8)) (k9 := i) (nn up3_s)) m_Me_init k_NT_23 ⟨by decide, by decide⟩ (Nat.le_of_ble_eq_true rfl) ⟨by first | rfl | ((try dsimp only); omega), by first | rfl | ((try dsimp only); omega)⟩ rfl ?_
        rintro _ _ _ _ _ ⟨rfl, rfl, rfl, rfl, rfl⟩
        dsimp only [Option.toList, List.cons_append, List.nil_append]
        refine V_aast C d_NT_init_55 (by decide) (by decide) rfl cf_Me hF.2.2.2.1 rfl hi rfl (nn up3_s) ?_
        refine V_iinc (v := nI (i + 1)) (lv' := [(1, _), (0, _)]) C d_NT_init_56 rfl (nI_1 i) (by decide) rfl ?_
        refine V_goto (tgt := 36) C d_NT_init_59 (by decide) ?_
        refine V_pick [0, 1] rfl ?_
        refine V_cs (c2 := 3 + (i + 1)) (s2 := 432 + 8 * (i + 1)) (by first | rfl | ((try dsimp only); omega)) (by first | rfl | ((try dsimp only); omega)) ?_
        exact ih (i + 1) _ _ _ (by omega) (by omega) hF.s
  refine V_aload_n C d_NT_init_0 rfl ?_
  refine V_objI C d_NT_init_1 k_NT_3 k_obj (by decide) (Nat.le_of_ble_eq_true rfl) ?_
  refine V_aload_n C d_NT_init_4 rfl ?_
  refine V_sipush (v := 144) C d_NT_init_5 (by decide) ?_
  refine V_anew (r := 32) (i := 0) (j := 0) (n := 144) C d_NT_init_8 k_NT_9 (by decide) (by decide) (by decide) (by decide) rfl (fun _ => rfl) (hN 32 0 0 (by omega)) rfl (by decide) (by first | rfl | ((try dsimp only); omega)) (by first | rfl | ((try dsimp only); omega)) ?_
  refine V_putRF (kx := 0) C d_NT_init_11 cf_NT (by decide) k_NT_11 hal rfl rfl rfl rfl (fun _ => rfl) (fun _ => rfl) ?_
  refine V_aload_n C d_NT_init_14 rfl ?_
  refine V_sipush (v := 144) C d_NT_init_15 (by decide) ?_
  refine V_anew (r := 33) (i := 0) (j := 0) (n := 144) C d_NT_init_18 k_NT_9 (by decide) (by decide) (by decide) (by decide) rfl (fun _ => rfl) (hN 33 0 0 (by omega)) rfl (by decide) (by first | rfl | ((try dsimp only); omega)) (by first | rfl | ((try dsimp only); omega)) ?_
  refine V_putRF (kx := 2) C d_NT_init_21 cf_NT (by decide) k_NT_17 hal rfl rfl rfl rfl (fun _ => rfl) (fun _ => rfl) ?_
  refine V_aload_n C d_NT_init_24 rfl ?_
  refine V_sipush (v := 144) C d_NT_init_25 (by decide) ?_
  refine V_anew (r := 34) (i := 0) (j := 0) (n := 144) C d_NT_init_28 k_NT_9 (by decide) (by decide) (by decide) (by decide) rfl (fun _ => rfl) (hN 34 0 0 (by omega)) rfl (by decide) (by first | rfl | ((try dsimp only); omega)) (by first | rfl | ((try dsimp only); omega)) ?_
  refine V_putRF (kx := 3) C d_NT_init_31 cf_NT (by decide) k_NT_20 hal rfl rfl rfl rfl (fun _ => rfl) (fun _ => rfl) ?_
  refine V_iconst (v := 0) C d_NT_init_34 (by decide) ?_
  refine V_istore_n (lv' := [(1, _), (0, _)]) C d_NT_init_35 (by decide) rfl ?_
  refine V_pick [0, 1] rfl ?_
  refine V_cs (c2 := 3 + 0) (s2 := 432 + 8 * 0) (by first | rfl | ((try dsimp only); omega)) (by first | rfl | ((try dsimp only); omega)) ?_
  refine loop 145 0 _ _ _ (by omega) (by omega) ⟨fun r a b q1 q2 q3 q4 => ?_, fun r a b k q => rfl, fun r a b k q1 q2 q3 q4 q5 => ?_, rfl, rfl, rfl, rfl, rfl, rfl, fun k hk => absurd hk (by omega), fun k _ => hN 1 k 0 (by omega)⟩
  · rw [up3_ne (by omega), up3_ne (by omega), up3_ne (by omega)]
  · rw [up4_ne (by omega), upA_ne (by omega), up4_ne (by omega), upA_ne (by omega), up4_ne (by omega), upA_ne (by omega)]
/-- the linker, made -/
def LIF (ν ν1 : Nu) (ι ι1 : Io) (ρ ρ1 : Ro) : Prop := (∀ r a b, ¬ (r = 1 ∨ r = 3 ∨ (26 ≤ r ∧ r ≤ 34)) → ν1 r a b = ν r a b) ∧ (∀ r a b k, ¬ (r = 0 ∨ r = 1 ∨ r = 3 ∨ (26 ≤ r ∧ r ≤ 34)) → ι1 r a b k = ι r a b k) ∧ (∀ r a b k, ¬ (r = 0 ∨ r = 1 ∨ r = 3 ∨ (26 ≤ r ∧ r ≤ 34)) → ρ1 r a b k = ρ r a b k) ∧ (∀ k, ι1 0 0 0 k = if k = 16 ∨ k = 17 then -1 else ι 0 0 0 k) ∧ (∀ k, ι1 3 0 0 k = 0) ∧ (ρ1 0 0 0 0 = some (26, 0, 0) ∧ ν1 26 0 0 = some 12 ∧ ρ1 0 0 0 1 = some (27, 0, 0) ∧ ν1 27 0 0 = some 12 ∧ ρ1 0 0 0 3 = some (3, 0, 0) ∧ ρ1 0 0 0 4 = some (28, 0, 0) ∧ ν1 28 0 0 = some 96 ∧ ρ1 0 0 0 5 = some (29, 0, 0) ∧ ν1 29 0 0 = some 96 ∧ ρ1 0 0 0 7 = some (30, 0, 0) ∧ ν1 30 0 0 = some 96 ∧ ρ1 0 0 0 10 = some (31, 0, 0) ∧ ν1 31 0 0 = some 4096) ∧ (ν1 3 0 0 = some 5 ∧ ρ1 3 0 0 0 = some (32, 0, 0) ∧ ν1 32 0 0 = some 144 ∧ ρ1 3 0 0 2 = some (33, 0, 0) ∧ ν1 33 0 0 = some 144 ∧ ρ1 3 0 0 3 = some (34, 0, 0) ∧ ν1 34 0 0 = some 144 ∧ ∀ k, k < 144 → ν1 1 k 0 = some 8 ∧ ρ1 32 0 0 k = some (1, k, 0))
set_option maxHeartbeats 1000000 in
set_option maxRecDepth 10000 in
theorem c_Li_init {ν : Nu} {ι : Io} {ρ : Ro} {ℓ : Lo} (hal : ν 0 0 0 ≠ none) (hN : ∀ r i j, r = 1 ∨ r = 3 ∨ (26 ≤ r ∧ r ≤ 34) → ν r i j = none) : Ct y_Li_init (Cond.code y_Li_init b_Li_init 1 none :: tb_) { frames := 3, cells := 154, slots := 6001, locals := 81 } [sR 0 0 0] ν ι ρ ℓ (fun v ν1 ι1 ρ1 ℓ1 => none = v ∧ ℓ = ℓ1 ∧ LIF ν ν1 ι ι1 ρ ρ1) (noX) := by
  refine Ct.ofV (by decide) (Nat.le_of_ble_eq_true rfl) rfl ?_
  intro p l e s m args below meth c D B tW α0 Q C hQ
  refine V_aload_n C d_Li_init_0 rfl ?_
  refine V_objI C d_Li_init_1 k_Li_3 k_obj (by decide) (Nat.le_of_ble_eq_true rfl) ?_
  refine V_aload_n C d_Li_init_4 rfl ?_
  refine V_bipush (v := 12) C d_Li_init_5 (by decide) ?_
  refine V_anew (r := 26) (i := 0) (j := 0) (n := 12) C d_Li_init_7 k_Li_9 (by decide) (by decide) (by decide) (by decide) rfl (fun _ => rfl) (hN 26 0 0 (by omega)) rfl (by decide) (by first | rfl | ((try dsimp only); omega)) (by first | rfl | ((try dsimp only); omega)) ?_
  refine V_putRF (kx := 0) C d_Li_init_10 cf_Li (by decide) k_Li_11 hal rfl rfl rfl rfl (fun _ => rfl) (fun _ => rfl) ?_
  refine V_aload_n C d_Li_init_13 rfl ?_
  refine V_bipush (v := 12) C d_Li_init_14 (by decide) ?_
  refine V_newa (r := 27) (i := 0) (j := 0) (n := 12) C d_Li_init_16 k_arr_int (by decide) (by decide) (by decide) rfl (fun _ _ => ⟨rfl, rfl⟩) (hN 27 0 0 (by omega)) rfl (by decide) (by decide) (by first | rfl | ((try dsimp only); omega)) (by first | rfl | ((try dsimp only); omega)) (fun _ => show (0 : Nat) ≠ 1 by decide) ?_
  refine V_putRF (kx := 1) C d_Li_init_18 cf_Li (by decide) k_Li_17 hal rfl rfl rfl rfl (fun _ => rfl) (fun _ => rfl) ?_
  refine V_aload_n C d_Li_init_21 rfl ?_
  refine V_new (i := 0) (j := 0) C d_Li_init_22 cf_NT k_Li_21 (hN 3 0 0 (by omega)) (fun k hk => ?_) (by first | rfl | ((try dsimp only); omega)) (by first | rfl | ((try dsimp only); omega)) ?_
  · rcases (show k = 0 ∨ k = 1 ∨ k = 2 ∨ k = 3 ∨ k = 4 by omega) with rfl | rfl | rfl | rfl | rfl <;> first | exact Or.inl ⟨rfl, rfl⟩ | exact Or.inr ⟨rfl, rfl⟩
  refine V_dup C d_Li_init_25 rfl ?_
  refine V_callI (as := []) C d_Li_init_26 (c_NT_init (ν := (up3 (up3 (up3 ν 26 0 0 (some 12)) 27 0 0 (some 12)) 3 0 0 (some 5))) (nn up3_s) (fun r i j h => by rw [up3_ne (by omega), up3_ne (by omega), up3_ne (by omega)]; exact hN r i j (by omega))) m_NT_init k_Li_23 ⟨by decide, by decide⟩ (Nat.le_of_ble_eq_true rfl) ⟨by first | rfl | ((try dsimp only); omega), by first | rfl | ((try dsimp only); omega)⟩ rfl ?_
  rintro _ ν1 ι1 ρ1 _ ⟨rfl, rfl, hF⟩
  have hal1 : ν1 0 0 0 ≠ none := by rw [hF.1 0 0 0 (by omega) (by omega) (by omega) (by omega)]; exact hal
  have hN1 : ∀ r, r = 28 ∨ r = 29 ∨ r = 30 ∨ r = 31 → ν1 r 0 0 = none := fun r hr => by rw [hF.1 r 0 0 (by omega) (by omega) (by omega) (by omega), up3_ne (by omega), up3_ne (by omega), up3_ne (by omega)]; exact hN r 0 0 (by omega)
  dsimp only [Option.toList, List.cons_append, List.nil_append]
  refine V_putRF (kx := 3) C d_Li_init_29 cf_Li (by decide) k_Li_24 (by (try simp (disch := omega) only [up3_ne]); exact hal1) rfl rfl rfl rfl (fun _ => rfl) (fun _ => rfl) ?_
  refine V_aload_n C d_Li_init_32 rfl ?_
  refine V_bipush (v := 96) C d_Li_init_33 (by decide) ?_
  refine V_newa (r := 28) (i := 0) (j := 0) (n := 96) C d_Li_init_35 k_arr_boolean (by decide) (by decide) (by decide) rfl (fun _ _ => ⟨rfl, rfl⟩) (by (try simp (disch := omega) only [up3_ne]); exact hN1 28 (by omega)) rfl (by decide) (by decide) (by first | rfl | ((try dsimp only); omega)) (by first | rfl | ((try dsimp only); omega)) (fun _ => show (0 : Nat) ≠ 1 by decide) ?_
  refine V_putRF (kx := 4) C d_Li_init_37 cf_Li (by decide) k_Li_28 (by (try simp (disch := omega) only [up3_ne]); exact hal1) rfl rfl rfl rfl (fun _ => rfl) (fun _ => rfl) ?_
  refine V_aload_n C d_Li_init_40 rfl ?_
  refine V_bipush (v := 96) C d_Li_init_41 (by decide) ?_
  refine V_newa (r := 29) (i := 0) (j := 0) (n := 96) C d_Li_init_43 k_arr_int (by decide) (by decide) (by decide) rfl (fun _ _ => ⟨rfl, rfl⟩) (by (try simp (disch := omega) only [up3_ne]); exact hN1 29 (by omega)) rfl (by decide) (by decide) (by first | rfl | ((try dsimp only); omega)) (by first | rfl | ((try dsimp only); omega)) (fun _ => show (0 : Nat) ≠ 1 by decide) ?_
  refine V_putRF (kx := 5) C d_Li_init_45 cf_Li (by decide) k_Li_32 (by (try simp (disch := omega) only [up3_ne]); exact hal1) rfl rfl rfl rfl (fun _ => rfl) (fun _ => rfl) ?_
  refine V_aload_n C d_Li_init_48 rfl ?_
  refine V_bipush (v := 96) C d_Li_init_49 (by decide) ?_
  refine V_newa (r := 30) (i := 0) (j := 0) (n := 96) C d_Li_init_51 k_arr_int (by decide) (by decide) (by decide) rfl (fun _ _ => ⟨rfl, rfl⟩) (by (try simp (disch := omega) only [up3_ne]); exact hN1 30 (by omega)) rfl (by decide) (by decide) (by first | rfl | ((try dsimp only); omega)) (by first | rfl | ((try dsimp only); omega)) (fun _ => show (0 : Nat) ≠ 1 by decide) ?_
  refine V_putRF (kx := 7) C d_Li_init_53 cf_Li (by decide) k_Li_35 (by (try simp (disch := omega) only [up3_ne]); exact hal1) rfl rfl rfl rfl (fun _ => rfl) (fun _ => rfl) ?_
  refine V_aload_n C d_Li_init_56 rfl ?_
  refine V_sipush (v := 4096) C d_Li_init_57 (by decide) ?_
  refine V_newa (r := 31) (i := 0) (j := 0) (n := 4096) C d_Li_init_60 k_arr_int (by decide) (by decide) (by decide) rfl (fun _ _ => ⟨rfl, rfl⟩) (by (try simp (disch := omega) only [up3_ne]); exact hN1 31 (by omega)) rfl (by decide) (by decide) (by first | rfl | ((try dsimp only); omega)) (by first | rfl | ((try dsimp only); omega)) (fun _ => show (0 : Nat) ≠ 1 by decide) ?_
  refine V_putRF (kx := 10) C d_Li_init_62 cf_Li (by decide) k_Li_38 (by (try simp (disch := omega) only [up3_ne]); exact hal1) rfl rfl rfl rfl (fun _ => rfl) (fun _ => rfl) ?_
  refine V_aload_n C d_Li_init_65 rfl ?_
  refine V_iconst (v := (-1)) C d_Li_init_66 (by decide) ?_
  refine V_putI (kx := 16) C d_Li_init_67 cf_Li (by decide) k_Li_41 (by (try simp (disch := omega) only [up3_ne]); exact hal1) rfl rfl rfl rfl ?_
  refine V_aload_n C d_Li_init_70 rfl ?_
  refine V_iconst (v := (-1)) C d_Li_init_71 (by decide) ?_
  refine V_putI (kx := 17) C d_Li_init_72 cf_Li (by decide) k_Li_45 (by (try simp (disch := omega) only [up3_ne]); exact hal1) rfl rfl rfl rfl ?_
  refine V_vret C hQ (by decide) (by decide) d_Li_init_75 rfl ?_
  obtain ⟨h1, h2, h3, h4, h5, h6, h7, h8, h9, h10, h11⟩ := hF
  refine ⟨rfl, rfl, fun r a b q => ?_, fun r a b k q => ?_, fun r a b k q => ?_, fun k => ?_, fun k => ?_, ⟨?_, ?_, ?_, ?_, ?_, ?_, ?_, ?_, ?_, ?_, ?_, ?_, ?_⟩, ⟨?_, ?_, ?_, ?_, ?_, ?_, ?_, fun k hk => ?_⟩⟩
  · rw [up3_ne (by omega), up3_ne (by omega), up3_ne (by omega), up3_ne (by omega), h1 r a b (by omega) (by omega) (by omega) (by omega)]
    simp (disch := omega) only [up3_ne, up3_s]
  · rw [up4_ne (by omega), up4_ne (by omega), upA_ne (by omega), upA_ne (by omega), upA_ne (by omega), upA_ne (by omega), h2 r a b k (by omega)]
    simp (disch := omega) only [up4_ne, up4_s, upA_ne, upA_s]
  · rw [up4_ne (by omega), up4_ne (by omega), up4_ne (by omega), up4_ne (by omega), up4_ne (by omega), h3 r a b k (by omega) (by omega) (by omega) (by omega) (by omega)]
    simp (disch := omega) only [up4_ne, up4_s, upA_ne, upA_s]
  · by_cases q17 : k = 17
    · rw [q17, up4_s]; rfl
    · rw [up4_ne (by omega)]
      by_cases q16 : k = 16
      · rw [q16, up4_s]; rfl
      · rw [up4_ne (by omega), if_neg (by omega), upA_ne (by omega), upA_ne (by omega), upA_ne (by omega), upA_ne (by omega), h2 0 0 0 k (by omega)]
        simp (disch := omega) only [up4_ne, up4_s, upA_ne, upA_s]
  · rw [up4_ne (by omega), up4_ne (by omega), upA_ne (by omega), upA_ne (by omega), upA_ne (by omega), upA_ne (by omega), h2 3 0 0 k (by omega)]
    simp (disch := omega) only [up4_ne, up4_s, upA_ne, upA_s]
  · rw [up4_ne (by omega), up4_ne (by omega), up4_ne (by omega), up4_ne (by omega), up4_ne (by omega), h3 0 0 0 0 (by omega) (by omega) (by omega) (by omega) (by omega)]; simp (disch := omega) only [up4_ne, up4_s, upA_ne, upA_s]
  · rw [up3_ne (by omega), up3_ne (by omega), up3_ne (by omega), up3_ne (by omega), h1 26 0 0 (by omega) (by omega) (by omega) (by omega)]; simp (disch := omega) only [up3_ne, up3_s]
  · rw [up4_ne (by omega), up4_ne (by omega), up4_ne (by omega), up4_ne (by omega), up4_ne (by omega), h3 0 0 0 1 (by omega) (by omega) (by omega) (by omega) (by omega)]; simp (disch := omega) only [up4_ne, up4_s, upA_ne, upA_s]
  · rw [up3_ne (by omega), up3_ne (by omega), up3_ne (by omega), up3_ne (by omega), h1 27 0 0 (by omega) (by omega) (by omega) (by omega)]; simp (disch := omega) only [up3_ne, up3_s]
  · simp (disch := omega) only [up4_ne, up4_s, upA_ne, upA_s]
  · simp (disch := omega) only [up4_ne, up4_s, upA_ne, upA_s]
  · simp (disch := omega) only [up3_ne, up3_s]
  · simp (disch := omega) only [up4_ne, up4_s, upA_ne, upA_s]
  · simp (disch := omega) only [up3_ne, up3_s]
  · simp (disch := omega) only [up4_ne, up4_s, upA_ne, upA_s]
  · simp (disch := omega) only [up3_ne, up3_s]
  · simp (disch := omega) only [up4_ne, up4_s, upA_ne, upA_s]
  · simp (disch := omega) only [up3_ne, up3_s]
  · rw [up3_ne (by omega), up3_ne (by omega), up3_ne (by omega), up3_ne (by omega), h1 3 0 0 (by omega) (by omega) (by omega) (by omega)]; simp (disch := omega) only [up3_ne, up3_s]
  · simp (disch := omega) only [up4_ne, up4_s, upA_ne, upA_s]; exact h7
  · simp (disch := omega) only [up3_ne, up3_s]; exact h4
  · simp (disch := omega) only [up4_ne, up4_s, upA_ne, upA_s]; exact h8
  · simp (disch := omega) only [up3_ne, up3_s]; exact h5
  · simp (disch := omega) only [up4_ne, up4_s, upA_ne, upA_s]; exact h9
  · simp (disch := omega) only [up3_ne, up3_s]; exact h6
  · rw [up3_ne (by omega), up3_ne (by omega), up3_ne (by omega), up3_ne (by omega), up4_ne (by omega), up4_ne (by omega), up4_ne (by omega), up4_ne (by omega), up4_ne (by omega)]; exact h10 k hk
