def isK (r : Nat) : Prop := r = 0 ∨ r = 1 ∨ r = 3 ∨ r = 4 ∨ r = 9 ∨ r = 20 ∨ (25 ≤ r ∧ r ≤ 34)
/-- the class's object, made -/
def OIF (ν ν1 : Nu) (ι1 : Io) (ρ1 : Ro) : Prop := OS ν1 ρ1 ∧ (∀ r i j, ¬ isK r → ν1 r i j = ν r i j) ∧ (∀ k, ι1 0 0 0 k = if k = 16 ∨ k = 17 then -1 else 0) ∧ (∀ k, ι1 3 0 0 k = 0) ∧ ι1 4 0 0 1 = 0 ∧ ι1 9 0 0 1 = 0
set_option maxHeartbeats 1000000 in
set_option maxRecDepth 10000 in
theorem c_OL_init {ν : Nu} {ι : Io} {ρ : Ro} {ℓ : Lo} (hal : ν 9 0 0 = some 4) (hN : ∀ r i j, r ≠ 9 → ν r i j = none) (hι : ι 9 0 0 1 = 0) : Ct y_OL_init (Cond.code y_OL_init b_OL_init 1 none :: tb_) { frames := 4, cells := 158, slots := 7336, locals := 101 } [sR 9 0 0] ν ι ρ ℓ (fun v ν1 ι1 ρ1 ℓ1 => none = v ∧ ℓ = ℓ1 ∧ OIF ν ν1 ι1 ρ1) (noX) := by
  refine Ct.ofV (by decide) (Nat.le_of_ble_eq_true rfl) rfl ?_
  intro p l e s m args below meth c D B tW α0 Q C hQ
  have hal9 : ν 9 0 0 ≠ none := nn hal
  refine V_aload_n C d_OL_init_0 rfl ?_
  refine V_objI C d_OL_init_1 k_OL_3 k_obj (by decide) (Nat.le_of_ble_eq_true rfl) ?_
  refine V_aload_n C d_OL_init_4 rfl ?_
  refine V_bipush (v := 12) C d_OL_init_5 (by decide) ?_
  refine V_anew (r := 20) (i := 0) (j := 0) (n := 12) C d_OL_init_7 k_OL_9 (by decide) (by decide) (by decide) (by decide) rfl (fun _ => rfl) (hN 20 0 0 (by omega)) rfl (by decide) (by first | rfl | ((try dsimp only); omega)) (by first | rfl | ((try dsimp only); omega)) ?_
  refine V_putRF (kx := 0) C d_OL_init_10 cf_OL (by decide) k_OL_11 hal9 rfl rfl rfl rfl (fun _ => rfl) (fun _ => rfl) ?_
  refine V_aload_n C d_OL_init_13 rfl ?_
  refine V_new (i := 0) (j := 0) C d_OL_init_14 cf_Li k_OL_15 (hN 0 0 0 (by omega)) (fun k hk => ?_) (by first | rfl | ((try dsimp only); omega)) (by first | rfl | ((try dsimp only); omega)) ?_
  · rcases (show k = 0 ∨ k = 1 ∨ k = 2 ∨ k = 3 ∨ k = 4 ∨ k = 5 ∨ k = 6 ∨ k = 7 ∨ k = 8 ∨ k = 9 ∨ k = 10 ∨ k = 11 ∨ k = 12 ∨ k = 13 ∨ k = 14 ∨ k = 15 ∨ k = 16 ∨ k = 17 by omega) with rfl | rfl | rfl | rfl | rfl | rfl | rfl | rfl | rfl | rfl | rfl | rfl | rfl | rfl | rfl | rfl | rfl | rfl <;> first | exact Or.inl ⟨rfl, rfl⟩ | exact Or.inr ⟨rfl, rfl⟩
  refine V_dup C d_OL_init_17 rfl ?_
  refine V_callIN (as := []) C d_OL_init_18 (c_Li_init (ν := (up3 (up3 ν 20 0 0 (some 12)) 0 0 0 (some 18))) (nn up3_s) (fun r i j h => by rw [up3_ne (by omega), up3_ne (by omega)]; exact hN r i j (by omega))) m_Li_init k_OL_17 ⟨by decide, by decide⟩ (Nat.le_of_ble_eq_true rfl) ⟨by first | rfl | ((try dsimp only); omega), by first | rfl | ((try dsimp only); omega)⟩ rfl ?_
  rintro _ ν1 ι1 ρ1 _ ⟨rfl, rfl, hF⟩
  have hal1 : ν1 9 0 0 ≠ none := by rw [hF.1 9 0 0 (by omega)]; exact hal9
  have hN4 : ν1 4 0 0 = none := by rw [hF.1 4 0 0 (by omega)]; exact hN 4 0 0 (by omega)
  have hN25 : ν1 25 0 0 = none := by rw [hF.1 25 0 0 (by omega)]; exact hN 25 0 0 (by omega)
  dsimp only [Option.toList, List.cons_append, List.nil_append]
  refine V_putRF (kx := 2) C d_OL_init_21 cf_OL (by decide) k_OL_18 hal1 rfl rfl rfl rfl (fun _ => rfl) (fun _ => rfl) ?_
  refine V_aload_n C d_OL_init_24 rfl ?_
  refine V_new (i := 0) (j := 0) C d_OL_init_25 cf_Oc k_OL_22 hN4 (fun k hk => ?_) (by first | rfl | ((try dsimp only); omega)) (by first | rfl | ((try dsimp only); omega)) ?_
  · rcases (show k = 0 ∨ k = 1 by omega) with rfl | rfl <;> first | exact Or.inl ⟨rfl, rfl⟩ | exact Or.inr ⟨rfl, rfl⟩
  refine V_dup C d_OL_init_28 rfl ?_
  refine V_callIN (as := []) C d_OL_init_29 (c_Oc_init (ν := up3 ν1 4 0 0 (some 2)) (nn up3_s) hN25) m_Oc_init k_OL_24 ⟨by decide, by decide⟩ (Nat.le_of_ble_eq_true rfl) ⟨by first | rfl | ((try dsimp only); omega), by first | rfl | ((try dsimp only); omega)⟩ rfl ?_
  rintro _ _ _ _ _ ⟨rfl, rfl, rfl, rfl, rfl⟩
  dsimp only [Option.toList, List.cons_append, List.nil_append]
  refine V_putRF (kx := 3) C d_OL_init_32 cf_OL (by decide) k_OL_25 hal1 rfl rfl rfl rfl (fun _ => rfl) (fun _ => rfl) ?_
  refine V_vret C hQ (by decide) (by decide) d_OL_init_35 rfl ?_
  obtain ⟨h1, h2, h3, h4, h5, ⟨a0, a1, a2, a3, a4, a5, a6, a7, a8, a9, b0, b1, b2_⟩, ⟨c0, c1, c2, c3, c4, c5, c6, c7⟩⟩ := hF
  refine ⟨rfl, rfl, ⟨?_, ?_, ?_, ?_, ?_, ?_, ?_, ?_, ?_, ?_, ?_, ?_, ?_, ?_, ?_, ?_, ?_, ?_, ?_, ?_, ?_, ?_, ?_, ?_, ?_, ?_, fun k hk => ?_, ?_, ?_, ?_⟩, fun r i j h => ?_, fun k => ?_, fun k => ?_, ?_, ?_⟩
  · simp (disch := omega) only [up3_ne, up3_s]; rw [h1 9 0 0 (by omega)]; simp (disch := omega) only [up3_ne, up3_s]; exact hal
  · simp (disch := omega) only [up4_ne, up4_s, upA_ne, upA_s]; rw [h3 9 0 0 0 (by omega)]; simp (disch := omega) only [up4_ne, up4_s, upA_ne, upA_s]
  · simp (disch := omega) only [up3_ne, up3_s]; rw [h1 20 0 0 (by omega)]; simp (disch := omega) only [up3_ne, up3_s]
  · simp (disch := omega) only [up4_ne, up4_s, upA_ne, upA_s]
  · simp (disch := omega) only [up4_ne, up4_s, upA_ne, upA_s]
  · simp (disch := omega) only [up3_ne, up3_s]; rw [h1 0 0 0 (by omega)]; simp (disch := omega) only [up3_ne, up3_s]
  · simp (disch := omega) only [up4_ne, up4_s, upA_ne, upA_s]; exact a0
  · simp (disch := omega) only [up3_ne, up3_s]; exact a1
  · simp (disch := omega) only [up4_ne, up4_s, upA_ne, upA_s]; exact a2
  · simp (disch := omega) only [up3_ne, up3_s]; exact a3
  · simp (disch := omega) only [up4_ne, up4_s, upA_ne, upA_s]; exact a4
  · simp (disch := omega) only [up4_ne, up4_s, upA_ne, upA_s]; exact a5
  · simp (disch := omega) only [up3_ne, up3_s]; exact a6
  · simp (disch := omega) only [up4_ne, up4_s, upA_ne, upA_s]; exact a7
  · simp (disch := omega) only [up3_ne, up3_s]; exact a8
  · simp (disch := omega) only [up4_ne, up4_s, upA_ne, upA_s]; exact a9
  · simp (disch := omega) only [up3_ne, up3_s]; exact b0
  · simp (disch := omega) only [up4_ne, up4_s, upA_ne, upA_s]; exact b1
  · simp (disch := omega) only [up3_ne, up3_s]; exact b2_
  · simp (disch := omega) only [up3_ne, up3_s]; exact c0
  · simp (disch := omega) only [up4_ne, up4_s, upA_ne, upA_s]; exact c1
  · simp (disch := omega) only [up3_ne, up3_s]; exact c2
  · simp (disch := omega) only [up4_ne, up4_s, upA_ne, upA_s]; exact c3
  · simp (disch := omega) only [up3_ne, up3_s]; exact c4
  · simp (disch := omega) only [up4_ne, up4_s, upA_ne, upA_s]; exact c5
  · simp (disch := omega) only [up3_ne, up3_s]; exact c6
  · simp (disch := omega) only [up3_ne, up3_s]; simp (disch := omega) only [up4_ne, up4_s, upA_ne, upA_s]; exact c7 k hk
  · simp (disch := omega) only [up3_ne, up3_s]
  · simp (disch := omega) only [up4_ne, up4_s, upA_ne, upA_s]
  · simp (disch := omega) only [up3_ne, up3_s]
  · unfold isK at h; simp (disch := omega) only [up3_ne, up3_s]; rw [h1 r i j (by omega)]; simp (disch := omega) only [up3_ne, up3_s]
  · simp (disch := omega) only [up4_ne, up4_s, upA_ne, upA_s]; rw [h4 k, upA_s]
  · simp (disch := omega) only [up4_ne, up4_s, upA_ne, upA_s]; exact h5 k
  · simp (disch := omega) only [up4_ne, up4_s, upA_ne, upA_s]
  · simp (disch := omega) only [up4_ne, up4_s, upA_ne, upA_s]; rw [h2 9 0 0 1 (by omega)]; simp (disch := omega) only [up4_ne, up4_s, upA_ne, upA_s]; exact hι
/-- the start: nothing is made, chosen, linked or written -/
theorem INV0 {ν ν1 : Nu} {ι1 : Io} {ρ1 : Ro} (h : OIF ν ν1 ι1 ρ1) (hN : ∀ r i j, r ≠ 9 → ν r i j = none) {ι2 : Io} {ρ2 : Ro} (hi : ι2 = upA ι1 10 0 0 (fun _ => 0)) (hr : ρ2 = upA ρ1 10 0 0 (fun _ => none)) : IV (MiN (up3 ν1 10 0 0 (some 42))) (fil (MiI ι2) 64 0 96 (-1)) (MiR ρ2) 0 0 0 0 0 0 0 := by
  obtain ⟨hO, hn, h0, h3, h4, h9⟩ := h
  subst hi
  subst hr
  have eI : ∀ r i j k, ¬ isMr r → fil (MiI (upA ι1 10 0 0 (fun _ => 0))) 64 0 96 (-1) r i j k = ι1 r i j k := fun r i j k hm => by
    rw [fil_ne (by omega), MiI_fr r i j k hm, upA_ne (by omega)]
  have e10 : ∀ k, k ≠ 26 → k ≠ 27 → fil (MiI (upA ι1 10 0 0 (fun _ => 0))) 64 0 96 (-1) 10 0 0 k = 0 := fun k q1 q2 => by
    rw [fil_ne (by omega)]
    unfold MiI
    simp (disch := omega) only [up4_ne, upA_ne, upA_s]
  have e26 : ∀ k, k = 26 ∨ k = 27 → fil (MiI (upA ι1 10 0 0 (fun _ => 0))) 64 0 96 (-1) 10 0 0 k = -1 := fun k q => by
    rw [fil_ne (by omega)]
    unfold MiI
    rcases q with rfl | rfl <;> simp (disch := omega) only [up4_ne, up4_s, upA_ne]
  have eN : ∀ r i j, ¬ isMr r → MiN (up3 ν1 10 0 0 (some 42)) r i j = ν1 r i j := fun r i j hm => by
    rw [MiN_fr r i j hm, up3_ne (by omega)]
  have eR : ∀ r i j k, ¬ isMr r → MiR (upA ρ1 10 0 0 (fun _ => none)) r i j k = ρ1 r i j k := fun r i j k hm => by
    rw [MiR_fr r i j k hm, upA_ne (by omega)]
  have hB : ∀ r N M, (r = 42 ∨ r = 43 ∨ r = 44 ∨ r = 45 ∨ r = 46 ∨ r = 47 ∨ r = 48 ∨ r = 49 ∨ r = 50 ∨ r = 51 ∨ r = 52 ∨ r = 53 ∨ r = 54 ∨ r = 55 ∨ r = 56 ∨ r = 57 ∨ r = 59 ∨ r = 61 ∨ r = 62 ∨ r = 63 ∨ r = 73 ∨ r = 75 ∨ r = 76 ∨ r = 78) → bd (fil (MiI (upA ι1 10 0 0 (fun _ => 0))) 64 0 96 (-1)) r N M := fun r N M hr t _ => ⟨0, by omega, MiA r t hr⟩
  have hOS : OS (MiN (up3 ν1 10 0 0 (some 42))) (MiR (upA ρ1 10 0 0 (fun _ => none))) := by
    unfold OS at hO ⊢
    simp only [eN 9 0 0 (by decide), eN 20 0 0 (by decide), eN 0 0 0 (by decide), eN 26 0 0 (by decide), eN 27 0 0 (by decide), eN 28 0 0 (by decide), eN 29 0 0 (by decide), eN 30 0 0 (by decide), eN 31 0 0 (by decide), eN 3 0 0 (by decide), eN 32 0 0 (by decide), eN 33 0 0 (by decide), eN 34 0 0 (by decide), eN 4 0 0 (by decide), eN 25 0 0 (by decide), show ∀ k, MiN (up3 ν1 10 0 0 (some 42)) 1 k 0 = ν1 1 k 0 from fun k => eN 1 k 0 (by decide), show ∀ k, MiR (upA ρ1 10 0 0 (fun _ => none)) 9 0 0 k = ρ1 9 0 0 k from fun k => eR 9 0 0 k (by decide), show ∀ k, MiR (upA ρ1 10 0 0 (fun _ => none)) 0 0 0 k = ρ1 0 0 0 k from fun k => eR 0 0 0 k (by decide), show ∀ k, MiR (upA ρ1 10 0 0 (fun _ => none)) 3 0 0 k = ρ1 3 0 0 k from fun k => eR 3 0 0 k (by decide), show ∀ k, MiR (upA ρ1 10 0 0 (fun _ => none)) 4 0 0 k = ρ1 4 0 0 k from fun k => eR 4 0 0 k (by decide), show ∀ k, MiR (upA ρ1 10 0 0 (fun _ => none)) 32 0 0 k = ρ1 32 0 0 k from fun k => eR 32 0 0 k (by decide)]
    exact hO
  refine ⟨hOS, MiS up3_s, ⟨⟨hB 42 _ _ (by omega), hB 47 _ _ (by omega), hB 52 _ _ (by omega), hB 43 _ _ (by omega), hB 44 _ _ (by omega), hB 45 _ _ (by omega), hB 49 _ _ (by omega), hB 50 _ _ (by omega), hB 51 _ _ (by omega), hB 53 _ _ (by omega), hB 54 _ _ (by omega), hB 55 _ _ (by omega), hB 56 _ _ (by omega)⟩, hB 78 _ _ (by omega), hB 59 _ _ (by omega)⟩, ⟨?_, ?_, by omega, fun o ho => absurd ho (by omega), fun o _ => ?_⟩, ⟨?_, ?_, by omega, fun k hk => absurd hk (by omega), fun k _ hk => absurd hk (by omega)⟩, ⟨?_, ?_, by omega, fun k hk => absurd hk (by omega)⟩, ⟨?_, ?_, ?_⟩, ⟨?_, ?_, by omega, ?_, ?_, ?_, fun k hk => absurd hk (by omega)⟩, fun s hs => ?_, ⟨?_, by omega, fun k hk => absurd hk (by omega), ?_, by omega, fun x => ?_⟩, fun g' _ => ?_⟩
  · rw [eI 9 0 0 1 (by decide)]; exact h9
  · exact e10 1 (by decide) (by decide)
  · have hh : ∀ r i j, isU r → MiN (up3 ν1 10 0 0 (some 42)) r i j = none := fun r i j hr => by
      have hr9 := hr
      unfold isU at hr9
      rw [eN r i j (by unfold isMr; omega), hn r i j (by unfold isK; omega)]
      exact hN r i j (by have := hr.n5; omega)
    exact ⟨hh _ _ _ u8, hh _ _ _ u21, hh _ _ _ u22, hh _ _ _ u23, fun s => ⟨hh _ _ _ u7, hh _ _ _ u24, hh _ _ _ u2, hh _ _ _ u6⟩⟩
  · rw [eI 0 0 0 2 (by decide), h0]; rfl
  · exact e10 18 (by decide) (by decide)
  · rw [eI 4 0 0 1 (by decide)]; exact h4
  · exact e10 37 (by decide) (by decide)
  · rw [eI 0 0 0 15 (by decide), h0, e10 25 (by decide) (by decide)]; rfl
  · rw [eI 0 0 0 16 (by decide), h0, e26 26 (by omega)]; rfl
  · rw [eI 0 0 0 17 (by decide), h0, e26 27 (by omega)]; rfl
  · rw [eI 0 0 0 11 (by decide), h0]; rfl
  · exact e10 29 (by decide) (by decide)
  · rw [eI 0 0 0 12 (by decide), h0, e10 30 (by decide) (by decide)]; rfl
  · rw [eI 0 0 0 13 (by decide), h0, e10 32 (by decide) (by decide)]; rfl
  · rw [eI 0 0 0 14 (by decide), h0, e10 31 (by decide) (by decide)]; rfl
  · unfold plC plM
    rw [eI 0 0 0 8 (by decide), h0, if_neg (fun z => z.1 rfl), fil_in (by omega), if_pos (by decide)]
  · rw [eI 3 0 0 1 (by decide)]; exact h3 1
  · exact e10 34 (by decide) (by decide)
  · unfold naC naM
    rw [eI 0 0 0 8 (by decide), h0]
    rfl
  · rw [eN 5 g' 0 (by decide), hn 5 g' 0 (by unfold isK; omega)]
    exact hN 5 g' 0 (by decide)
