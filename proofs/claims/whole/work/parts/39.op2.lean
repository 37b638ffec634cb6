set_option maxHeartbeats 1000000 in
set_option maxRecDepth 10000 in
theorem c_OL_object {ν : Nu} {ι : Io} {ρ : Ro} {ℓ : Lo} {N c9 w9 n9 z9 kn g9 : Nat} (hI : IV ν ι ρ N c9 w9 n9 z9 kn g9) : Ct y_OL_object (Cond.code y_OL_object b_OL_object 1 (some .int) :: tb_) { frames := 6, cells := 60, slots := 2000, locals := 90 } [sR 9 0 0] ν ι ρ ℓ (fun r9 ν1 ι1 ρ1 ℓ1 => ℓ = ℓ1 ∧ ν1 90 0 0 = ν 90 0 0 ∧ ∃ b, r9 = some (sI b) ∧ MC y_Mo_object (Cond.code y_Mo_object b_Mo_object 1 (some .int) :: tb_) { frames := 1, cells := 0, slots := 0, locals := 21 } [sR 10 0 0] 0 b ν ρ ν1 ι1 ρ1) (fun E ν1 ι1 ρ1 ℓ1 => ℓ = ℓ1 ∧ ν1 90 0 0 = ν 90 0 0 ∧ ∃ k7, (E, k7) ∈ ([("java/lang/UnsupportedOperationException", 1)] : List (String × Int32)) ∧ MC y_Mo_object (Cond.code y_Mo_object b_Mo_object 1 (some .int) :: tb_) { frames := 1, cells := 0, slots := 0, locals := 21 } [sR 10 0 0] k7 0 ν ρ ν1 ι1 ρ1) := by
  refine Ct.ofV (by decide) (Nat.le_of_ble_eq_true rfl) rfl ?_
  intro p l e s m args below meth c D B tW α0 Q C hQ
  have h12 := hI.N12
  by_cases hN : N = 12
  · skip
    refine V_aload_n C d_OL_object_0 rfl ?_
    refine V_getI (kx := 1) C d_OL_object_1 cf_OL (by decide) k_OL_29 (nn hI.os.n9) rfl ?_
    refine V_eqi (y := nI N) hI.iu.1 ?_
    refine V_bipush (v := 12) C d_OL_object_4 (by decide) ?_
    refine V_icmp_lt (tgt := 19) C d_OL_object_6 (by decide) (fun h6 => absurd ((nI_ltI (a := N) (b := 12) (by omega) (by decide)).mp h6) (by omega)) (fun h6 => ?_)
    refine V_throwS (E := "java/lang/UnsupportedOperationException") (text := "there are twelve objects") (ik := 33) (is := 35) (ic := 37) C hQ rfl (by decide) k_OL_33 (tb_in 77 (by decide +kernel) rfl) (by decide +kernel) (by decide +kernel) (by decide +kernel) (by decide +kernel) (by decide +kernel) d_OL_object_9 d_OL_object_12 d_OL_object_13 d_OL_object_15 d_OL_object_18 (by decide) (Nat.le_of_ble_eq_true rfl) (by decide) (by decide) (by decide) (by decide) ?_
    exact ⟨rfl, rfl, 1, by simp, MC.eq (b' := 0) (ι2 := (up4 (z0 ι) 10 0 0 0 1)) (fun ℓ9 => by have h9 := c_Mo_object (ν := ν) (ι := ι) (ρ := ρ) (ℓ := ℓ9) hI.mo (n := N) hI.iu.2.1 hI.N12; rw [if_pos hN, if_pos hN] at h9; exact h9) (fun h => absurd h (by decide)) (rfl) (gm.rf) (⟨N, c9, w9, n9, z9, kn, g9, hI.t0.t0⟩)⟩
  · have hN9 : N < 12 := by omega
    have hF := hI.iu.2.2.2.2 N (Nat.le_refl N)
    refine V_aload_n C d_OL_object_0 rfl ?_
    refine V_getI (kx := 1) C d_OL_object_1 cf_OL (by decide) k_OL_29 (nn hI.os.n9) rfl ?_
    refine V_eqi (y := nI N) hI.iu.1 ?_
    refine V_bipush (v := 12) C d_OL_object_4 (by decide) ?_
    refine V_icmp_lt (tgt := 19) C d_OL_object_6 (by decide) (fun h6 => ?_) (fun h6 => absurd ((nI_ltI (a := N) (b := 12) (by omega) (by decide)).mpr hN9) h6)
    refine V_aload_n C d_OL_object_19 rfl ?_
    refine V_new (i := N) (j := 0) C d_OL_object_20 cf_Un k_OL_9 hF.1 (fun k hk => ?_) (by decide) (by decide) ?_
    · rcases (show k = 0 ∨ k = 1 ∨ k = 2 ∨ k = 3 ∨ k = 4 ∨ k = 5 by omega) with rfl | rfl | rfl | rfl | rfl | rfl <;> first | exact Or.inl ⟨rfl, rfl⟩ | exact Or.inr ⟨rfl, rfl⟩
    refine V_dup C d_OL_object_23 rfl ?_
    refine V_callIN (as := []) C d_OL_object_24 (c_Un_init (ν := up3 ν 8 N 0 (some 6)) (o := N) (nn up3_s) hF.2.1 hF.2.2.1 hF.2.2.2.1) m_Un_init k_OL_40 ⟨by decide, by decide⟩ (Nat.le_of_ble_eq_true rfl) ⟨by decide, by decide⟩ rfl ?_
    rintro _ _ _ _ _ ⟨rfl, rfl, rfl, rfl, rfl⟩
    dsimp only [Option.toList, List.cons_append, List.nil_append]
    refine V_callV (as := [_]) C d_OL_object_27 (c_OL_keep (ν := oν ν N) (ι := upA ι 8 N 0 (fun _ => 0)) (ρ := oρ ρ N) (nn hI.os.n9) hI.os.r90 hI.os.n20 hI.iu.1 hN9 (by simp [up3])) m_OL_keep cf_OL k_OL_41 (nn hI.os.n9) ⟨by decide, by decide⟩ (Nat.le_of_ble_eq_true rfl) ⟨by decide, by decide⟩ rfl ?_
    rintro _ _ _ _ _ ⟨rfl, rfl, rfl, rfl, rfl⟩
    dsimp only [Option.toList, List.cons_append, List.nil_append]
    refine V_iret C hQ (by decide) (by decide) d_OL_object_30 rfl ?_
    exact ⟨rfl, rfl, _, rfl, MC.eq (b' := (nI N)) (ι2 := (up4 (mEmpty (z0 (up4 (upA ι 8 N 0 (fun _ => 0)) 9 0 0 1 (nI (N + 1)))) N) 10 0 0 1 (nI (N + 1)))) (fun ℓ9 => by have h9 := c_Mo_object (ν := oν ν N) (ι := (up4 (upA ι 8 N 0 (fun _ => 0)) 9 0 0 1 (nI (N + 1)))) (ρ := (up4 (oρ ρ N) 20 0 0 N (some (8, N, 0)))) (ℓ := ℓ9) hI.mo (n := N) hI.iu.2.1 hI.N12; rw [if_neg hN, if_neg hN] at h9; exact h9) (fun _ => rfl) (rfl) (gm.rf.up.up.up.up) (⟨N + 1, c9, w9, n9, z9, kn, g9, IV.obj hI hN9⟩)⟩
set_option maxHeartbeats 1000000 in
set_option maxRecDepth 10000 in
theorem c_OL_section {ν : Nu} {ι : Io} {ρ : Ro} {ℓ : Lo} {N c9 w9 n9 z9 kn g9 : Nat} (hI : IV ν ι ρ N c9 w9 n9 z9 kn g9) {x k q n : Int32} : Ct y_OL_section (Cond.code y_OL_section b_OL_section 6 (some .int) :: tb_) { frames := 7, cells := 60, slots := 2000, locals := 112 } [sR 9 0 0, sI x, sI k, sI q, sI n] ν ι ρ ℓ (fun r9 ν1 ι1 ρ1 ℓ1 => ℓ = ℓ1 ∧ ν1 90 0 0 = ν 90 0 0 ∧ ∃ b, r9 = some (sI b) ∧ MC y_Mo_section (Cond.code y_Mo_section b_Mo_section 5 (some .int) :: tb_) { frames := 2, cells := 0, slots := 0, locals := 44 } [sR 10 0 0, sI x, sI k, sI q, sI n] 0 b ν ρ ν1 ι1 ρ1) (fun E ν1 ι1 ρ1 ℓ1 => ℓ = ℓ1 ∧ ν1 90 0 0 = ν 90 0 0 ∧ ∃ k7, (E, k7) ∈ ([("java/lang/IndexOutOfBoundsException", 1), ("java/lang/IllegalArgumentException", 2), ("java/lang/UnsupportedOperationException", 3)] : List (String × Int32)) ∧ MC y_Mo_section (Cond.code y_Mo_section b_Mo_section 5 (some .int) :: tb_) { frames := 2, cells := 0, slots := 0, locals := 44 } [sR 10 0 0, sI x, sI k, sI q, sI n] k7 0 ν ρ ν1 ι1 ρ1) := by
  refine Ct.ofV (by decide) (Nat.le_of_ble_eq_true rfl) rfl ?_
  intro p l e s m args below meth c D B tW α0 Q C hQ
  have h12 := hI.N12
  by_cases hx : 0 ≤ x ∧ x ≤ nI N - 1
  · obtain ⟨t, ht, hxt⟩ := rng_of (by omega) hx
    subst hxt
    have hU := hI.um ht
    have e42 : ι 42 0 0 t = nI (mn ι 42 t) := hI.bd.b42.eq (by omega)
    have hC := hI.cv ht
    have h8 := hU.c8
    have l47 := hU.n12
    have l52 := hU.r16
    by_cases hv : isSc k q n
    · obtain ⟨m, hm, hnm⟩ := rgN (M := 128) (by decide) hv.2.2
      subst hnm
      by_cases hc : mn ι 42 t = 8
      · skip
        refine V_aload_n C d_OL_section_0 rfl ?_
        refine V_iload_n C d_OL_section_1 rfl ?_
        refine V_callV (as := [_]) C d_OL_section_2 (c_OL_known_y hI ht) m_OL_known cf_OL k_OL_45 (nn hI.os.n9) ⟨by decide, by decide⟩ (Nat.le_of_ble_eq_true rfl) ⟨by decide, by decide⟩ rfl ?_
        rintro _ _ _ _ _ ⟨rfl, rfl, rfl, rfl, rfl⟩
        dsimp only [Option.toList, List.cons_append, List.nil_append]
        refine V_astore (lv' := [(5, _), (0, _), (1, _), (2, _), (3, _), (4, _)]) C d_OL_section_5 (by decide) rfl ?_
        refine V_iload_n C d_OL_section_7 rfl ?_
        refine V_iload_n C d_OL_section_8 rfl ?_
        refine V_iload C d_OL_section_9 rfl ?_
        refine V_callS (as := [_, _, _]) C d_OL_section_11 c_Se_canBe m_Se_canBe k_OL_49 ⟨by decide, by decide⟩ (Nat.le_of_ble_eq_true rfl) ⟨by decide, by decide⟩ rfl ?_
        rintro _ _ _ _ _ ⟨rfl, rfl, rfl, rfl, rfl⟩
        dsimp only [Option.toList, List.cons_append, List.nil_append]
        refine V_if_ne (tgt := 27) C d_OL_section_14 (by decide) (fun h14 => ?_) (fun h14 => absurd hv (b2_0.mp h14))
        refine V_aload C d_OL_section_27 rfl ?_
        refine V_getI (kx := 1) C d_OL_section_29 cf_Un (by decide) k_OL_60 hU.al rfl ?_
        refine V_eqi (y := nI (mn ι 42 t)) hU.ec ?_
        refine V_bipush (v := 8) C d_OL_section_32 (by decide) ?_
        refine V_icmp_lt (tgt := 47) C d_OL_section_34 (by decide) (fun h34 => absurd ((nI_ltI (a := mn ι 42 t) (b := 8) (by omega) (by decide)).mp h34) (by omega)) (fun h34 => ?_)
        refine V_throwS (E := "java/lang/UnsupportedOperationException") (text := "there are eight sections") (ik := 33) (is := 63) (ic := 37) C hQ rfl (by decide) k_OL_33 (tb_in 77 (by decide +kernel) rfl) (by decide +kernel) (by decide +kernel) (by decide +kernel) (by decide +kernel) (by decide +kernel) d_OL_section_37 d_OL_section_40 d_OL_section_41 d_OL_section_43 d_OL_section_46 (by decide) (Nat.le_of_ble_eq_true rfl) (by decide) (by decide) (by decide) (by decide) ?_
        exact ⟨rfl, rfl, 3, by simp, MC.eq (b' := 0) (ι2 := (up4 (z0 ι) 10 0 0 0 3)) (fun ℓ9 => by have h9 := c_Mo_section (ν := ν) (ι := ι) (ρ := ρ) (ℓ := ℓ9) hI.mo (t := t) (by omega) (show isOb ι (nI t) from by unfold isOb; rw [hI.iu.2.1]; exact rng_to (by omega) ht) hI.bd.b42 (k := k) (q := q) (n := (nI m)); rw [if_pos hv, if_pos hc, if_pos hv, if_pos hc] at h9; exact h9) (fun h => absurd h (by decide)) (rfl) (gm.rf) (⟨N, c9, w9, n9, z9, kn, g9, hI.t0.t0⟩)⟩
      · have hc9 : mn ι 42 t < 8 := by omega
        have hc1 : mn (sι ι t (mn ι 42 t) m k q) 42 t = mn ι 42 t := mn_c rfl
        refine V_aload_n C d_OL_section_0 rfl ?_
        refine V_iload_n C d_OL_section_1 rfl ?_
        refine V_callV (as := [_]) C d_OL_section_2 (c_OL_known_y hI ht) m_OL_known cf_OL k_OL_45 (nn hI.os.n9) ⟨by decide, by decide⟩ (Nat.le_of_ble_eq_true rfl) ⟨by decide, by decide⟩ rfl ?_
        rintro _ _ _ _ _ ⟨rfl, rfl, rfl, rfl, rfl⟩
        dsimp only [Option.toList, List.cons_append, List.nil_append]
        refine V_astore (lv' := [(5, _), (0, _), (1, _), (2, _), (3, _), (4, _)]) C d_OL_section_5 (by decide) rfl ?_
        refine V_iload_n C d_OL_section_7 rfl ?_
        refine V_iload_n C d_OL_section_8 rfl ?_
        refine V_iload C d_OL_section_9 rfl ?_
        refine V_callS (as := [_, _, _]) C d_OL_section_11 c_Se_canBe m_Se_canBe k_OL_49 ⟨by decide, by decide⟩ (Nat.le_of_ble_eq_true rfl) ⟨by decide, by decide⟩ rfl ?_
        rintro _ _ _ _ _ ⟨rfl, rfl, rfl, rfl, rfl⟩
        dsimp only [Option.toList, List.cons_append, List.nil_append]
        refine V_if_ne (tgt := 27) C d_OL_section_14 (by decide) (fun h14 => ?_) (fun h14 => absurd hv (b2_0.mp h14))
        refine V_aload C d_OL_section_27 rfl ?_
        refine V_getI (kx := 1) C d_OL_section_29 cf_Un (by decide) k_OL_60 hU.al rfl ?_
        refine V_eqi (y := nI (mn ι 42 t)) hU.ec ?_
        refine V_bipush (v := 8) C d_OL_section_32 (by decide) ?_
        refine V_icmp_lt (tgt := 47) C d_OL_section_34 (by decide) (fun h34 => ?_) (fun h34 => absurd ((nI_ltI (a := mn ι 42 t) (b := 8) (by omega) (by decide)).mpr hc9) h34)
        refine V_aload C d_OL_section_47 rfl ?_
        refine V_new (i := t) (j := (mn ι 42 t)) C d_OL_section_49 cf_Se k_OL_50 (hU.fs (Nat.le_refl _)).1 (fun k hk => ?_) (by decide) (by decide) ?_
        · rcases (show k = 0 ∨ k = 1 ∨ k = 2 ∨ k = 3 by omega) with rfl | rfl | rfl | rfl <;> first | exact Or.inl ⟨rfl, rfl⟩ | exact Or.inr ⟨rfl, rfl⟩
        refine V_dup C d_OL_section_52 rfl ?_
        refine V_iload_n C d_OL_section_53 rfl ?_
        refine V_iload_n C d_OL_section_54 rfl ?_
        refine V_iload C d_OL_section_55 rfl ?_
        refine V_callI (as := [_, _, _]) C d_OL_section_57 (c_Se_init (ν := up3 ν 7 t (mn ι 42 t) (some 4)) (o := t) (s9 := mn ι 42 t) (n := m) (nn up3_s) (hU.fs (Nat.le_refl _)).2 hm) m_Se_init k_OL_65 ⟨by decide, by decide⟩ (Nat.le_of_ble_eq_true rfl) ⟨by decide, by decide⟩ rfl ?_
        rintro _ _ _ _ _ ⟨rfl, rfl, rfl, rfl, rfl⟩
        dsimp only [Option.toList, List.cons_append, List.nil_append]
        refine V_callV (as := [_]) C d_OL_section_60 (c_Un_addSection (ν := sν ν t (mn ι 42 t) m k) (ι := (upA (up4 (up4 (up4 (upA ι 7 t (mn ι 42 t) (fun _ => 0)) 7 t (mn ι 42 t) 0 k) 7 t (mn ι 42 t) 1 q) 7 t (mn ι 42 t) 2 (nI m)) 24 t (mn ι 42 t) (fun _ => 0))) (ρ := (up4 (upA ρ 7 t (mn ι 42 t) (fun _ => none)) 7 t (mn ι 42 t) 3 (some (24, t, mn ι 42 t)))) (o := t) hU.u hU.ec hc9 (by simp [up3])) m_Un_addSection cf_Un k_OL_68 hU.al ⟨by decide, by decide⟩ (Nat.le_of_ble_eq_true rfl) ⟨by decide, by decide⟩ rfl ?_
        rintro _ _ _ _ _ ⟨rfl, rfl, rfl, rfl, rfl⟩
        dsimp only [Option.toList, List.cons_append, List.nil_append]
        refine V_iret C hQ (by decide) (by decide) d_OL_section_63 rfl ?_
        exact ⟨rfl, rfl, _, rfl, MC.eq (b' := (nI (mn ι 42 t))) (ι2 := (mAddSec (z0 (sι ι t (mn ι 42 t) m k q)) t k q (nI m))) (fun ℓ9 => by have h9 := c_Mo_section (ν := sν ν t (mn ι 42 t) m k) (ι := (sι ι t (mn ι 42 t) m k q)) (ρ := (sρ ρ t (mn ι 42 t))) (ℓ := ℓ9) hI.mo (t := t) (by omega) (show isOb ι (nI t) from by unfold isOb; rw [hI.iu.2.1]; exact rng_to (by omega) ht) hI.bd.b42 (k := k) (q := q) (n := (nI m)); rw [if_pos hv, hc1, if_neg hc, if_pos hv, if_neg hc] at h9; exact h9) (fun _ => rfl) (rfl) (gm.rf.up.up) (⟨N, c9, w9, n9, z9, kn, g9, IV.sec hI ht hc9 hv hm⟩)⟩
    · skip
      refine V_aload_n C d_OL_section_0 rfl ?_
      refine V_iload_n C d_OL_section_1 rfl ?_
      refine V_callV (as := [_]) C d_OL_section_2 (c_OL_known_y hI ht) m_OL_known cf_OL k_OL_45 (nn hI.os.n9) ⟨by decide, by decide⟩ (Nat.le_of_ble_eq_true rfl) ⟨by decide, by decide⟩ rfl ?_
      rintro _ _ _ _ _ ⟨rfl, rfl, rfl, rfl, rfl⟩
      dsimp only [Option.toList, List.cons_append, List.nil_append]
      refine V_astore (lv' := [(5, _), (0, _), (1, _), (2, _), (3, _), (4, _)]) C d_OL_section_5 (by decide) rfl ?_
      refine V_iload_n C d_OL_section_7 rfl ?_
      refine V_iload_n C d_OL_section_8 rfl ?_
      refine V_iload C d_OL_section_9 rfl ?_
      refine V_callS (as := [_, _, _]) C d_OL_section_11 c_Se_canBe m_Se_canBe k_OL_49 ⟨by decide, by decide⟩ (Nat.le_of_ble_eq_true rfl) ⟨by decide, by decide⟩ rfl ?_
      rintro _ _ _ _ _ ⟨rfl, rfl, rfl, rfl, rfl⟩
      dsimp only [Option.toList, List.cons_append, List.nil_append]
      refine V_if_ne (tgt := 27) C d_OL_section_14 (by decide) (fun h14 => absurd (b2_n0.mp h14) hv) (fun h14 => ?_)
      refine V_throwS (E := "java/lang/IllegalArgumentException") (text := "no such kind, alignment or length") (ik := 55) (is := 57) (ic := 59) C hQ rfl (by decide) k_OL_55 (tb_in 81 (by decide +kernel) rfl) (by decide +kernel) (by decide +kernel) (by decide +kernel) (by decide +kernel) (by decide +kernel) d_OL_section_17 d_OL_section_20 d_OL_section_21 d_OL_section_23 d_OL_section_26 (by decide) (Nat.le_of_ble_eq_true rfl) (by decide) (by decide) (by decide) (by decide) ?_
      exact ⟨rfl, rfl, 2, by simp, MC.eq (b' := 0) (ι2 := (up4 (z0 ι) 10 0 0 0 2)) (fun ℓ9 => by have h9 := c_Mo_section (ν := ν) (ι := ι) (ρ := ρ) (ℓ := ℓ9) hI.mo (t := t) (by omega) (show isOb ι (nI t) from by unfold isOb; rw [hI.iu.2.1]; exact rng_to (by omega) ht) hI.bd.b42 (k := k) (q := q) (n := n); rw [if_neg hv, if_neg hv] at h9; exact h9) (fun h => absurd h (by decide)) (rfl) (gm.rf) (⟨N, c9, w9, n9, z9, kn, g9, hI.t0.t0⟩)⟩
  · skip
    refine V_aload_n C d_OL_section_0 rfl ?_
    refine V_iload_n C d_OL_section_1 rfl ?_
    refine V_callVX (as := [_]) C hQ rfl d_OL_section_2 (c_OL_known_n hI hx) m_OL_known cf_OL k_OL_45 (nn hI.os.n9) ⟨by decide, by decide⟩ (Nat.le_of_ble_eq_true rfl) ⟨by decide, by decide⟩ rfl (by decide) (by decide) (by rintro E _ _ _ _ ⟨rfl, rfl, rfl, rfl, rfl⟩; exact ⟨rfl, rfl, 1, by simp, MC.eq (b' := 0) (ι2 := (up4 ι 10 0 0 0 1)) (fun ℓ9 => c_Mo_section_no hI.mo (fun z => hx (by have := z; unfold isOb at this; rw [hI.iu.2.1] at this; exact this))) (fun h => absurd h (by decide)) (rfl) (gm.rf) (⟨N, c9, w9, n9, z9, kn, g9, hI.t0⟩)⟩) ?_
    exact fun _ _ _ _ _ h => h.elim
set_option maxHeartbeats 1000000 in
set_option maxRecDepth 10000 in
theorem c_OL_bytes {ν : Nu} {ι : Io} {ρ : Ro} {ℓ : Lo} {N c9 w9 n9 z9 kn g9 : Nat} (hI : IV ν ι ρ N c9 w9 n9 z9 kn g9) {x y f v : Int32} : Ct y_OL_bytes (Cond.code y_OL_bytes b_OL_bytes 6 (some .int) :: tb_) { frames := 7, cells := 60, slots := 2000, locals := 112 } [sR 9 0 0, sI x, sI y, sI f, sI v] ν ι ρ ℓ (fun r9 ν1 ι1 ρ1 ℓ1 => ℓ = ℓ1 ∧ ν1 90 0 0 = ν 90 0 0 ∧ ∃ b, r9 = some (sI b) ∧ MC y_Mo_bytes (Cond.code y_Mo_bytes b_Mo_bytes 8 (some .int) :: tb_) { frames := 2, cells := 0, slots := 0, locals := 44 } [sR 10 0 0, sI x, sI y, sI f, sI v] 0 b ν ρ ν1 ι1 ρ1) (fun E ν1 ι1 ρ1 ℓ1 => ℓ = ℓ1 ∧ ν1 90 0 0 = ν 90 0 0 ∧ ∃ k7, (E, k7) ∈ ([("java/lang/IndexOutOfBoundsException", 1), ("java/lang/IllegalArgumentException", 2)] : List (String × Int32)) ∧ MC y_Mo_bytes (Cond.code y_Mo_bytes b_Mo_bytes 8 (some .int) :: tb_) { frames := 2, cells := 0, slots := 0, locals := 44 } [sR 10 0 0, sI x, sI y, sI f, sI v] k7 0 ν ρ ν1 ι1 ρ1) := by
  refine Ct.ofV (by decide) (Nat.le_of_ble_eq_true rfl) rfl ?_
  intro p l e s m args below meth c D B tW α0 Q C hQ
  have h12 := hI.N12
  by_cases hx : 0 ≤ x ∧ x ≤ nI N - 1
  · obtain ⟨t, ht, hxt⟩ := rng_of (by omega) hx
    subst hxt
    have hU := hI.um ht
    have e42 : ι 42 0 0 t = nI (mn ι 42 t) := hI.bd.b42.eq (by omega)
    have hC := hI.cv ht
    have h8 := hU.c8
    have l47 := hU.n12
    have l52 := hU.r16
    by_cases hs : 0 ≤ y ∧ y ≤ nI (mn ι 42 t) - 1
    · obtain ⟨j, hj, hsj⟩ := rng_of (by have := hU.c8; omega) hs
      subst hsj
      have hs2 := hs
      have h8 := hU.c8
      have hcl : (nI j).toNatClampNeg = j := nI_clamp (by omega)
      have hS := hU.se hj
      have hcv := hC.1 j hj
      have e45 : ι 45 0 0 (8 * t + j) = nI (mn ι 45 (8 * t + j)) := hI.bd.b45.eq (by omega)
      have l45 := hI.bd.b45.le (t := 8 * t + j) (by omega)
      by_cases h3 : ι 43 0 0 (8 * t + j) = 3
      · have hby : ¬ isBy (z0 ι) t (nI j) f := fun z => by
          have z2 : ¬ ι 43 0 0 (8 * t + (nI j).toNatClampNeg) = 3 := z.2.1
          rw [hcl] at z2
          exact z2 h3
        refine V_aload_n C d_OL_bytes_0 rfl ?_
        refine V_iload_n C d_OL_bytes_1 rfl ?_
        refine V_callV (as := [_]) C d_OL_bytes_2 (c_OL_known_y hI ht) m_OL_known cf_OL k_OL_45 (nn hI.os.n9) ⟨by decide, by decide⟩ (Nat.le_of_ble_eq_true rfl) ⟨by decide, by decide⟩ rfl ?_
        rintro _ _ _ _ _ ⟨rfl, rfl, rfl, rfl, rfl⟩
        dsimp only [Option.toList, List.cons_append, List.nil_append]
        refine V_iload_n C d_OL_bytes_5 rfl ?_
        refine V_callV (as := [_]) C d_OL_bytes_6 (c_Un_sectionOrNull_y hU hj) m_Un_sectionOrNull cf_Un k_OL_72 hU.al ⟨by decide, by decide⟩ (Nat.le_of_ble_eq_true rfl) ⟨by decide, by decide⟩ rfl ?_
        rintro _ _ _ _ _ ⟨rfl, rfl, rfl, rfl, rfl⟩
        dsimp only [Option.toList, List.cons_append, List.nil_append]
        refine V_astore (lv' := [(5, _), (0, _), (1, _), (2, _), (3, _), (4, _)]) C d_OL_bytes_9 (by decide) rfl ?_
        refine V_aload C d_OL_bytes_11 rfl ?_
        refine V_ifnull (tgt := 25) C d_OL_bytes_13 (by decide) (fun h13 => (by cases h13)) (fun zz13 h13 => ?_)
        refine V_aload C d_OL_bytes_16 rfl ?_
        refine V_getI (kx := 0) C d_OL_bytes_18 cf_Se (by decide) k_OL_76 (nn hS.1) rfl ?_
        refine V_iconst (v := 3) C d_OL_bytes_21 (by decide) ?_
        refine V_icmp_ne (tgt := 35) C d_OL_bytes_22 (by decide) (fun h22 => absurd (hcv.1.trans h3) h22) (fun h22 => ?_)
        refine V_throwS (E := "java/lang/IllegalArgumentException") (text := "no such section, or it is empty") (ik := 55) (is := 79) (ic := 59) C hQ rfl (by decide) k_OL_55 (tb_in 81 (by decide +kernel) rfl) (by decide +kernel) (by decide +kernel) (by decide +kernel) (by decide +kernel) (by decide +kernel) d_OL_bytes_25 d_OL_bytes_28 d_OL_bytes_29 d_OL_bytes_31 d_OL_bytes_34 (by decide) (Nat.le_of_ble_eq_true rfl) (by decide) (by decide) (by decide) (by decide) ?_
        exact ⟨rfl, rfl, 2, by simp, MC.eq (b' := 0) (ι2 := (up4 (z0 ι) 10 0 0 0 2)) (fun ℓ9 => by have h9 := c_Mo_bytes (ν := ν) (ι := ι) (ρ := ρ) (ℓ := ℓ9) hI.mo (t := t) (by omega) (show isOb ι (nI t) from by unfold isOb; rw [hI.iu.2.1]; exact rng_to (by omega) ht) hI.bd.b42 hI.bd.b45 (x := (nI j)) (f := f) (v := v); rw [if_neg hby, if_neg hby] at h9; exact h9) (fun h => absurd h (by decide)) (rfl) (gm.rf) (⟨N, c9, w9, n9, z9, kn, g9, hI.t0.t0⟩)⟩
      · obtain ⟨n8, hn128, q2, q3⟩ := hS.2.2.2
        rw [if_neg (fun z => h3 (hcv.1.symm.trans z))] at q3
        have hn24 := q3
        have h45 : mn ι 45 (8 * t + j) = n8 := nI_inj (by omega) (by omega) (by rw [← e45, ← hcv.2.2.1, q2])
        rw [h45] at e45
        have e9 : f < nI n8 ↔ f ≤ nI n8 - 1 := lt_pd (by omega)
        by_cases hf : 0 ≤ f ∧ f ≤ nI n8 - 1
        · obtain ⟨a, ha, hfa⟩ := rng_of (by omega) hf
          subst hfa
          have hcla : (nI a).toNatClampNeg = a := nI_clamp (by omega)
          have hby : isBy (z0 (filG ι 24 t j a (min 4 (n8 - a)) (bu8 v))) t (nI j) (nI a) := by
            show (0 ≤ nI j ∧ nI j ≤ ι 42 0 0 t - 1) ∧ ¬ ι 43 0 0 (8 * t + (nI j).toNatClampNeg) = 3 ∧ (0 ≤ nI a ∧ nI a ≤ ι 45 0 0 (8 * t + (nI j).toNatClampNeg) - 1)
            rw [hcl, e42, e45]
            exact ⟨hs2, h3, hf⟩
          replace h45 : mn (filG ι 24 t j a (min 4 (n8 - a)) (bu8 v)) 45 (8 * t + j) = n8 := h45
          refine V_aload_n C d_OL_bytes_0 rfl ?_
          refine V_iload_n C d_OL_bytes_1 rfl ?_
          refine V_callV (as := [_]) C d_OL_bytes_2 (c_OL_known_y hI ht) m_OL_known cf_OL k_OL_45 (nn hI.os.n9) ⟨by decide, by decide⟩ (Nat.le_of_ble_eq_true rfl) ⟨by decide, by decide⟩ rfl ?_
          rintro _ _ _ _ _ ⟨rfl, rfl, rfl, rfl, rfl⟩
          dsimp only [Option.toList, List.cons_append, List.nil_append]
          refine V_iload_n C d_OL_bytes_5 rfl ?_
          refine V_callV (as := [_]) C d_OL_bytes_6 (c_Un_sectionOrNull_y hU hj) m_Un_sectionOrNull cf_Un k_OL_72 hU.al ⟨by decide, by decide⟩ (Nat.le_of_ble_eq_true rfl) ⟨by decide, by decide⟩ rfl ?_
          rintro _ _ _ _ _ ⟨rfl, rfl, rfl, rfl, rfl⟩
          dsimp only [Option.toList, List.cons_append, List.nil_append]
          refine V_astore (lv' := [(5, _), (0, _), (1, _), (2, _), (3, _), (4, _)]) C d_OL_bytes_9 (by decide) rfl ?_
          refine V_aload C d_OL_bytes_11 rfl ?_
          refine V_ifnull (tgt := 25) C d_OL_bytes_13 (by decide) (fun h13 => (by cases h13)) (fun zz13 h13 => ?_)
          refine V_aload C d_OL_bytes_16 rfl ?_
          refine V_getI (kx := 0) C d_OL_bytes_18 cf_Se (by decide) k_OL_76 (nn hS.1) rfl ?_
          refine V_iconst (v := 3) C d_OL_bytes_21 (by decide) ?_
          refine V_icmp_ne (tgt := 35) C d_OL_bytes_22 (by decide) (fun h22 => ?_) (fun h22 => absurd (hcv.1.symm.trans h22) h3)
          refine V_iload_n C d_OL_bytes_35 rfl ?_
          refine V_if_lt (tgt := 49) C d_OL_bytes_36 (by decide) (fun h36 => absurd h36 (nI_nneg (by omega))) (fun h36 => ?_)
          refine V_iload_n C d_OL_bytes_39 rfl ?_
          refine V_aload C d_OL_bytes_40 rfl ?_
          refine V_getR (kx := 3) C d_OL_bytes_42 cf_Se (by decide) k_OL_81 (nn hS.1) rfl hS.2.2.1 ?_
          refine V_alen (ti := 0) C d_OL_bytes_45 (by decide) (by decide) hn24 rfl ?_
          refine V_icmp_lt (tgt := 59) C d_OL_bytes_46 (by decide) (fun h46 => ?_) (fun h46 => absurd ((nI_ltI (by omega) (by omega)).mpr ha) h46)
          refine V_aload C d_OL_bytes_59 rfl ?_
          refine V_iload_n C d_OL_bytes_61 rfl ?_
          refine V_iload C d_OL_bytes_62 rfl ?_
          refine V_callV (as := [_, _]) C d_OL_bytes_64 (c_Se_overwrite (nn hS.1) hS.2.2.1 hn24 hn128 ha (m9 := min 4 (n8 - a)) rfl) m_Se_overwrite cf_Se k_OL_87 (nn hS.1) ⟨by decide, by decide⟩ (Nat.le_of_ble_eq_true rfl) ⟨by decide, by decide⟩ rfl ?_
          rintro _ _ _ _ _ ⟨rfl, rfl, rfl, rfl, rfl⟩
          dsimp only [Option.toList, List.cons_append, List.nil_append]
          refine V_iret C hQ (by decide) (by decide) d_OL_bytes_67 rfl ?_
          exact ⟨rfl, rfl, _, rfl, MC.eq (b' := (nI (min 4 (n8 - a)))) (ι2 := (filF (z0 (filG ι 24 t j a (min 4 (n8 - a)) (bu8 v))) 46 (128 * (8 * t + j) + a) (min 4 (n8 - a)) (by8 v))) (fun ℓ9 => by have h9 := c_Mo_bytes (ν := ν) (ι := (filG ι 24 t j a (min 4 (n8 - a)) (bu8 v))) (ρ := ρ) (ℓ := ℓ9) hI.mo (t := t) (by omega) (show isOb ι (nI t) from by unfold isOb; rw [hI.iu.2.1]; exact rng_to (by omega) ht) hI.bd.b42 hI.bd.b45 (x := (nI j)) (f := (nI a)) (v := v); rw [if_pos hby, if_pos hby, hcl, hcla, h45] at h9; exact h9) (fun _ => rfl) (rfl) (gm.rf) (⟨N, c9, w9, n9, z9, kn, g9, IV.byt hI ht hj (by omega) (by omega)⟩)⟩
        · have hby : ¬ isBy (z0 ι) t (nI j) f := fun z => by
            have z2 : 0 ≤ f ∧ f ≤ ι 45 0 0 (8 * t + (nI j).toNatClampNeg) - 1 := z.2.2
            rw [hcl, e45] at z2
            exact hf z2
          refine V_aload_n C d_OL_bytes_0 rfl ?_
          refine V_iload_n C d_OL_bytes_1 rfl ?_
          refine V_callV (as := [_]) C d_OL_bytes_2 (c_OL_known_y hI ht) m_OL_known cf_OL k_OL_45 (nn hI.os.n9) ⟨by decide, by decide⟩ (Nat.le_of_ble_eq_true rfl) ⟨by decide, by decide⟩ rfl ?_
          rintro _ _ _ _ _ ⟨rfl, rfl, rfl, rfl, rfl⟩
          dsimp only [Option.toList, List.cons_append, List.nil_append]
          refine V_iload_n C d_OL_bytes_5 rfl ?_
          refine V_callV (as := [_]) C d_OL_bytes_6 (c_Un_sectionOrNull_y hU hj) m_Un_sectionOrNull cf_Un k_OL_72 hU.al ⟨by decide, by decide⟩ (Nat.le_of_ble_eq_true rfl) ⟨by decide, by decide⟩ rfl ?_
          rintro _ _ _ _ _ ⟨rfl, rfl, rfl, rfl, rfl⟩
          dsimp only [Option.toList, List.cons_append, List.nil_append]
          refine V_astore (lv' := [(5, _), (0, _), (1, _), (2, _), (3, _), (4, _)]) C d_OL_bytes_9 (by decide) rfl ?_
          refine V_aload C d_OL_bytes_11 rfl ?_
          refine V_ifnull (tgt := 25) C d_OL_bytes_13 (by decide) (fun h13 => (by cases h13)) (fun zz13 h13 => ?_)
          refine V_aload C d_OL_bytes_16 rfl ?_
          refine V_getI (kx := 0) C d_OL_bytes_18 cf_Se (by decide) k_OL_76 (nn hS.1) rfl ?_
          refine V_iconst (v := 3) C d_OL_bytes_21 (by decide) ?_
          refine V_icmp_ne (tgt := 35) C d_OL_bytes_22 (by decide) (fun h22 => ?_) (fun h22 => absurd (hcv.1.symm.trans h22) h3)
          refine V_iload_n C d_OL_bytes_35 rfl ?_
          refine V_if_lt (tgt := 49) C d_OL_bytes_36 (by decide) (fun h36 => ?_) (fun h36 => ?_)
          · refine V_throwS (E := "java/lang/IllegalArgumentException") (text := "the section has no such byte") (ik := 55) (is := 85) (ic := 59) C hQ rfl (by decide) k_OL_55 (tb_in 81 (by decide +kernel) rfl) (by decide +kernel) (by decide +kernel) (by decide +kernel) (by decide +kernel) (by decide +kernel) d_OL_bytes_49 d_OL_bytes_52 d_OL_bytes_53 d_OL_bytes_55 d_OL_bytes_58 (by decide) (Nat.le_of_ble_eq_true rfl) (by decide) (by decide) (by decide) (by decide) ?_
            exact ⟨rfl, rfl, 2, by simp, MC.eq (b' := 0) (ι2 := (up4 (z0 ι) 10 0 0 0 2)) (fun ℓ9 => by have h9 := c_Mo_bytes (ν := ν) (ι := ι) (ρ := ρ) (ℓ := ℓ9) hI.mo (t := t) (by omega) (show isOb ι (nI t) from by unfold isOb; rw [hI.iu.2.1]; exact rng_to (by omega) ht) hI.bd.b42 hI.bd.b45 (x := (nI j)) (f := f) (v := v); rw [if_neg hby, if_neg hby] at h9; exact h9) (fun h => absurd h (by decide)) (rfl) (gm.rf) (⟨N, c9, w9, n9, z9, kn, g9, hI.t0.t0⟩)⟩
          · refine V_iload_n C d_OL_bytes_39 rfl ?_
            refine V_aload C d_OL_bytes_40 rfl ?_
            refine V_getR (kx := 3) C d_OL_bytes_42 cf_Se (by decide) k_OL_81 (nn hS.1) rfl hS.2.2.1 ?_
            refine V_alen (ti := 0) C d_OL_bytes_45 (by decide) (by decide) hn24 rfl ?_
            refine V_icmp_lt (tgt := 59) C d_OL_bytes_46 (by decide) (fun h46 => absurd ⟨Int32.not_lt.mp h36, e9.mp h46⟩ hf) (fun h46 => ?_)
            refine V_throwS (E := "java/lang/IllegalArgumentException") (text := "the section has no such byte") (ik := 55) (is := 85) (ic := 59) C hQ rfl (by decide) k_OL_55 (tb_in 81 (by decide +kernel) rfl) (by decide +kernel) (by decide +kernel) (by decide +kernel) (by decide +kernel) (by decide +kernel) d_OL_bytes_49 d_OL_bytes_52 d_OL_bytes_53 d_OL_bytes_55 d_OL_bytes_58 (by decide) (Nat.le_of_ble_eq_true rfl) (by decide) (by decide) (by decide) (by decide) ?_
            exact ⟨rfl, rfl, 2, by simp, MC.eq (b' := 0) (ι2 := (up4 (z0 ι) 10 0 0 0 2)) (fun ℓ9 => by have h9 := c_Mo_bytes (ν := ν) (ι := ι) (ρ := ρ) (ℓ := ℓ9) hI.mo (t := t) (by omega) (show isOb ι (nI t) from by unfold isOb; rw [hI.iu.2.1]; exact rng_to (by omega) ht) hI.bd.b42 hI.bd.b45 (x := (nI j)) (f := f) (v := v); rw [if_neg hby, if_neg hby] at h9; exact h9) (fun h => absurd h (by decide)) (rfl) (gm.rf) (⟨N, c9, w9, n9, z9, kn, g9, hI.t0.t0⟩)⟩
    · have hby : ¬ isBy (z0 ι) t y f := fun z => by
        have z1 : 0 ≤ y ∧ y ≤ ι 42 0 0 t - 1 := z.1
        rw [e42] at z1
        exact hs z1
      refine V_aload_n C d_OL_bytes_0 rfl ?_
      refine V_iload_n C d_OL_bytes_1 rfl ?_
      refine V_callV (as := [_]) C d_OL_bytes_2 (c_OL_known_y hI ht) m_OL_known cf_OL k_OL_45 (nn hI.os.n9) ⟨by decide, by decide⟩ (Nat.le_of_ble_eq_true rfl) ⟨by decide, by decide⟩ rfl ?_
      rintro _ _ _ _ _ ⟨rfl, rfl, rfl, rfl, rfl⟩
      dsimp only [Option.toList, List.cons_append, List.nil_append]
      refine V_iload_n C d_OL_bytes_5 rfl ?_
      refine V_callV (as := [_]) C d_OL_bytes_6 (c_Un_sectionOrNull_n hU hs) m_Un_sectionOrNull cf_Un k_OL_72 hU.al ⟨by decide, by decide⟩ (Nat.le_of_ble_eq_true rfl) ⟨by decide, by decide⟩ rfl ?_
      rintro _ _ _ _ _ ⟨rfl, rfl, rfl, rfl, rfl⟩
      dsimp only [Option.toList, List.cons_append, List.nil_append]
      refine V_astore (lv' := [(5, _), (0, _), (1, _), (2, _), (3, _), (4, _)]) C d_OL_bytes_9 (by decide) rfl ?_
      refine V_aload C d_OL_bytes_11 rfl ?_
      refine V_ifnull (tgt := 25) C d_OL_bytes_13 (by decide) (fun h13 => ?_) (fun _ h13 => (by cases h13))
      refine V_throwS (E := "java/lang/IllegalArgumentException") (text := "no such section, or it is empty") (ik := 55) (is := 79) (ic := 59) C hQ rfl (by decide) k_OL_55 (tb_in 81 (by decide +kernel) rfl) (by decide +kernel) (by decide +kernel) (by decide +kernel) (by decide +kernel) (by decide +kernel) d_OL_bytes_25 d_OL_bytes_28 d_OL_bytes_29 d_OL_bytes_31 d_OL_bytes_34 (by decide) (Nat.le_of_ble_eq_true rfl) (by decide) (by decide) (by decide) (by decide) ?_
      exact ⟨rfl, rfl, 2, by simp, MC.eq (b' := 0) (ι2 := (up4 (z0 ι) 10 0 0 0 2)) (fun ℓ9 => by have h9 := c_Mo_bytes (ν := ν) (ι := ι) (ρ := ρ) (ℓ := ℓ9) hI.mo (t := t) (by omega) (show isOb ι (nI t) from by unfold isOb; rw [hI.iu.2.1]; exact rng_to (by omega) ht) hI.bd.b42 hI.bd.b45 (x := y) (f := f) (v := v); rw [if_neg hby, if_neg hby] at h9; exact h9) (fun h => absurd h (by decide)) (rfl) (gm.rf) (⟨N, c9, w9, n9, z9, kn, g9, hI.t0.t0⟩)⟩
  · skip
    refine V_aload_n C d_OL_bytes_0 rfl ?_
    refine V_iload_n C d_OL_bytes_1 rfl ?_
    refine V_callVX (as := [_]) C hQ rfl d_OL_bytes_2 (c_OL_known_n hI hx) m_OL_known cf_OL k_OL_45 (nn hI.os.n9) ⟨by decide, by decide⟩ (Nat.le_of_ble_eq_true rfl) ⟨by decide, by decide⟩ rfl (by decide) (by decide) (by rintro E _ _ _ _ ⟨rfl, rfl, rfl, rfl, rfl⟩; exact ⟨rfl, rfl, 1, by simp, MC.eq (b' := 0) (ι2 := (up4 ι 10 0 0 0 1)) (fun ℓ9 => c_Mo_bytes_no hI.mo (fun z => hx (by have := z; unfold isOb at this; rw [hI.iu.2.1] at this; exact this))) (fun h => absurd h (by decide)) (rfl) (gm.rf) (⟨N, c9, w9, n9, z9, kn, g9, hI.t0⟩)⟩) ?_
    exact fun _ _ _ _ _ h => h.elim
set_option maxHeartbeats 1000000 in
set_option maxRecDepth 10000 in
theorem c_OL_name {ν : Nu} {ι : Io} {ρ : Ro} {ℓ : Lo} {N c9 w9 n9 z9 kn g9 : Nat} (hI : IV ν ι ρ N c9 w9 n9 z9 kn g9) {x y k x3 q : Int32} : Ct y_OL_name (Cond.code y_OL_name b_OL_name 7 (some .int) :: tb_) { frames := 7, cells := 60, slots := 2000, locals := 112 } [sR 9 0 0, sI x, sI y, sI k, sI x3, sI q] ν ι ρ ℓ (fun r9 ν1 ι1 ρ1 ℓ1 => ℓ = ℓ1 ∧ ν1 90 0 0 = ν 90 0 0 ∧ ∃ b, r9 = some (sI b) ∧ MC y_Mo_name (Cond.code y_Mo_name b_Mo_name 6 (some .int) :: tb_) { frames := 3, cells := 0, slots := 0, locals := 69 } [sR 10 0 0, sI x, sI y, sI k, sI x3, sI q] 0 b ν ρ ν1 ι1 ρ1) (fun E ν1 ι1 ρ1 ℓ1 => ℓ = ℓ1 ∧ ν1 90 0 0 = ν 90 0 0 ∧ ∃ k7, (E, k7) ∈ ([("java/lang/IndexOutOfBoundsException", 1), ("java/lang/IllegalArgumentException", 2), ("java/lang/UnsupportedOperationException", 3)] : List (String × Int32)) ∧ MC y_Mo_name (Cond.code y_Mo_name b_Mo_name 6 (some .int) :: tb_) { frames := 3, cells := 0, slots := 0, locals := 69 } [sR 10 0 0, sI x, sI y, sI k, sI x3, sI q] k7 0 ν ρ ν1 ι1 ρ1) := by
  refine Ct.ofV (by decide) (Nat.le_of_ble_eq_true rfl) rfl ?_
  intro p l e s m args below meth c D B tW α0 Q C hQ
  have h12 := hI.N12
  by_cases hx : 0 ≤ x ∧ x ≤ nI N - 1
  · obtain ⟨t, ht, hxt⟩ := rng_of (by omega) hx
    subst hxt
    have hU := hI.um ht
    have e42 : ι 42 0 0 t = nI (mn ι 42 t) := hI.bd.b42.eq (by omega)
    have hC := hI.cv ht
    have h8 := hU.c8
    have l47 := hU.n12
    have l52 := hU.r16
    have hiff := nm_iff hI.bd hC (show t < 13 by omega) (x := y) (k := k) (s := x3) (q := q)
    by_cases hv : isNm (z0 ι) t y k x3 q
    · by_cases hc : mn ι 47 t = 12
      · skip
        refine V_aload_n C d_OL_name_0 rfl ?_
        refine V_iload_n C d_OL_name_1 rfl ?_
        refine V_callV (as := [_]) C d_OL_name_2 (c_OL_known_y hI ht) m_OL_known cf_OL k_OL_45 (nn hI.os.n9) ⟨by decide, by decide⟩ (Nat.le_of_ble_eq_true rfl) ⟨by decide, by decide⟩ rfl ?_
        rintro _ _ _ _ _ ⟨rfl, rfl, rfl, rfl, rfl⟩
        dsimp only [Option.toList, List.cons_append, List.nil_append]
        refine V_astore (lv' := [(6, _), (0, _), (1, _), (2, _), (3, _), (4, _), (5, _)]) C d_OL_name_5 (by decide) rfl ?_
        refine V_aload C d_OL_name_7 rfl ?_
        refine V_iload_n C d_OL_name_9 rfl ?_
        refine V_iload_n C d_OL_name_10 rfl ?_
        refine V_iload C d_OL_name_11 rfl ?_
        refine V_iload C d_OL_name_13 rfl ?_
        refine V_callV (as := [_, _, _, _]) C d_OL_name_15 (c_Un_canName hU) m_Un_canName cf_Un k_OL_91 hU.al ⟨by decide, by decide⟩ (Nat.le_of_ble_eq_true rfl) ⟨by decide, by decide⟩ rfl ?_
        rintro _ _ _ _ _ ⟨rfl, rfl, rfl, rfl, rfl⟩
        dsimp only [Option.toList, List.cons_append, List.nil_append]
        refine V_if_ne (tgt := 31) C d_OL_name_18 (by decide) (fun h18 => ?_) (fun h18 => absurd (hiff.mpr hv) (b2_0.mp h18))
        refine V_aload C d_OL_name_31 rfl ?_
        refine V_getI (kx := 3) C d_OL_name_33 cf_Un (by decide) k_OL_97 hU.al rfl ?_
        refine V_eqi (y := nI (mn ι 47 t)) hU.en ?_
        refine V_bipush (v := 12) C d_OL_name_36 (by decide) ?_
        refine V_icmp_lt (tgt := 51) C d_OL_name_38 (by decide) (fun h38 => absurd ((nI_ltI (a := (mn ι 47 t)) (b := 12) (by omega) (by decide)).mp h38) (by omega)) (fun h38 => ?_)
        refine V_throwS (E := "java/lang/UnsupportedOperationException") (text := "there are twelve names") (ik := 33) (is := 100) (ic := 37) C hQ rfl (by decide) k_OL_33 (tb_in 77 (by decide +kernel) rfl) (by decide +kernel) (by decide +kernel) (by decide +kernel) (by decide +kernel) (by decide +kernel) d_OL_name_41 d_OL_name_44 d_OL_name_45 d_OL_name_47 d_OL_name_50 (by decide) (Nat.le_of_ble_eq_true rfl) (by decide) (by decide) (by decide) (by decide) ?_
        exact ⟨rfl, rfl, 3, by simp, MC.eq (b' := 0) (ι2 := (up4 (z0 ι) 10 0 0 0 3)) (fun ℓ9 => by have h9 := c_Mo_name (ν := ν) (ι := ι) (ρ := ρ) (ℓ := ℓ9) hI.mo (t := t) (by omega) (show isOb ι (nI t) from by unfold isOb; rw [hI.iu.2.1]; exact rng_to (by omega) ht) hI.bd.b47 hI.bd.b42 (n := y) (k := k) (s9 := x3) (q := q); rw [if_pos hv, if_pos hc, if_pos hv, if_pos hc] at h9; exact h9) (fun h => absurd h (by decide)) (rfl) (gm.rf) (⟨N, c9, w9, n9, z9, kn, g9, hI.t0.t0⟩)⟩
      · have hc9 : mn ι 47 t < 12 := by omega
        have hc1 : mn (nι ι t (mn ι 47 t) y k x3 q) 47 t = mn ι 47 t := mn_c rfl
        have hv1 : isNm (z0 (nι ι t (mn ι 47 t) y k x3 q)) t y k x3 q := hv
        refine V_aload_n C d_OL_name_0 rfl ?_
        refine V_iload_n C d_OL_name_1 rfl ?_
        refine V_callV (as := [_]) C d_OL_name_2 (c_OL_known_y hI ht) m_OL_known cf_OL k_OL_45 (nn hI.os.n9) ⟨by decide, by decide⟩ (Nat.le_of_ble_eq_true rfl) ⟨by decide, by decide⟩ rfl ?_
        rintro _ _ _ _ _ ⟨rfl, rfl, rfl, rfl, rfl⟩
        dsimp only [Option.toList, List.cons_append, List.nil_append]
        refine V_astore (lv' := [(6, _), (0, _), (1, _), (2, _), (3, _), (4, _), (5, _)]) C d_OL_name_5 (by decide) rfl ?_
        refine V_aload C d_OL_name_7 rfl ?_
        refine V_iload_n C d_OL_name_9 rfl ?_
        refine V_iload_n C d_OL_name_10 rfl ?_
        refine V_iload C d_OL_name_11 rfl ?_
        refine V_iload C d_OL_name_13 rfl ?_
        refine V_callV (as := [_, _, _, _]) C d_OL_name_15 (c_Un_canName hU) m_Un_canName cf_Un k_OL_91 hU.al ⟨by decide, by decide⟩ (Nat.le_of_ble_eq_true rfl) ⟨by decide, by decide⟩ rfl ?_
        rintro _ _ _ _ _ ⟨rfl, rfl, rfl, rfl, rfl⟩
        dsimp only [Option.toList, List.cons_append, List.nil_append]
        refine V_if_ne (tgt := 31) C d_OL_name_18 (by decide) (fun h18 => ?_) (fun h18 => absurd (hiff.mpr hv) (b2_0.mp h18))
        refine V_aload C d_OL_name_31 rfl ?_
        refine V_getI (kx := 3) C d_OL_name_33 cf_Un (by decide) k_OL_97 hU.al rfl ?_
        refine V_eqi (y := nI (mn ι 47 t)) hU.en ?_
        refine V_bipush (v := 12) C d_OL_name_36 (by decide) ?_
        refine V_icmp_lt (tgt := 51) C d_OL_name_38 (by decide) (fun h38 => ?_) (fun h38 => absurd ((nI_ltI (a := (mn ι 47 t)) (b := 12) (by omega) (by decide)).mpr hc9) h38)
        refine V_aload C d_OL_name_51 rfl ?_
        refine V_new (i := t) (j := (mn ι 47 t)) C d_OL_name_53 cf_Na k_OL_102 (hU.fn (Nat.le_refl _)) (fun k hk => ?_) (by decide) (by decide) ?_
        · rcases (show k = 0 ∨ k = 1 ∨ k = 2 ∨ k = 3 by omega) with rfl | rfl | rfl | rfl <;> first | exact Or.inl ⟨rfl, rfl⟩ | exact Or.inr ⟨rfl, rfl⟩
        refine V_dup C d_OL_name_56 rfl ?_
        refine V_iload_n C d_OL_name_57 rfl ?_
        refine V_iload_n C d_OL_name_58 rfl ?_
        refine V_iload C d_OL_name_59 rfl ?_
        refine V_iload C d_OL_name_61 rfl ?_
        refine V_callI (as := [_, _, _, _]) C d_OL_name_63 (c_Na_init (ν := up3 ν 2 t (mn ι 47 t) (some 4)) (o := t) (i9 := (mn ι 47 t)) (nn up3_s)) m_Na_init k_OL_104 ⟨by decide, by decide⟩ (Nat.le_of_ble_eq_true rfl) ⟨by decide, by decide⟩ rfl ?_
        rintro _ _ _ _ _ ⟨rfl, rfl, rfl, rfl, rfl⟩
        dsimp only [Option.toList, List.cons_append, List.nil_append]
        refine V_callV (as := [_]) C d_OL_name_66 (c_Un_addName (ν := nν ν t (mn ι 47 t)) (ι := up4 (up4 (up4 (up4 (upA ι 2 t (mn ι 47 t) (fun _ => 0)) 2 t (mn ι 47 t) 0 y) 2 t (mn ι 47 t) 1 k) 2 t (mn ι 47 t) 2 x3) 2 t (mn ι 47 t) 3 q) (ρ := upA ρ 2 t (mn ι 47 t) (fun _ => none)) (o := t) hU.u hU.en hc9 (by simp [up3])) m_Un_addName cf_Un k_OL_107 hU.al ⟨by decide, by decide⟩ (Nat.le_of_ble_eq_true rfl) ⟨by decide, by decide⟩ rfl ?_
        rintro _ _ _ _ _ ⟨rfl, rfl, rfl, rfl, rfl⟩
        dsimp only [Option.toList, List.cons_append, List.nil_append]
        refine V_iret C hQ (by decide) (by decide) d_OL_name_69 rfl ?_
        exact ⟨rfl, rfl, _, rfl, MC.eq (b' := (nI (mn ι 47 t))) (ι2 := (mAddName (z0 (nι ι t (mn ι 47 t) y k x3 q)) t y k x3 q)) (fun ℓ9 => by have h9 := c_Mo_name (ν := nν ν t (mn ι 47 t)) (ι := (nι ι t (mn ι 47 t) y k x3 q)) (ρ := (nρ ρ t (mn ι 47 t))) (ℓ := ℓ9) hI.mo (t := t) (by omega) (show isOb ι (nI t) from by unfold isOb; rw [hI.iu.2.1]; exact rng_to (by omega) ht) hI.bd.b47 hI.bd.b42 (n := y) (k := k) (s9 := x3) (q := q); rw [if_pos hv1, hc1, if_neg hc, if_pos hv1, if_neg hc] at h9; exact h9) (fun _ => rfl) (rfl) (gm.rf.up) (⟨N, c9, w9, n9, z9, kn, g9, IV.nam hI ht hc9 hv⟩)⟩
    · skip
      refine V_aload_n C d_OL_name_0 rfl ?_
      refine V_iload_n C d_OL_name_1 rfl ?_
      refine V_callV (as := [_]) C d_OL_name_2 (c_OL_known_y hI ht) m_OL_known cf_OL k_OL_45 (nn hI.os.n9) ⟨by decide, by decide⟩ (Nat.le_of_ble_eq_true rfl) ⟨by decide, by decide⟩ rfl ?_
      rintro _ _ _ _ _ ⟨rfl, rfl, rfl, rfl, rfl⟩
      dsimp only [Option.toList, List.cons_append, List.nil_append]
      refine V_astore (lv' := [(6, _), (0, _), (1, _), (2, _), (3, _), (4, _), (5, _)]) C d_OL_name_5 (by decide) rfl ?_
      refine V_aload C d_OL_name_7 rfl ?_
      refine V_iload_n C d_OL_name_9 rfl ?_
      refine V_iload_n C d_OL_name_10 rfl ?_
      refine V_iload C d_OL_name_11 rfl ?_
      refine V_iload C d_OL_name_13 rfl ?_
      refine V_callV (as := [_, _, _, _]) C d_OL_name_15 (c_Un_canName hU) m_Un_canName cf_Un k_OL_91 hU.al ⟨by decide, by decide⟩ (Nat.le_of_ble_eq_true rfl) ⟨by decide, by decide⟩ rfl ?_
      rintro _ _ _ _ _ ⟨rfl, rfl, rfl, rfl, rfl⟩
      dsimp only [Option.toList, List.cons_append, List.nil_append]
      refine V_if_ne (tgt := 31) C d_OL_name_18 (by decide) (fun h18 => absurd (hiff.mp (b2_n0.mp h18)) hv) (fun h18 => ?_)
      refine V_throwS (E := "java/lang/IllegalArgumentException") (text := "such a name can not be, or is there already") (ik := 55) (is := 95) (ic := 59) C hQ rfl (by decide) k_OL_55 (tb_in 81 (by decide +kernel) rfl) (by decide +kernel) (by decide +kernel) (by decide +kernel) (by decide +kernel) (by decide +kernel) d_OL_name_21 d_OL_name_24 d_OL_name_25 d_OL_name_27 d_OL_name_30 (by decide) (Nat.le_of_ble_eq_true rfl) (by decide) (by decide) (by decide) (by decide) ?_
      exact ⟨rfl, rfl, 2, by simp, MC.eq (b' := 0) (ι2 := (up4 (z0 ι) 10 0 0 0 2)) (fun ℓ9 => by have h9 := c_Mo_name (ν := ν) (ι := ι) (ρ := ρ) (ℓ := ℓ9) hI.mo (t := t) (by omega) (show isOb ι (nI t) from by unfold isOb; rw [hI.iu.2.1]; exact rng_to (by omega) ht) hI.bd.b47 hI.bd.b42 (n := y) (k := k) (s9 := x3) (q := q); rw [if_neg hv, if_neg hv] at h9; exact h9) (fun h => absurd h (by decide)) (rfl) (gm.rf) (⟨N, c9, w9, n9, z9, kn, g9, hI.t0.t0⟩)⟩
  · skip
    refine V_aload_n C d_OL_name_0 rfl ?_
    refine V_iload_n C d_OL_name_1 rfl ?_
    refine V_callVX (as := [_]) C hQ rfl d_OL_name_2 (c_OL_known_n hI hx) m_OL_known cf_OL k_OL_45 (nn hI.os.n9) ⟨by decide, by decide⟩ (Nat.le_of_ble_eq_true rfl) ⟨by decide, by decide⟩ rfl (by decide) (by decide) (by rintro E _ _ _ _ ⟨rfl, rfl, rfl, rfl, rfl⟩; exact ⟨rfl, rfl, 1, by simp, MC.eq (b' := 0) (ι2 := (up4 ι 10 0 0 0 1)) (fun ℓ9 => c_Mo_name_no hI.mo (fun z => hx (by have := z; unfold isOb at this; rw [hI.iu.2.1] at this; exact this))) (fun h => absurd h (by decide)) (rfl) (gm.rf) (⟨N, c9, w9, n9, z9, kn, g9, hI.t0⟩)⟩) ?_
    exact fun _ _ _ _ _ h => h.elim
set_option maxHeartbeats 1000000 in
set_option maxRecDepth 10000 in
theorem c_OL_reference {ν : Nu} {ι : Io} {ρ : Ro} {ℓ : Lo} {N c9 w9 n9 z9 kn g9 : Nat} (hI : IV ν ι ρ N c9 w9 n9 z9 kn g9) {x x3 q w y a : Int32} : Ct y_OL_reference (Cond.code y_OL_reference b_OL_reference 8 (some .int) :: tb_) { frames := 7, cells := 60, slots := 2000, locals := 112 } [sR 9 0 0, sI x, sI x3, sI q, sI w, sI y, sI a] ν ι ρ ℓ (fun r9 ν1 ι1 ρ1 ℓ1 => ℓ = ℓ1 ∧ ν1 90 0 0 = ν 90 0 0 ∧ ∃ b, r9 = some (sI b) ∧ MC y_Mo_reference (Cond.code y_Mo_reference b_Mo_reference 7 (some .int) :: tb_) { frames := 3, cells := 0, slots := 0, locals := 69 } [sR 10 0 0, sI x, sI x3, sI q, sI w, sI y, sI a] 0 b ν ρ ν1 ι1 ρ1) (fun E ν1 ι1 ρ1 ℓ1 => ℓ = ℓ1 ∧ ν1 90 0 0 = ν 90 0 0 ∧ ∃ k7, (E, k7) ∈ ([("java/lang/IndexOutOfBoundsException", 1), ("java/lang/IllegalArgumentException", 2), ("java/lang/UnsupportedOperationException", 3)] : List (String × Int32)) ∧ MC y_Mo_reference (Cond.code y_Mo_reference b_Mo_reference 7 (some .int) :: tb_) { frames := 3, cells := 0, slots := 0, locals := 69 } [sR 10 0 0, sI x, sI x3, sI q, sI w, sI y, sI a] k7 0 ν ρ ν1 ι1 ρ1) := by
  refine Ct.ofV (by decide) (Nat.le_of_ble_eq_true rfl) rfl ?_
  intro p l e s m args below meth c D B tW α0 Q C hQ
  have h12 := hI.N12
  by_cases hx : 0 ≤ x ∧ x ≤ nI N - 1
  · obtain ⟨t, ht, hxt⟩ := rng_of (by omega) hx
    subst hxt
    have hU := hI.um ht
    have e42 : ι 42 0 0 t = nI (mn ι 42 t) := hI.bd.b42.eq (by omega)
    have hC := hI.cv ht
    have h8 := hU.c8
    have l47 := hU.n12
    have l52 := hU.r16
    have hiff := rf_iff hI.bd hC (show t < 13 by omega) (s := x3) (q := q) (w := w) (m := y)
    by_cases hv : isRf (z0 ι) t x3 q w y
    · by_cases hc : mn ι 52 t = 16
      · skip
        refine V_aload_n C d_OL_reference_0 rfl ?_
        refine V_iload_n C d_OL_reference_1 rfl ?_
        refine V_callV (as := [_]) C d_OL_reference_2 (c_OL_known_y hI ht) m_OL_known cf_OL k_OL_45 (nn hI.os.n9) ⟨by decide, by decide⟩ (Nat.le_of_ble_eq_true rfl) ⟨by decide, by decide⟩ rfl ?_
        rintro _ _ _ _ _ ⟨rfl, rfl, rfl, rfl, rfl⟩
        dsimp only [Option.toList, List.cons_append, List.nil_append]
        refine V_astore (lv' := [(7, _), (0, _), (1, _), (2, _), (3, _), (4, _), (5, _), (6, _)]) C d_OL_reference_5 (by decide) rfl ?_
        refine V_aload C d_OL_reference_7 rfl ?_
        refine V_iload_n C d_OL_reference_9 rfl ?_
        refine V_iload_n C d_OL_reference_10 rfl ?_
        refine V_iload C d_OL_reference_11 rfl ?_
        refine V_iload C d_OL_reference_13 rfl ?_
        refine V_callV (as := [_, _, _, _]) C d_OL_reference_15 (c_Un_canRefer hU) m_Un_canRefer cf_Un k_OL_111 hU.al ⟨by decide, by decide⟩ (Nat.le_of_ble_eq_true rfl) ⟨by decide, by decide⟩ rfl ?_
        rintro _ _ _ _ _ ⟨rfl, rfl, rfl, rfl, rfl⟩
        dsimp only [Option.toList, List.cons_append, List.nil_append]
        refine V_if_ne (tgt := 31) C d_OL_reference_18 (by decide) (fun h18 => ?_) (fun h18 => absurd (hiff.mpr hv) (b2_0.mp h18))
        refine V_aload C d_OL_reference_31 rfl ?_
        refine V_getI (kx := 5) C d_OL_reference_33 cf_Un (by decide) k_OL_116 hU.al rfl ?_
        refine V_eqi (y := nI (mn ι 52 t)) hU.er ?_
        refine V_bipush (v := 16) C d_OL_reference_36 (by decide) ?_
        refine V_icmp_lt (tgt := 51) C d_OL_reference_38 (by decide) (fun h38 => absurd ((nI_ltI (a := (mn ι 52 t)) (b := 16) (by omega) (by decide)).mp h38) (by omega)) (fun h38 => ?_)
        refine V_throwS (E := "java/lang/UnsupportedOperationException") (text := "there are sixteen references") (ik := 33) (is := 119) (ic := 37) C hQ rfl (by decide) k_OL_33 (tb_in 77 (by decide +kernel) rfl) (by decide +kernel) (by decide +kernel) (by decide +kernel) (by decide +kernel) (by decide +kernel) d_OL_reference_41 d_OL_reference_44 d_OL_reference_45 d_OL_reference_47 d_OL_reference_50 (by decide) (Nat.le_of_ble_eq_true rfl) (by decide) (by decide) (by decide) (by decide) ?_
        exact ⟨rfl, rfl, 3, by simp, MC.eq (b' := 0) (ι2 := (up4 (z0 ι) 10 0 0 0 3)) (fun ℓ9 => by have h9 := c_Mo_reference (ν := ν) (ι := ι) (ρ := ρ) (ℓ := ℓ9) hI.mo (t := t) (by omega) (show isOb ι (nI t) from by unfold isOb; rw [hI.iu.2.1]; exact rng_to (by omega) ht) hI.bd.b52 hI.bd.b42 (s9 := x3) (q := q) (w := w) (n := y) (a := a); rw [if_pos hv, if_pos hc, if_pos hv, if_pos hc] at h9; exact h9) (fun h => absurd h (by decide)) (rfl) (gm.rf) (⟨N, c9, w9, n9, z9, kn, g9, hI.t0.t0⟩)⟩
      · have hc9 : mn ι 52 t < 16 := by omega
        have hc1 : mn (rι ι t (mn ι 52 t) x3 q w y a) 52 t = mn ι 52 t := mn_c rfl
        have hv1 : isRf (z0 (rι ι t (mn ι 52 t) x3 q w y a)) t x3 q w y := hv
        refine V_aload_n C d_OL_reference_0 rfl ?_
        refine V_iload_n C d_OL_reference_1 rfl ?_
        refine V_callV (as := [_]) C d_OL_reference_2 (c_OL_known_y hI ht) m_OL_known cf_OL k_OL_45 (nn hI.os.n9) ⟨by decide, by decide⟩ (Nat.le_of_ble_eq_true rfl) ⟨by decide, by decide⟩ rfl ?_
        rintro _ _ _ _ _ ⟨rfl, rfl, rfl, rfl, rfl⟩
        dsimp only [Option.toList, List.cons_append, List.nil_append]
        refine V_astore (lv' := [(7, _), (0, _), (1, _), (2, _), (3, _), (4, _), (5, _), (6, _)]) C d_OL_reference_5 (by decide) rfl ?_
        refine V_aload C d_OL_reference_7 rfl ?_
        refine V_iload_n C d_OL_reference_9 rfl ?_
        refine V_iload_n C d_OL_reference_10 rfl ?_
        refine V_iload C d_OL_reference_11 rfl ?_
        refine V_iload C d_OL_reference_13 rfl ?_
        refine V_callV (as := [_, _, _, _]) C d_OL_reference_15 (c_Un_canRefer hU) m_Un_canRefer cf_Un k_OL_111 hU.al ⟨by decide, by decide⟩ (Nat.le_of_ble_eq_true rfl) ⟨by decide, by decide⟩ rfl ?_
        rintro _ _ _ _ _ ⟨rfl, rfl, rfl, rfl, rfl⟩
        dsimp only [Option.toList, List.cons_append, List.nil_append]
        refine V_if_ne (tgt := 31) C d_OL_reference_18 (by decide) (fun h18 => ?_) (fun h18 => absurd (hiff.mpr hv) (b2_0.mp h18))
        refine V_aload C d_OL_reference_31 rfl ?_
        refine V_getI (kx := 5) C d_OL_reference_33 cf_Un (by decide) k_OL_116 hU.al rfl ?_
        refine V_eqi (y := nI (mn ι 52 t)) hU.er ?_
        refine V_bipush (v := 16) C d_OL_reference_36 (by decide) ?_
        refine V_icmp_lt (tgt := 51) C d_OL_reference_38 (by decide) (fun h38 => ?_) (fun h38 => absurd ((nI_ltI (a := (mn ι 52 t)) (b := 16) (by omega) (by decide)).mpr hc9) h38)
        refine V_aload C d_OL_reference_51 rfl ?_
        refine V_new (i := t) (j := (mn ι 52 t)) C d_OL_reference_53 cf_Rf k_OL_121 (hU.fr (Nat.le_refl _)) (fun k hk => ?_) (by decide) (by decide) ?_
        · rcases (show k = 0 ∨ k = 1 ∨ k = 2 ∨ k = 3 ∨ k = 4 by omega) with rfl | rfl | rfl | rfl | rfl <;> first | exact Or.inl ⟨rfl, rfl⟩ | exact Or.inr ⟨rfl, rfl⟩
        refine V_dup C d_OL_reference_56 rfl ?_
        refine V_iload_n C d_OL_reference_57 rfl ?_
        refine V_iload_n C d_OL_reference_58 rfl ?_
        refine V_iload C d_OL_reference_59 rfl ?_
        refine V_iload C d_OL_reference_61 rfl ?_
        refine V_iload C d_OL_reference_63 rfl ?_
        refine V_callI (as := [_, _, _, _, _]) C d_OL_reference_65 (c_Rf_init (ν := up3 ν 6 t (mn ι 52 t) (some 5)) (o := t) (i9 := (mn ι 52 t)) (nn up3_s)) m_Rf_init k_OL_123 ⟨by decide, by decide⟩ (Nat.le_of_ble_eq_true rfl) ⟨by decide, by decide⟩ rfl ?_
        rintro _ _ _ _ _ ⟨rfl, rfl, rfl, rfl, rfl⟩
        dsimp only [Option.toList, List.cons_append, List.nil_append]
        refine V_callV (as := [_]) C d_OL_reference_68 (c_Un_addReference (ν := rν ν t (mn ι 52 t)) (ι := up4 (up4 (up4 (up4 (up4 (upA ι 6 t (mn ι 52 t) (fun _ => 0)) 6 t (mn ι 52 t) 0 x3) 6 t (mn ι 52 t) 1 q) 6 t (mn ι 52 t) 2 w) 6 t (mn ι 52 t) 3 y) 6 t (mn ι 52 t) 4 a) (ρ := upA ρ 6 t (mn ι 52 t) (fun _ => none)) (o := t) hU.u hU.er hc9 (by simp [up3])) m_Un_addReference cf_Un k_OL_126 hU.al ⟨by decide, by decide⟩ (Nat.le_of_ble_eq_true rfl) ⟨by decide, by decide⟩ rfl ?_
        rintro _ _ _ _ _ ⟨rfl, rfl, rfl, rfl, rfl⟩
        dsimp only [Option.toList, List.cons_append, List.nil_append]
        refine V_iret C hQ (by decide) (by decide) d_OL_reference_71 rfl ?_
        exact ⟨rfl, rfl, _, rfl, MC.eq (b' := (nI (mn ι 52 t))) (ι2 := (mAddRef (z0 (rι ι t (mn ι 52 t) x3 q w y a)) t x3 q w y a)) (fun ℓ9 => by have h9 := c_Mo_reference (ν := rν ν t (mn ι 52 t)) (ι := (rι ι t (mn ι 52 t) x3 q w y a)) (ρ := (rρ ρ t (mn ι 52 t))) (ℓ := ℓ9) hI.mo (t := t) (by omega) (show isOb ι (nI t) from by unfold isOb; rw [hI.iu.2.1]; exact rng_to (by omega) ht) hI.bd.b52 hI.bd.b42 (s9 := x3) (q := q) (w := w) (n := y) (a := a); rw [if_pos hv1, hc1, if_neg hc, if_pos hv1, if_neg hc] at h9; exact h9) (fun _ => rfl) (rfl) (gm.rf.up) (⟨N, c9, w9, n9, z9, kn, g9, IV.ref hI ht hc9 hv⟩)⟩
    · skip
      refine V_aload_n C d_OL_reference_0 rfl ?_
      refine V_iload_n C d_OL_reference_1 rfl ?_
      refine V_callV (as := [_]) C d_OL_reference_2 (c_OL_known_y hI ht) m_OL_known cf_OL k_OL_45 (nn hI.os.n9) ⟨by decide, by decide⟩ (Nat.le_of_ble_eq_true rfl) ⟨by decide, by decide⟩ rfl ?_
      rintro _ _ _ _ _ ⟨rfl, rfl, rfl, rfl, rfl⟩
      dsimp only [Option.toList, List.cons_append, List.nil_append]
      refine V_astore (lv' := [(7, _), (0, _), (1, _), (2, _), (3, _), (4, _), (5, _), (6, _)]) C d_OL_reference_5 (by decide) rfl ?_
      refine V_aload C d_OL_reference_7 rfl ?_
      refine V_iload_n C d_OL_reference_9 rfl ?_
      refine V_iload_n C d_OL_reference_10 rfl ?_
      refine V_iload C d_OL_reference_11 rfl ?_
      refine V_iload C d_OL_reference_13 rfl ?_
      refine V_callV (as := [_, _, _, _]) C d_OL_reference_15 (c_Un_canRefer hU) m_Un_canRefer cf_Un k_OL_111 hU.al ⟨by decide, by decide⟩ (Nat.le_of_ble_eq_true rfl) ⟨by decide, by decide⟩ rfl ?_
      rintro _ _ _ _ _ ⟨rfl, rfl, rfl, rfl, rfl⟩
      dsimp only [Option.toList, List.cons_append, List.nil_append]
      refine V_if_ne (tgt := 31) C d_OL_reference_18 (by decide) (fun h18 => absurd (hiff.mp (b2_n0.mp h18)) hv) (fun h18 => ?_)
      refine V_throwS (E := "java/lang/IllegalArgumentException") (text := "no such section, place, way or name") (ik := 55) (is := 114) (ic := 59) C hQ rfl (by decide) k_OL_55 (tb_in 81 (by decide +kernel) rfl) (by decide +kernel) (by decide +kernel) (by decide +kernel) (by decide +kernel) (by decide +kernel) d_OL_reference_21 d_OL_reference_24 d_OL_reference_25 d_OL_reference_27 d_OL_reference_30 (by decide) (Nat.le_of_ble_eq_true rfl) (by decide) (by decide) (by decide) (by decide) ?_
      exact ⟨rfl, rfl, 2, by simp, MC.eq (b' := 0) (ι2 := (up4 (z0 ι) 10 0 0 0 2)) (fun ℓ9 => by have h9 := c_Mo_reference (ν := ν) (ι := ι) (ρ := ρ) (ℓ := ℓ9) hI.mo (t := t) (by omega) (show isOb ι (nI t) from by unfold isOb; rw [hI.iu.2.1]; exact rng_to (by omega) ht) hI.bd.b52 hI.bd.b42 (s9 := x3) (q := q) (w := w) (n := y) (a := a); rw [if_neg hv, if_neg hv] at h9; exact h9) (fun h => absurd h (by decide)) (rfl) (gm.rf) (⟨N, c9, w9, n9, z9, kn, g9, hI.t0.t0⟩)⟩
  · skip
    refine V_aload_n C d_OL_reference_0 rfl ?_
    refine V_iload_n C d_OL_reference_1 rfl ?_
    refine V_callVX (as := [_]) C hQ rfl d_OL_reference_2 (c_OL_known_n hI hx) m_OL_known cf_OL k_OL_45 (nn hI.os.n9) ⟨by decide, by decide⟩ (Nat.le_of_ble_eq_true rfl) ⟨by decide, by decide⟩ rfl (by decide) (by decide) (by rintro E _ _ _ _ ⟨rfl, rfl, rfl, rfl, rfl⟩; exact ⟨rfl, rfl, 1, by simp, MC.eq (b' := 0) (ι2 := (up4 ι 10 0 0 0 1)) (fun ℓ9 => c_Mo_reference_no hI.mo (fun z => hx (by have := z; unfold isOb at this; rw [hI.iu.2.1] at this; exact this))) (fun h => absurd h (by decide)) (rfl) (gm.rf) (⟨N, c9, w9, n9, z9, kn, g9, hI.t0⟩)⟩) ?_
    exact fun _ _ _ _ _ h => h.elim
set_option maxHeartbeats 1000000 in
set_option maxRecDepth 10000 in
theorem c_Li_isChosen {ν : Nu} {ι : Io} {ρ : Ro} {ℓ : Lo} (hO : OS ν ρ) {c9 : Nat} (hc : ι 0 0 0 2 = nI c9) (h12 : c9 ≤ 12) (heq : ∀ k, k < c9 → ι 27 0 0 k = ι 59 0 0 k) {x : Int32} : Ct y_Li_isChosen (Cond.code y_Li_isChosen b_Li_isChosen 3 (some .boolean) :: tb_) { frames := 0, cells := 0, slots := 0, locals := 0 } [sR 0 0 0, sI x] ν ι ρ ℓ (pEq (some (sI (b2 (inCh ι x c9 = true)))) ν ι ρ ℓ) (noX) := by
  refine Ct.ofV (by decide) (Nat.le_of_ble_eq_true rfl) rfl ?_
  intro p l e s m args below meth c D B tW α0 Q C hQ
  have loop : ∀ (f : Nat) (i : Nat), c9 - i < f → (i ≤ c9) → (∀ k, k < i → ¬ ι 59 0 0 k = x) → V p l e { frames := 0, cells := 0, slots := 0, locals := 0 } s m args below meth c D B α0 ν 3 Q 0 0 ν ι ρ ℓ 2 [(2, sI (nI i)), (0, sR 0 0 0), (1, sI x)] [] := by
    intro f
    induction f with
    | zero => intros; omega
    | succ f ih =>
      intro i hf hi0 hno
      refine V_iload_n C d_Li_isChosen_2 rfl ?_
      refine V_aload_n C d_Li_isChosen_3 rfl ?_
      refine V_getI (kx := 2) C d_Li_isChosen_4 cf_Li (by decide) k_Li_48 (nn hO.n0) rfl ?_
      rw [hc]
      refine V_icmp_ge (tgt := 28) C d_Li_isChosen_7 (by decide) (fun h7 => ?_) (fun h7 => ?_)
      · have hi : i = c9 := by have := (nI_leI (a := c9) (b := i) (by omega) (by omega)).mp h7; omega
        subst hi
        refine V_iconst (v := 0) C d_Li_isChosen_28 (by decide) ?_
        refine V_zret C hQ (by decide) (by decide) d_Li_isChosen_29 rfl rfl ?_
        exact ⟨congrArg (fun z => some (sI z)) (b2_f (by rw [inCh_f.mpr hno]; decide)), rfl, rfl, rfl, rfl⟩
      · have hi : i < c9 := Nat.lt_of_not_le fun z => h7 ((nI_leI (by omega) (by omega)).mpr z)
        refine V_aload_n C d_Li_isChosen_10 rfl ?_
        refine V_getR (kx := 1) C d_Li_isChosen_11 cf_Li (by decide) k_Li_17 (nn hO.n0) rfl hO.r01 ?_
        refine V_iload_n C d_Li_isChosen_14 rfl ?_
        refine V_iald C d_Li_isChosen_15 (by decide) rfl hO.n27 rfl (by omega) rfl ?_
        refine V_iload_n C d_Li_isChosen_16 rfl ?_
        refine V_icmp_ne (tgt := 22) C d_Li_isChosen_17 (by decide) (fun h17 => ?_) (fun h17 => ?_)
        · refine V_iinc (v := nI (i + 1)) (lv' := [(2, _), (0, _), (1, _)]) C d_Li_isChosen_22 rfl (nI_1 i) (by decide) rfl ?_
          refine V_goto (tgt := 2) C d_Li_isChosen_25 (by decide) ?_
          refine V_pick [0, 1, 2] rfl ?_
          exact ih (i + 1) (by omega) (by omega) (fun k hk => by by_cases hq : k = i; (rw [hq]; rw [heq i hi] at h17; exact h17); exact hno k (by omega))
        · refine V_iconst (v := 1) C d_Li_isChosen_20 (by decide) ?_
          refine V_zret C hQ (by decide) (by decide) d_Li_isChosen_21 rfl rfl ?_
          exact ⟨congrArg (fun z => some (sI z)) (b2_t (inCh_t hi (by rw [← heq i hi]; exact h17))), rfl, rfl, rfl, rfl⟩
  refine V_iconst (v := 0) C d_Li_isChosen_0 (by decide) ?_
  refine V_istore_n (lv' := [(2, _), (0, _), (1, _)]) C d_Li_isChosen_1 (by decide) rfl ?_
  refine V_pick [0, 1, 2] rfl ?_
  exact loop (c9 + 1) 0 (by omega) (by omega) (fun k hk => absurd hk (by omega))
set_option maxHeartbeats 1000000 in
set_option maxRecDepth 10000 in
theorem c_Li_takeBehind {ν : Nu} {ι : Io} {ρ : Ro} {ℓ : Lo} (hO : OS ν ρ) {c9 t : Nat} (hc : ι 0 0 0 2 = nI c9) (h12 : c9 < 12) (ht : t < 12) (hv : ν 8 t 0 ≠ none) : Ct y_Li_takeBehind (Cond.code y_Li_takeBehind b_Li_takeBehind 3 (some .int) :: tb_) { frames := 0, cells := 0, slots := 0, locals := 0 } [sR 0 0 0, sI (nI t), sR 8 t 0] ν ι ρ ℓ (pEq (some (sI (nI (c9 + 1)))) ν (cι ι t c9) (up4 ρ 26 0 0 t (some (8, t, 0))) ℓ) (noX) := by
  refine Ct.ofV (by decide) (Nat.le_of_ble_eq_true rfl) rfl ?_
  intro p l e s m args below meth c D B tW α0 Q C hQ
  refine V_aload_n C d_Li_takeBehind_0 rfl ?_
  refine V_getR (kx := 0) C d_Li_takeBehind_1 cf_Li (by decide) k_Li_11 (nn hO.n0) rfl hO.r00 ?_
  refine V_iload_n C d_Li_takeBehind_4 rfl ?_
  refine V_aload_n C d_Li_takeBehind_5 rfl ?_
  refine V_aast C d_Li_takeBehind_6 (by decide) (by decide) rfl cf_Un hO.n26 rfl ht rfl hv ?_
  refine V_aload_n C d_Li_takeBehind_7 rfl ?_
  refine V_getR (kx := 1) C d_Li_takeBehind_8 cf_Li (by decide) k_Li_17 (nn hO.n0) rfl hO.r01 ?_
  refine V_aload_n C d_Li_takeBehind_11 rfl ?_
  refine V_getI (kx := 2) C d_Li_takeBehind_12 cf_Li (by decide) k_Li_48 (nn hO.n0) rfl ?_
  refine V_iload_n C d_Li_takeBehind_15 rfl ?_
  refine V_iast C d_Li_takeBehind_16 (by decide) rfl hO.n27 hc h12 rfl ?_
  refine V_aload_n C d_Li_takeBehind_17 rfl ?_
  refine V_dup C d_Li_takeBehind_18 rfl ?_
  refine V_getI (kx := 2) C d_Li_takeBehind_19 cf_Li (by decide) k_Li_48 (nn hO.n0) rfl ?_
  refine V_iconst (v := 1) C d_Li_takeBehind_22 (by decide) ?_
  refine V_iadd C d_Li_takeBehind_23 ?_
  refine V_eqi (y := nI (c9 + 1)) (by rw [show up4 ι 27 0 0 c9 (nI t) 0 0 0 2 = nI c9 from hc]; exact nI_1 c9) ?_
  refine V_putI (kx := 2) C d_Li_takeBehind_24 cf_Li (by decide) k_Li_48 (nn hO.n0) rfl rfl rfl rfl ?_
  refine V_aload_n C d_Li_takeBehind_27 rfl ?_
  refine V_getI (kx := 2) C d_Li_takeBehind_28 cf_Li (by decide) k_Li_48 (nn hO.n0) rfl ?_
  rw [up4_s]
  refine V_iret C hQ (by decide) (by decide) d_Li_takeBehind_31 rfl ?_
  exact ⟨rfl, rfl, rfl, rfl, rfl⟩
set_option maxHeartbeats 1000000 in
set_option maxRecDepth 10000 in
theorem c_OL_choose {ν : Nu} {ι : Io} {ρ : Ro} {ℓ : Lo} {N c9 w9 n9 z9 kn g9 : Nat} (hI : IV ν ι ρ N c9 w9 n9 z9 kn g9) {x : Int32} : Ct y_OL_choose (Cond.code y_OL_choose b_OL_choose 3 (some .int) :: tb_) { frames := 7, cells := 60, slots := 2000, locals := 112 } [sR 9 0 0, sI x] ν ι ρ ℓ (fun r9 ν1 ι1 ρ1 ℓ1 => ℓ = ℓ1 ∧ ν1 90 0 0 = ν 90 0 0 ∧ ∃ b, r9 = some (sI b) ∧ MC y_Mo_choose (Cond.code y_Mo_choose b_Mo_choose 3 (some .int) :: tb_) { frames := 2, cells := 0, slots := 0, locals := 43 } [sR 10 0 0, sI x] 0 b ν ρ ν1 ι1 ρ1) (fun E ν1 ι1 ρ1 ℓ1 => ℓ = ℓ1 ∧ ν1 90 0 0 = ν 90 0 0 ∧ ∃ k7, (E, k7) ∈ ([("java/lang/IndexOutOfBoundsException", 1), ("java/lang/IllegalArgumentException", 2)] : List (String × Int32)) ∧ MC y_Mo_choose (Cond.code y_Mo_choose b_Mo_choose 3 (some .int) :: tb_) { frames := 2, cells := 0, slots := 0, locals := 43 } [sR 10 0 0, sI x] k7 0 ν ρ ν1 ι1 ρ1) := by
  refine Ct.ofV (by decide) (Nat.le_of_ble_eq_true rfl) rfl ?_
  intro p l e s m args below meth c D B tW α0 Q C hQ
  have h12 := hI.N12
  by_cases hx : 0 ≤ x ∧ x ≤ nI N - 1
  · obtain ⟨t, ht, hxt⟩ := rng_of (by omega) hx
    subst hxt
    have hU := hI.um ht
    have e42 : ι 42 0 0 t = nI (mn ι 42 t) := hI.bd.b42.eq (by omega)
    have hC := hI.cv ht
    have h8 := hU.c8
    have l47 := hU.n12
    have l52 := hU.r16
    by_cases hin : inCh ι (nI t) c9 = true
    · have hin2 : inCh (z0 ι) (nI t) c9 = true := hin
      refine V_aload_n C d_OL_choose_0 rfl ?_
      refine V_iload_n C d_OL_choose_1 rfl ?_
      refine V_callV (as := [_]) C d_OL_choose_2 (c_OL_known_y hI ht) m_OL_known cf_OL k_OL_45 (nn hI.os.n9) ⟨by decide, by decide⟩ (Nat.le_of_ble_eq_true rfl) ⟨by decide, by decide⟩ rfl ?_
      rintro _ _ _ _ _ ⟨rfl, rfl, rfl, rfl, rfl⟩
      dsimp only [Option.toList, List.cons_append, List.nil_append]
      refine V_astore_n (lv' := [(2, _), (0, _), (1, _)]) C d_OL_choose_5 (by decide) rfl ?_
      refine V_aload_n C d_OL_choose_6 rfl ?_
      refine V_getR (kx := 2) C d_OL_choose_7 cf_OL (by decide) k_OL_18 (nn hI.os.n9) rfl hI.os.r92 ?_
      refine V_iload_n C d_OL_choose_10 rfl ?_
      refine V_callV (as := [_]) C d_OL_choose_11 (c_Li_isChosen hI.os hI.ic.1 hI.ic.2.2.1 (fun k hk => (hI.ic.2.2.2.1 k hk).1)) m_Li_isChosen cf_Li k_OL_130 (nn hI.os.n0) ⟨by decide, by decide⟩ (Nat.le_of_ble_eq_true rfl) ⟨by decide, by decide⟩ rfl ?_
      rintro _ _ _ _ _ ⟨rfl, rfl, rfl, rfl, rfl⟩
      dsimp only [Option.toList, List.cons_append, List.nil_append]
      refine V_if_eq (tgt := 27) C d_OL_choose_14 (by decide) (fun h14 => absurd hin (b2_0.mp h14)) (fun h14 => ?_)
      refine V_throwS (E := "java/lang/IllegalArgumentException") (text := "the object is chosen already") (ik := 55) (is := 134) (ic := 59) C hQ rfl (by decide) k_OL_55 (tb_in 81 (by decide +kernel) rfl) (by decide +kernel) (by decide +kernel) (by decide +kernel) (by decide +kernel) (by decide +kernel) d_OL_choose_17 d_OL_choose_20 d_OL_choose_21 d_OL_choose_23 d_OL_choose_26 (by decide) (Nat.le_of_ble_eq_true rfl) (by decide) (by decide) (by decide) (by decide) ?_
      exact ⟨rfl, rfl, 2, by simp, MC.eq (b' := 0) (ι2 := (up4 (z0 ι) 10 0 0 0 2)) (fun ℓ9 => by have h9 := c_Mo_choose (ν := ν) (ι := ι) (ρ := ρ) (ℓ := ℓ9) hI.mo (t := t) (by omega) (show isOb ι (nI t) from by unfold isOb; rw [hI.iu.2.1]; exact rng_to (by omega) ht) (c9 := c9) hI.ic.2.1 (Or.inr hin) hI.ic.2.2.1; rw [if_pos hin2, if_pos hin2] at h9; exact h9) (fun h => absurd h (by decide)) (rfl) (gm.rf) (⟨N, c9, w9, n9, z9, kn, g9, hI.t0.t0⟩)⟩
    · have hin2 : ¬ inCh (z0 (cι ι t c9)) (nI t) c9 = true := hin
      have hno := inCh_f.mp (Bool.not_eq_true _ ▸ hin)
      have hc12 := hI.ch12 ht hno
      refine V_aload_n C d_OL_choose_0 rfl ?_
      refine V_iload_n C d_OL_choose_1 rfl ?_
      refine V_callV (as := [_]) C d_OL_choose_2 (c_OL_known_y hI ht) m_OL_known cf_OL k_OL_45 (nn hI.os.n9) ⟨by decide, by decide⟩ (Nat.le_of_ble_eq_true rfl) ⟨by decide, by decide⟩ rfl ?_
      rintro _ _ _ _ _ ⟨rfl, rfl, rfl, rfl, rfl⟩
      dsimp only [Option.toList, List.cons_append, List.nil_append]
      refine V_astore_n (lv' := [(2, _), (0, _), (1, _)]) C d_OL_choose_5 (by decide) rfl ?_
      refine V_aload_n C d_OL_choose_6 rfl ?_
      refine V_getR (kx := 2) C d_OL_choose_7 cf_OL (by decide) k_OL_18 (nn hI.os.n9) rfl hI.os.r92 ?_
      refine V_iload_n C d_OL_choose_10 rfl ?_
      refine V_callV (as := [_]) C d_OL_choose_11 (c_Li_isChosen hI.os hI.ic.1 hI.ic.2.2.1 (fun k hk => (hI.ic.2.2.2.1 k hk).1)) m_Li_isChosen cf_Li k_OL_130 (nn hI.os.n0) ⟨by decide, by decide⟩ (Nat.le_of_ble_eq_true rfl) ⟨by decide, by decide⟩ rfl ?_
      rintro _ _ _ _ _ ⟨rfl, rfl, rfl, rfl, rfl⟩
      dsimp only [Option.toList, List.cons_append, List.nil_append]
      refine V_if_eq (tgt := 27) C d_OL_choose_14 (by decide) (fun h14 => ?_) (fun h14 => absurd (b2_n0.mp h14) hin)
      refine V_aload_n C d_OL_choose_27 rfl ?_
      refine V_getR (kx := 2) C d_OL_choose_28 cf_OL (by decide) k_OL_18 (nn hI.os.n9) rfl hI.os.r92 ?_
      refine V_iload_n C d_OL_choose_31 rfl ?_
      refine V_aload_n C d_OL_choose_32 rfl ?_
      refine V_callV (as := [_, _]) C d_OL_choose_33 (c_Li_takeBehind hI.os hI.ic.1 (show c9 < 12 by omega) (show t < 12 by omega) hU.al) m_Li_takeBehind cf_Li k_OL_136 (nn hI.os.n0) ⟨by decide, by decide⟩ (Nat.le_of_ble_eq_true rfl) ⟨by decide, by decide⟩ rfl ?_
      rintro _ _ _ _ _ ⟨rfl, rfl, rfl, rfl, rfl⟩
      dsimp only [Option.toList, List.cons_append, List.nil_append]
      refine V_iret C hQ (by decide) (by decide) d_OL_choose_36 rfl ?_
      exact ⟨rfl, rfl, _, rfl, MC.eq (b' := (nI (c9 + 1))) (ι2 := (up4 (up4 (z0 (cι ι t c9)) 59 0 0 c9 (nI t)) 10 0 0 18 (nI (c9 + 1)))) (fun ℓ9 => by have h9 := c_Mo_choose (ν := ν) (ι := (cι ι t c9)) (ρ := (up4 ρ 26 0 0 t (some (8, t, 0)))) (ℓ := ℓ9) hI.mo (t := t) (by omega) (show isOb ι (nI t) from by unfold isOb; rw [hI.iu.2.1]; exact rng_to (by omega) ht) (c9 := c9) hI.ic.2.1 (Or.inl (show c9 < 12 by omega)) hI.ic.2.2.1; rw [if_neg hin2, if_neg hin2] at h9; exact h9) (fun _ => rfl) (rfl) (gm.rf) (⟨N, c9 + 1, w9, n9, z9, kn, g9, IV.cho hI ht hno⟩)⟩
  · skip
    refine V_aload_n C d_OL_choose_0 rfl ?_
    refine V_iload_n C d_OL_choose_1 rfl ?_
    refine V_callVX (as := [_]) C hQ rfl d_OL_choose_2 (c_OL_known_n hI hx) m_OL_known cf_OL k_OL_45 (nn hI.os.n9) ⟨by decide, by decide⟩ (Nat.le_of_ble_eq_true rfl) ⟨by decide, by decide⟩ rfl (by decide) (by decide) (by rintro E _ _ _ _ ⟨rfl, rfl, rfl, rfl, rfl⟩; exact ⟨rfl, rfl, 1, by simp, MC.eq (b' := 0) (ι2 := (up4 ι 10 0 0 0 1)) (fun ℓ9 => c_Mo_choose_no hI.mo (fun z => hx (by have := z; unfold isOb at this; rw [hI.iu.2.1] at this; exact this))) (fun h => absurd h (by decide)) (rfl) (gm.rf) (⟨N, c9, w9, n9, z9, kn, g9, hI.t0⟩)⟩) ?_
    exact fun _ _ _ _ _ h => h.elim
