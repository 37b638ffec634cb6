set_option maxHeartbeats 1000000 in
set_option maxRecDepth 10000 in
theorem c_OL_unitOrNull_y {ν : Nu} {ι : Io} {ρ : Ro} {ℓ : Lo} {N c9 w9 n9 z9 kn g9 : Nat} (hI : IV ν ι ρ N c9 w9 n9 z9 kn g9) {t : Nat} (ht : t < N) : Ct y_OL_unitOrNull (Cond.code y_OL_unitOrNull b_OL_unitOrNull 2 (some (.object "ObjectLinks$Unit")) :: tb_) { frames := 0, cells := 0, slots := 0, locals := 0 } [sR 9 0 0, sI (nI t)] ν ι ρ ℓ (pEq (some (sR 8 t 0)) ν ι ρ ℓ) (noX) := by
  refine Ct.ofV (by decide) (Nat.le_of_ble_eq_true rfl) rfl ?_
  intro p l e s m args below meth c D B tW α0 Q C hQ
  have h12 := hI.N12
  refine V_iload_n C d_OL_unitOrNull_0 rfl ?_
  refine V_if_lt (tgt := 21) C d_OL_unitOrNull_1 (by decide) (fun h1 => absurd h1 (nI_nneg (by omega))) (fun h1 => ?_)
  refine V_iload_n C d_OL_unitOrNull_4 rfl ?_
  refine V_aload_n C d_OL_unitOrNull_5 rfl ?_
  refine V_getI (kx := 1) C d_OL_unitOrNull_6 cf_OL (by decide) k_OL_29 (nn hI.os.n9) rfl ?_
  rw [hI.iu.1]
  refine V_icmp_ge (tgt := 21) C d_OL_unitOrNull_9 (by decide) (fun h9 => absurd ((nI_leI (by omega) (by omega)).mp h9) (by omega)) (fun h9 => ?_)
  refine V_aload_n C d_OL_unitOrNull_12 rfl ?_
  refine V_getR (kx := 0) C d_OL_unitOrNull_13 cf_OL (by decide) k_OL_11 (nn hI.os.n9) rfl hI.os.r90 ?_
  refine V_iload_n C d_OL_unitOrNull_16 rfl ?_
  refine V_aald C d_OL_unitOrNull_17 (by decide) (by decide) rfl hI.os.n20 rfl (by omega) rfl (hI.ob ht) ?_
  refine V_goto (tgt := 22) C d_OL_unitOrNull_18 (by decide) ?_
  refine V_aret C hQ (by decide) (by decide) d_OL_unitOrNull_22 rfl ?_
  exact ⟨rfl, rfl, rfl, rfl, rfl⟩
set_option maxHeartbeats 1000000 in
set_option maxRecDepth 10000 in
theorem c_OL_unitOrNull_n {ν : Nu} {ι : Io} {ρ : Ro} {ℓ : Lo} {N c9 w9 n9 z9 kn g9 : Nat} (hI : IV ν ι ρ N c9 w9 n9 z9 kn g9) {x : Int32} (hx : ¬ (0 ≤ x ∧ x ≤ nI N - 1)) : Ct y_OL_unitOrNull (Cond.code y_OL_unitOrNull b_OL_unitOrNull 2 (some (.object "ObjectLinks$Unit")) :: tb_) { frames := 0, cells := 0, slots := 0, locals := 0 } [sR 9 0 0, sI x] ν ι ρ ℓ (pEq (some sN) ν ι ρ ℓ) (noX) := by
  refine Ct.ofV (by decide) (Nat.le_of_ble_eq_true rfl) rfl ?_
  intro p l e s m args below meth c D B tW α0 Q C hQ
  have h12 := hI.N12
  have e9 : x < nI N ↔ x ≤ nI N - 1 := lt_pd (by omega)
  refine V_iload_n C d_OL_unitOrNull_0 rfl ?_
  refine V_if_lt (tgt := 21) C d_OL_unitOrNull_1 (by decide) (fun h1 => ?_) (fun h1 => ?_)
  · refine V_null C d_OL_unitOrNull_21 ?_
    refine V_aret C hQ (by decide) (by decide) d_OL_unitOrNull_22 rfl ?_
    exact ⟨rfl, rfl, rfl, rfl, rfl⟩
  · refine V_iload_n C d_OL_unitOrNull_4 rfl ?_
    refine V_aload_n C d_OL_unitOrNull_5 rfl ?_
    refine V_getI (kx := 1) C d_OL_unitOrNull_6 cf_OL (by decide) k_OL_29 (nn hI.os.n9) rfl ?_
    rw [hI.iu.1]
    refine V_icmp_ge (tgt := 21) C d_OL_unitOrNull_9 (by decide) (fun h9 => ?_) (fun h9 => absurd ⟨Int32.not_lt.mp h1, e9.mp (Int32.not_le.mp h9)⟩ hx)
    refine V_null C d_OL_unitOrNull_21 ?_
    refine V_aret C hQ (by decide) (by decide) d_OL_unitOrNull_22 rfl ?_
    exact ⟨rfl, rfl, rfl, rfl, rfl⟩
set_option maxHeartbeats 1000000 in
set_option maxRecDepth 10000 in
theorem c_OL_known_y {ν : Nu} {ι : Io} {ρ : Ro} {ℓ : Lo} {N c9 w9 n9 z9 kn g9 : Nat} (hI : IV ν ι ρ N c9 w9 n9 z9 kn g9) {t : Nat} (ht : t < N) : Ct y_OL_known (Cond.code y_OL_known b_OL_known 3 (some (.object "ObjectLinks$Unit")) :: tb_) { frames := 6, cells := 0, slots := 0, locals := 90 } [sR 9 0 0, sI (nI t)] ν ι ρ ℓ (pEq (some (sR 8 t 0)) ν ι ρ ℓ) (noX) := by
  refine Ct.ofV (by decide) (Nat.le_of_ble_eq_true rfl) rfl ?_
  intro p l e s m args below meth c D B tW α0 Q C hQ
  refine V_aload_n C d_OL_known_0 rfl ?_
  refine V_iload_n C d_OL_known_1 rfl ?_
  refine V_callV (as := [_]) C d_OL_known_2 (c_OL_unitOrNull_y hI ht) m_OL_unitOrNull cf_OL k_OL_228 (nn hI.os.n9) ⟨by decide, by decide⟩ (Nat.le_of_ble_eq_true rfl) ⟨by decide, by decide⟩ rfl ?_
  rintro _ _ _ _ _ ⟨rfl, rfl, rfl, rfl, rfl⟩
  dsimp only [Option.toList, List.cons_append, List.nil_append]
  refine V_astore_n (lv' := [(2, _), (0, _), (1, _)]) C d_OL_known_5 (by decide) rfl ?_
  refine V_aload_n C d_OL_known_6 rfl ?_
  refine V_ifnonnull (tgt := 20) C d_OL_known_7 (by decide) (fun zz7 h7 => ?_) (fun h7 => (by cases h7))
  refine V_aload_n C d_OL_known_20 rfl ?_
  refine V_aret C hQ (by decide) (by decide) d_OL_known_21 rfl ?_
  exact ⟨rfl, rfl, rfl, rfl, rfl⟩
set_option maxHeartbeats 1000000 in
set_option maxRecDepth 10000 in
theorem c_OL_known_n {ν : Nu} {ι : Io} {ρ : Ro} {ℓ : Lo} {N c9 w9 n9 z9 kn g9 : Nat} (hI : IV ν ι ρ N c9 w9 n9 z9 kn g9) {x : Int32} (hx : ¬ (0 ≤ x ∧ x ≤ nI N - 1)) : Ct y_OL_known (Cond.code y_OL_known b_OL_known 3 (some (.object "ObjectLinks$Unit")) :: tb_) { frames := 6, cells := 1, slots := 6, locals := 90 } [sR 9 0 0, sI x] ν ι ρ ℓ (fun _ _ _ _ _ => False) (fun E ν1 ι1 ρ1 ℓ1 => "java/lang/IndexOutOfBoundsException" = E ∧ ν = ν1 ∧ ι = ι1 ∧ ρ = ρ1 ∧ ℓ = ℓ1) := by
  refine Ct.ofV (by decide) (Nat.le_of_ble_eq_true rfl) rfl ?_
  intro p l e s m args below meth c D B tW α0 Q C hQ
  refine V_aload_n C d_OL_known_0 rfl ?_
  refine V_iload_n C d_OL_known_1 rfl ?_
  refine V_callV (as := [_]) C d_OL_known_2 (c_OL_unitOrNull_n hI hx) m_OL_unitOrNull cf_OL k_OL_228 (nn hI.os.n9) ⟨by decide, by decide⟩ (Nat.le_of_ble_eq_true rfl) ⟨by decide, by decide⟩ rfl ?_
  rintro _ _ _ _ _ ⟨rfl, rfl, rfl, rfl, rfl⟩
  dsimp only [Option.toList, List.cons_append, List.nil_append]
  refine V_astore_n (lv' := [(2, _), (0, _), (1, _)]) C d_OL_known_5 (by decide) rfl ?_
  refine V_aload_n C d_OL_known_6 rfl ?_
  refine V_ifnonnull (tgt := 20) C d_OL_known_7 (by decide) (fun _ h7 => (by cases h7)) (fun h7 => ?_)
  refine V_throwS (E := "java/lang/IndexOutOfBoundsException") (text := "no such object") (ik := 169) (is := 230) (ic := 173) C hQ rfl (by decide) k_OL_169 (tb_in 79 (by decide +kernel) rfl) (by decide +kernel) (by decide +kernel) (by decide +kernel) (by decide +kernel) (by decide +kernel) d_OL_known_10 d_OL_known_13 d_OL_known_14 d_OL_known_16 d_OL_known_19 (by decide) (Nat.le_of_ble_eq_true rfl) (by decide) (by decide) (by decide) (by decide) ?_
  exact ⟨rfl, rfl, rfl, rfl, rfl⟩
set_option maxHeartbeats 1000000 in
set_option maxRecDepth 10000 in
theorem c_OL_keep {ν : Nu} {ι : Io} {ρ : Ro} {ℓ : Lo} (h9 : ν 9 0 0 ≠ none) (hr : ρ 9 0 0 0 = some (20, 0, 0)) (hn : ν 20 0 0 = some 12) {N : Nat} (he : ι 9 0 0 1 = nI N) (hN : N < 12) {a b : Nat} (hv : ν 8 a b ≠ none) : Ct y_OL_keep (Cond.code y_OL_keep b_OL_keep 2 (some .int) :: tb_) { frames := 0, cells := 0, slots := 0, locals := 0 } [sR 9 0 0, sR 8 a b] ν ι ρ ℓ (pEq (some (sI (nI N))) ν (up4 ι 9 0 0 1 (nI (N + 1))) (up4 ρ 20 0 0 N (some (8, a, b))) ℓ) (noX) := by
  refine Ct.ofV (by decide) (Nat.le_of_ble_eq_true rfl) rfl ?_
  intro p l e s m args below meth c D B tW α0 Q C hQ
  refine V_aload_n C d_OL_keep_0 rfl ?_
  refine V_getR (kx := 0) C d_OL_keep_1 cf_OL (by decide) k_OL_11 h9 rfl hr ?_
  refine V_aload_n C d_OL_keep_4 rfl ?_
  refine V_getI (kx := 1) C d_OL_keep_5 cf_OL (by decide) k_OL_29 h9 rfl ?_
  refine V_aload_n C d_OL_keep_8 rfl ?_
  refine V_aast C d_OL_keep_9 (by decide) (by decide) rfl cf_Un hn he hN rfl hv ?_
  refine V_aload_n C d_OL_keep_10 rfl ?_
  refine V_dup C d_OL_keep_11 rfl ?_
  refine V_getI (kx := 1) C d_OL_keep_12 cf_OL (by decide) k_OL_29 h9 rfl ?_
  refine V_iconst (v := 1) C d_OL_keep_15 (by decide) ?_
  refine V_iadd C d_OL_keep_16 ?_
  refine V_eqi (y := nI (N + 1)) (by rw [he]; exact nI_1 N) ?_
  refine V_putI (kx := 1) C d_OL_keep_17 cf_OL (by decide) k_OL_29 h9 rfl rfl rfl rfl ?_
  refine V_aload_n C d_OL_keep_20 rfl ?_
  refine V_getI (kx := 1) C d_OL_keep_21 cf_OL (by decide) k_OL_29 h9 rfl ?_
  refine V_iconst (v := 1) C d_OL_keep_24 (by decide) ?_
  rw [up4_s]
  refine V_isub C d_OL_keep_25 ?_
  rw [nI_pred]
  refine V_iret C hQ (by decide) (by decide) d_OL_keep_26 rfl ?_
  exact ⟨rfl, rfl, rfl, rfl, rfl⟩
set_option maxHeartbeats 1000000 in
set_option maxRecDepth 10000 in
theorem c_OL_fault {ν : Nu} {ι : Io} {ρ : Ro} {ℓ : Lo} {N c9 w9 n9 z9 kn g9 : Nat} (hI : IV ν ι ρ N c9 w9 n9 z9 kn g9) {x : Int32} : Ct y_OL_fault (Cond.code y_OL_fault b_OL_fault 2 (some .int) :: tb_) { frames := 6, cells := 60, slots := 2000, locals := 90 } [sR 9 0 0, sI x] ν ι ρ ℓ (fun r9 ν1 ι1 ρ1 ℓ1 => ℓ = ℓ1 ∧ ν1 90 0 0 = ν 90 0 0 ∧ ∃ b, r9 = some (sI b) ∧ MC y_Mo_fault (Cond.code y_Mo_fault b_Mo_fault 2 (some .int) :: tb_) { frames := 1, cells := 0, slots := 0, locals := 21 } [sR 10 0 0, sI x] 0 b ν ρ ν1 ι1 ρ1) (fun E ν1 ι1 ρ1 ℓ1 => ℓ = ℓ1 ∧ ν1 90 0 0 = ν 90 0 0 ∧ ∃ k7, (E, k7) ∈ ([("java/lang/IndexOutOfBoundsException", 1)] : List (String × Int32)) ∧ MC y_Mo_fault (Cond.code y_Mo_fault b_Mo_fault 2 (some .int) :: tb_) { frames := 1, cells := 0, slots := 0, locals := 21 } [sR 10 0 0, sI x] k7 0 ν ρ ν1 ι1 ρ1) := by
  refine Ct.ofV (by decide) (Nat.le_of_ble_eq_true rfl) rfl ?_
  intro p l e s m args below meth c D B tW α0 Q C hQ
  refine V_iload_n C d_OL_fault_0 rfl ?_
  by_cases c1_0 : x = 0
  · subst c1_0
    refine V_tswI (tgt := 28) C d_OL_fault_1 (by decide) (by decide) rfl (by decide) ?_
    refine V_aload_n C d_OL_fault_28 rfl ?_
    refine V_getR (kx := 2) C d_OL_fault_29 cf_OL (by decide) k_OL_18 (nn hI.os.n9) rfl hI.os.r92 ?_
    refine V_getI (kx := 15) C d_OL_fault_32 cf_Li (by decide) k_OL_160 (nn hI.os.n0) rfl ?_
    refine V_iret C hQ (by decide) (by decide) d_OL_fault_35 rfl ?_
    exact ⟨rfl, rfl, _, rfl, MC.eq (b' := ι 10 0 0 25) (ι2 := (z0 ι)) (fun ℓ9 => by have h9 := c_Mo_fault (ν := ν) (ι := ι) (ρ := ρ) (ℓ := ℓ9) hI.mo (x := 0); skip; exact h9) (fun _ => hI.jf.1.symm) (rfl) (gm.rf) (⟨N, c9, w9, n9, z9, kn, g9, hI.t0⟩)⟩
  by_cases c1_1 : x = 1
  · subst c1_1
    refine V_tswI (tgt := 36) C d_OL_fault_1 (by decide) (by decide) rfl (by decide) ?_
    refine V_aload_n C d_OL_fault_36 rfl ?_
    refine V_getR (kx := 2) C d_OL_fault_37 cf_OL (by decide) k_OL_18 (nn hI.os.n9) rfl hI.os.r92 ?_
    refine V_getI (kx := 16) C d_OL_fault_40 cf_Li (by decide) k_OL_163 (nn hI.os.n0) rfl ?_
    refine V_iret C hQ (by decide) (by decide) d_OL_fault_43 rfl ?_
    exact ⟨rfl, rfl, _, rfl, MC.eq (b' := ι 10 0 0 26) (ι2 := (z0 ι)) (fun ℓ9 => by have h9 := c_Mo_fault (ν := ν) (ι := ι) (ρ := ρ) (ℓ := ℓ9) hI.mo (x := 1); skip; exact h9) (fun _ => hI.jf.2.1.symm) (rfl) (gm.rf) (⟨N, c9, w9, n9, z9, kn, g9, hI.t0⟩)⟩
  by_cases c1_2 : x = 2
  · subst c1_2
    refine V_tswI (tgt := 44) C d_OL_fault_1 (by decide) (by decide) rfl (by decide) ?_
    refine V_aload_n C d_OL_fault_44 rfl ?_
    refine V_getR (kx := 2) C d_OL_fault_45 cf_OL (by decide) k_OL_18 (nn hI.os.n9) rfl hI.os.r92 ?_
    refine V_getI (kx := 17) C d_OL_fault_48 cf_Li (by decide) k_OL_166 (nn hI.os.n0) rfl ?_
    refine V_iret C hQ (by decide) (by decide) d_OL_fault_51 rfl ?_
    exact ⟨rfl, rfl, _, rfl, MC.eq (b' := ι 10 0 0 27) (ι2 := (z0 ι)) (fun ℓ9 => by have h9 := c_Mo_fault (ν := ν) (ι := ι) (ρ := ρ) (ℓ := ℓ9) hI.mo (x := 2); skip; exact h9) (fun _ => hI.jf.2.2.symm) (rfl) (gm.rf) (⟨N, c9, w9, n9, z9, kn, g9, hI.t0⟩)⟩
  refine V_tswO (tgt := 52) C d_OL_fault_1 (tsw_out (lo := 0) 3 (by decide) (fun t ht => ?_)) (by decide) ?_
  · rcases (show t = 0 ∨ t = 1 ∨ t = 2 by omega) with rfl | rfl | rfl <;> assumption
  refine V_throwS (E := "java/lang/IndexOutOfBoundsException") (text := "a fault is told by 0, 1 and 2") (ik := 169) (is := 171) (ic := 173) C hQ rfl (by decide) k_OL_169 (tb_in 79 (by decide +kernel) rfl) (by decide +kernel) (by decide +kernel) (by decide +kernel) (by decide +kernel) (by decide +kernel) d_OL_fault_52 d_OL_fault_55 d_OL_fault_56 d_OL_fault_58 d_OL_fault_61 (by decide) (Nat.le_of_ble_eq_true rfl) (by decide) (by decide) (by decide) (by decide) ?_
  exact ⟨rfl, rfl, 1, by simp, MC.eq (b' := 0) (ι2 := (up4 (z0 ι) 10 0 0 0 1)) (fun ℓ9 => by have h9 := c_Mo_fault (ν := ν) (ι := ι) (ρ := ρ) (ℓ := ℓ9) hI.mo (x := x); rw [if_neg c1_0, if_neg c1_1, if_neg c1_2, if_neg (by rintro (h | h | h); exact c1_0 h; exact c1_1 h; exact c1_2 h)] at h9; exact h9) (fun h => absurd h (by decide)) (rfl) (gm.rf) (⟨N, c9, w9, n9, z9, kn, g9, hI.t0.t0⟩)⟩
set_option maxHeartbeats 1000000 in
set_option maxRecDepth 10000 in
theorem c_OL_image {ν : Nu} {ι : Io} {ρ : Ro} {ℓ : Lo} {N c9 w9 n9 z9 kn g9 : Nat} (hI : IV ν ι ρ N c9 w9 n9 z9 kn g9) {x : Int32} : Ct y_OL_image (Cond.code y_OL_image b_OL_image 2 (some .int) :: tb_) { frames := 6, cells := 60, slots := 2000, locals := 90 } [sR 9 0 0, sI x] ν ι ρ ℓ (fun r9 ν1 ι1 ρ1 ℓ1 => ℓ = ℓ1 ∧ ν1 90 0 0 = ν 90 0 0 ∧ ∃ b, r9 = some (sI b) ∧ MC y_Mo_image (Cond.code y_Mo_image b_Mo_image 2 (some .int) :: tb_) { frames := 1, cells := 0, slots := 0, locals := 22 } [sR 10 0 0, sI x] 0 b ν ρ ν1 ι1 ρ1) (fun E ν1 ι1 ρ1 ℓ1 => ℓ = ℓ1 ∧ ν1 90 0 0 = ν 90 0 0 ∧ ∃ k7, (E, k7) ∈ ([("java/lang/IndexOutOfBoundsException", 1)] : List (String × Int32)) ∧ MC y_Mo_image (Cond.code y_Mo_image b_Mo_image 2 (some .int) :: tb_) { frames := 1, cells := 0, slots := 0, locals := 22 } [sR 10 0 0, sI x] k7 0 ν ρ ν1 ι1 ρ1) := by
  refine Ct.ofV (by decide) (Nat.le_of_ble_eq_true rfl) rfl ?_
  intro p l e s m args below meth c D B tW α0 Q C hQ
  have hle := hI.ig.2.2.1
  have e9 : x < nI n9 ↔ x ≤ nI n9 - 1 := lt_pd (by have := hI.ig.2.2.1; omega)
  by_cases hx : 0 ≤ x ∧ x ≤ nI n9 - 1
  · obtain ⟨j, hj, hxj⟩ := rng_of (by omega) hx
    subst hxj
    have hx2 := hx
    have hcl : (nI j).toNatClampNeg = j := nI_clamp (by omega)
    refine V_iload_n C d_OL_image_0 rfl ?_
    refine V_if_lt (tgt := 15) C d_OL_image_1 (by decide) (fun h1 => absurd h1 (nI_nneg (by omega))) (fun h1 => ?_)
    refine V_iload_n C d_OL_image_4 rfl ?_
    refine V_aload_n C d_OL_image_5 rfl ?_
    refine V_getR (kx := 2) C d_OL_image_6 cf_OL (by decide) k_OL_18 (nn hI.os.n9) rfl hI.os.r92 ?_
    refine V_getI (kx := 11) C d_OL_image_9 cf_Li (by decide) k_OL_157 (nn hI.os.n0) rfl ?_
    refine V_eqi (y := nI n9) hI.ig.1 ?_
    refine V_icmp_lt (tgt := 25) C d_OL_image_12 (by decide) (fun h12 => ?_) (fun h12 => absurd ((nI_ltI (by omega) (by omega)).mpr hj) h12)
    refine V_aload_n C d_OL_image_25 rfl ?_
    refine V_getR (kx := 2) C d_OL_image_26 cf_OL (by decide) k_OL_18 (nn hI.os.n9) rfl hI.os.r92 ?_
    refine V_getR (kx := 10) C d_OL_image_29 cf_Li (by decide) k_OL_176 (nn hI.os.n0) rfl hI.os.r010 ?_
    refine V_iload_n C d_OL_image_32 rfl ?_
    refine V_iald C d_OL_image_33 (by decide) rfl hI.os.n31 rfl (by omega) rfl ?_
    refine V_iret C hQ (by decide) (by decide) d_OL_image_34 rfl ?_
    exact ⟨rfl, rfl, _, rfl, MC.eq (b' := ι 73 0 0 j) (ι2 := (z0 ι)) (fun ℓ9 => by have h9 := c_Mo_image (ν := ν) (ι := ι) (ρ := ρ) (ℓ := ℓ9) hI.mo (c9 := n9) hI.ig.2.1 (by have := hI.ig.2.2.1; omega) (x := (nI j)); rw [if_pos hx2, if_pos hx2, hcl] at h9; exact h9) (fun _ => (hI.ig.2.2.2.2.2.2 j hj).symm) (rfl) (gm.rf) (⟨N, c9, w9, n9, z9, kn, g9, hI.t0⟩)⟩
  · skip
    refine V_iload_n C d_OL_image_0 rfl ?_
    refine V_if_lt (tgt := 15) C d_OL_image_1 (by decide) (fun h1 => ?_) (fun h1 => ?_)
    · refine V_throwS (E := "java/lang/IndexOutOfBoundsException") (text := "the image has no such byte") (ik := 169) (is := 174) (ic := 173) C hQ rfl (by decide) k_OL_169 (tb_in 79 (by decide +kernel) rfl) (by decide +kernel) (by decide +kernel) (by decide +kernel) (by decide +kernel) (by decide +kernel) d_OL_image_15 d_OL_image_18 d_OL_image_19 d_OL_image_21 d_OL_image_24 (by decide) (Nat.le_of_ble_eq_true rfl) (by decide) (by decide) (by decide) (by decide) ?_
      exact ⟨rfl, rfl, 1, by simp, MC.eq (b' := 0) (ι2 := (up4 (z0 ι) 10 0 0 0 1)) (fun ℓ9 => by have h9 := c_Mo_image (ν := ν) (ι := ι) (ρ := ρ) (ℓ := ℓ9) hI.mo (c9 := n9) hI.ig.2.1 (by have := hI.ig.2.2.1; omega) (x := x); rw [if_neg hx, if_neg hx] at h9; exact h9) (fun h => absurd h (by decide)) (rfl) (gm.rf) (⟨N, c9, w9, n9, z9, kn, g9, hI.t0.t0⟩)⟩
    · refine V_iload_n C d_OL_image_4 rfl ?_
      refine V_aload_n C d_OL_image_5 rfl ?_
      refine V_getR (kx := 2) C d_OL_image_6 cf_OL (by decide) k_OL_18 (nn hI.os.n9) rfl hI.os.r92 ?_
      refine V_getI (kx := 11) C d_OL_image_9 cf_Li (by decide) k_OL_157 (nn hI.os.n0) rfl ?_
      refine V_eqi (y := nI n9) hI.ig.1 ?_
      refine V_icmp_lt (tgt := 25) C d_OL_image_12 (by decide) (fun h12 => absurd ⟨Int32.not_lt.mp h1, e9.mp h12⟩ hx) (fun h12 => ?_)
      refine V_throwS (E := "java/lang/IndexOutOfBoundsException") (text := "the image has no such byte") (ik := 169) (is := 174) (ic := 173) C hQ rfl (by decide) k_OL_169 (tb_in 79 (by decide +kernel) rfl) (by decide +kernel) (by decide +kernel) (by decide +kernel) (by decide +kernel) (by decide +kernel) d_OL_image_15 d_OL_image_18 d_OL_image_19 d_OL_image_21 d_OL_image_24 (by decide) (Nat.le_of_ble_eq_true rfl) (by decide) (by decide) (by decide) (by decide) ?_
      exact ⟨rfl, rfl, 1, by simp, MC.eq (b' := 0) (ι2 := (up4 (z0 ι) 10 0 0 0 1)) (fun ℓ9 => by have h9 := c_Mo_image (ν := ν) (ι := ι) (ρ := ρ) (ℓ := ℓ9) hI.mo (c9 := n9) hI.ig.2.1 (by have := hI.ig.2.2.1; omega) (x := x); rw [if_neg hx, if_neg hx] at h9; exact h9) (fun h => absurd h (by decide)) (rfl) (gm.rf) (⟨N, c9, w9, n9, z9, kn, g9, hI.t0.t0⟩)⟩
set_option maxHeartbeats 1000000 in
set_option maxRecDepth 10000 in
theorem c_OL_written {ν : Nu} {ι : Io} {ρ : Ro} {ℓ : Lo} {N c9 w9 n9 z9 kn g9 : Nat} (hI : IV ν ι ρ N c9 w9 n9 z9 kn g9) {x : Int32} : Ct y_OL_written (Cond.code y_OL_written b_OL_written 2 (some .int) :: tb_) { frames := 6, cells := 60, slots := 2000, locals := 90 } [sR 9 0 0, sI x] ν ι ρ ℓ (fun r9 ν1 ι1 ρ1 ℓ1 => ℓ = ℓ1 ∧ ν1 90 0 0 = ν 90 0 0 ∧ ∃ b, r9 = some (sI b) ∧ MC y_Mo_written (Cond.code y_Mo_written b_Mo_written 2 (some .int) :: tb_) { frames := 1, cells := 0, slots := 0, locals := 22 } [sR 10 0 0, sI x] 0 b ν ρ ν1 ι1 ρ1) (fun E ν1 ι1 ρ1 ℓ1 => ℓ = ℓ1 ∧ ν1 90 0 0 = ν 90 0 0 ∧ ∃ k7, (E, k7) ∈ ([("java/lang/IndexOutOfBoundsException", 1)] : List (String × Int32)) ∧ MC y_Mo_written (Cond.code y_Mo_written b_Mo_written 2 (some .int) :: tb_) { frames := 1, cells := 0, slots := 0, locals := 22 } [sR 10 0 0, sI x] k7 0 ν ρ ν1 ι1 ρ1) := by
  refine Ct.ofV (by decide) (Nat.le_of_ble_eq_true rfl) rfl ?_
  intro p l e s m args below meth c D B tW α0 Q C hQ
  have hle := hI.io.2.2.1
  have e9 : x < nI w9 ↔ x ≤ nI w9 - 1 := lt_pd (by have := hI.io.2.2.1; omega)
  by_cases hx : 0 ≤ x ∧ x ≤ nI w9 - 1
  · obtain ⟨j, hj, hxj⟩ := rng_of (by omega) hx
    subst hxj
    have hx2 := hx
    have hcl : (nI j).toNatClampNeg = j := nI_clamp (by omega)
    refine V_iload_n C d_OL_written_0 rfl ?_
    refine V_if_lt (tgt := 15) C d_OL_written_1 (by decide) (fun h1 => absurd h1 (nI_nneg (by omega))) (fun h1 => ?_)
    refine V_iload_n C d_OL_written_4 rfl ?_
    refine V_aload_n C d_OL_written_5 rfl ?_
    refine V_getR (kx := 3) C d_OL_written_6 cf_OL (by decide) k_OL_25 (nn hI.os.n9) rfl hI.os.r93 ?_
    refine V_getI (kx := 1) C d_OL_written_9 cf_Oc (by decide) k_OL_195 (nn hI.os.n4) rfl ?_
    refine V_eqi (y := nI w9) hI.io.1 ?_
    refine V_icmp_lt (tgt := 25) C d_OL_written_12 (by decide) (fun h12 => ?_) (fun h12 => absurd ((nI_ltI (by omega) (by omega)).mpr hj) h12)
    refine V_aload_n C d_OL_written_25 rfl ?_
    refine V_getR (kx := 3) C d_OL_written_26 cf_OL (by decide) k_OL_25 (nn hI.os.n9) rfl hI.os.r93 ?_
    refine V_getR (kx := 0) C d_OL_written_29 cf_Oc (by decide) k_OL_198 (nn hI.os.n4) rfl hI.os.r40 ?_
    refine V_iload_n C d_OL_written_32 rfl ?_
    refine V_iald C d_OL_written_33 (by decide) rfl hI.os.n25 rfl (by omega) rfl ?_
    refine V_iret C hQ (by decide) (by decide) d_OL_written_34 rfl ?_
    exact ⟨rfl, rfl, _, rfl, MC.eq (b' := ι 78 0 0 j) (ι2 := (z0 ι)) (fun ℓ9 => by have h9 := c_Mo_written (ν := ν) (ι := ι) (ρ := ρ) (ℓ := ℓ9) hI.mo (c9 := w9) hI.io.2.1 (by have := hI.io.2.2.1; omega) (x := (nI j)); rw [if_pos hx2, if_pos hx2, hcl] at h9; exact h9) (fun _ => (hI.io.2.2.2 j hj).symm) (rfl) (gm.rf) (⟨N, c9, w9, n9, z9, kn, g9, hI.t0⟩)⟩
  · skip
    refine V_iload_n C d_OL_written_0 rfl ?_
    refine V_if_lt (tgt := 15) C d_OL_written_1 (by decide) (fun h1 => ?_) (fun h1 => ?_)
    · refine V_throwS (E := "java/lang/IndexOutOfBoundsException") (text := "no such byte was written") (ik := 169) (is := 196) (ic := 173) C hQ rfl (by decide) k_OL_169 (tb_in 79 (by decide +kernel) rfl) (by decide +kernel) (by decide +kernel) (by decide +kernel) (by decide +kernel) (by decide +kernel) d_OL_written_15 d_OL_written_18 d_OL_written_19 d_OL_written_21 d_OL_written_24 (by decide) (Nat.le_of_ble_eq_true rfl) (by decide) (by decide) (by decide) (by decide) ?_
      exact ⟨rfl, rfl, 1, by simp, MC.eq (b' := 0) (ι2 := (up4 (z0 ι) 10 0 0 0 1)) (fun ℓ9 => by have h9 := c_Mo_written (ν := ν) (ι := ι) (ρ := ρ) (ℓ := ℓ9) hI.mo (c9 := w9) hI.io.2.1 (by have := hI.io.2.2.1; omega) (x := x); rw [if_neg hx, if_neg hx] at h9; exact h9) (fun h => absurd h (by decide)) (rfl) (gm.rf) (⟨N, c9, w9, n9, z9, kn, g9, hI.t0.t0⟩)⟩
    · refine V_iload_n C d_OL_written_4 rfl ?_
      refine V_aload_n C d_OL_written_5 rfl ?_
      refine V_getR (kx := 3) C d_OL_written_6 cf_OL (by decide) k_OL_25 (nn hI.os.n9) rfl hI.os.r93 ?_
      refine V_getI (kx := 1) C d_OL_written_9 cf_Oc (by decide) k_OL_195 (nn hI.os.n4) rfl ?_
      refine V_eqi (y := nI w9) hI.io.1 ?_
      refine V_icmp_lt (tgt := 25) C d_OL_written_12 (by decide) (fun h12 => absurd ⟨Int32.not_lt.mp h1, e9.mp h12⟩ hx) (fun h12 => ?_)
      refine V_throwS (E := "java/lang/IndexOutOfBoundsException") (text := "no such byte was written") (ik := 169) (is := 196) (ic := 173) C hQ rfl (by decide) k_OL_169 (tb_in 79 (by decide +kernel) rfl) (by decide +kernel) (by decide +kernel) (by decide +kernel) (by decide +kernel) (by decide +kernel) d_OL_written_15 d_OL_written_18 d_OL_written_19 d_OL_written_21 d_OL_written_24 (by decide) (Nat.le_of_ble_eq_true rfl) (by decide) (by decide) (by decide) (by decide) ?_
      exact ⟨rfl, rfl, 1, by simp, MC.eq (b' := 0) (ι2 := (up4 (z0 ι) 10 0 0 0 1)) (fun ℓ9 => by have h9 := c_Mo_written (ν := ν) (ι := ι) (ρ := ρ) (ℓ := ℓ9) hI.mo (c9 := w9) hI.io.2.1 (by have := hI.io.2.2.1; omega) (x := x); rw [if_neg hx, if_neg hx] at h9; exact h9) (fun h => absurd h (by decide)) (rfl) (gm.rf) (⟨N, c9, w9, n9, z9, kn, g9, hI.t0.t0⟩)⟩
theorem IV.alt {ν : Nu} {ι : Io} {ρ : Ro} {N c9 w9 n9 z9 kn g9 : Nat} (hI : IV ν ι ρ N c9 w9 n9 z9 kn g9) {j : Nat} (hj : j < w9) {v : Int32} (hv : 0 ≤ v ∧ v ≤ 255) : IV ν (up4 (z0 (up4 ι 25 0 0 j v)) 78 0 0 j v) ρ N c9 w9 n9 z9 kn g9 := by
  refine ⟨hI.os, hI.mo, ⟨hI.bm.1, bd_up hI.bm.2.1 (fun _ => rgN (M := 255) (by decide) hv), hI.bm.2.2⟩, hI.iu, hI.ic, ⟨hI.io.1, hI.io.2.1, hI.io.2.2.1, fun k hk => ?_⟩, hI.jf, hI.ig, hI.ip, hI.jn, hI.ir⟩
  by_cases hq : k = j
  · subst hq
    show up4 ι 25 0 0 k v 25 0 0 k = up4 _ 78 0 0 k v 78 0 0 k
    rw [up4_s, up4_s]
  · show up4 ι 25 0 0 j v 25 0 0 k = up4 _ 78 0 0 j v 78 0 0 k
    rw [up4_ne (by omega), up4_ne (by omega)]
    exact hI.io.2.2.2 k hk
set_option maxHeartbeats 1000000 in
set_option maxRecDepth 10000 in
theorem c_OL_alter {ν : Nu} {ι : Io} {ρ : Ro} {ℓ : Lo} {N c9 w9 n9 z9 kn g9 : Nat} (hI : IV ν ι ρ N c9 w9 n9 z9 kn g9) {x v : Int32} : Ct y_OL_alter (Cond.code y_OL_alter b_OL_alter 4 (some .int) :: tb_) { frames := 6, cells := 60, slots := 2000, locals := 90 } [sR 9 0 0, sI x, sI v] ν ι ρ ℓ (fun r9 ν1 ι1 ρ1 ℓ1 => ℓ = ℓ1 ∧ ν1 90 0 0 = ν 90 0 0 ∧ ∃ b, r9 = some (sI b) ∧ MC y_Mo_alter (Cond.code y_Mo_alter b_Mo_alter 4 (some .int) :: tb_) { frames := 1, cells := 0, slots := 0, locals := 22 } [sR 10 0 0, sI x, sI v] 0 b ν ρ ν1 ι1 ρ1) (fun E ν1 ι1 ρ1 ℓ1 => ℓ = ℓ1 ∧ ν1 90 0 0 = ν 90 0 0 ∧ ∃ k7, (E, k7) ∈ ([("java/lang/IndexOutOfBoundsException", 1), ("java/lang/IllegalArgumentException", 2)] : List (String × Int32)) ∧ MC y_Mo_alter (Cond.code y_Mo_alter b_Mo_alter 4 (some .int) :: tb_) { frames := 1, cells := 0, slots := 0, locals := 22 } [sR 10 0 0, sI x, sI v] k7 0 ν ρ ν1 ι1 ρ1) := by
  refine Ct.ofV (by decide) (Nat.le_of_ble_eq_true rfl) rfl ?_
  intro p l e s m args below meth c D B tW α0 Q C hQ
  have hle := hI.io.2.2.1
  have e9 : x < nI w9 ↔ x ≤ nI w9 - 1 := lt_pd (by omega)
  by_cases hx : 0 ≤ x ∧ x ≤ nI w9 - 1
  · obtain ⟨j, hj, hxj⟩ := rng_of (by omega) hx
    subst hxj
    have hx2 := hx
    have hcl : (nI j).toNatClampNeg = j := nI_clamp (by omega)
    by_cases hv : 0 ≤ v ∧ v ≤ 255
    · skip
      refine V_iload_n C d_OL_alter_0 rfl ?_
      refine V_if_lt (tgt := 15) C d_OL_alter_1 (by decide) (fun h1 => absurd h1 (nI_nneg (by omega))) (fun h1 => ?_)
      refine V_iload_n C d_OL_alter_4 rfl ?_
      refine V_aload_n C d_OL_alter_5 rfl ?_
      refine V_getR (kx := 3) C d_OL_alter_6 cf_OL (by decide) k_OL_25 (nn hI.os.n9) rfl hI.os.r93 ?_
      refine V_getI (kx := 1) C d_OL_alter_9 cf_Oc (by decide) k_OL_195 (nn hI.os.n4) rfl ?_
      refine V_eqi (y := nI w9) hI.io.1 ?_
      refine V_icmp_lt (tgt := 25) C d_OL_alter_12 (by decide) (fun h12 => ?_) (fun h12 => absurd ((nI_ltI (by omega) (by omega)).mpr hj) h12)
      refine V_iload_n C d_OL_alter_25 rfl ?_
      refine V_if_lt (tgt := 36) C d_OL_alter_26 (by decide) (fun h26 => absurd hv.1 (Int32.not_le.mpr h26)) (fun h26 => ?_)
      refine V_iload_n C d_OL_alter_29 rfl ?_
      refine V_sipush (v := 255) C d_OL_alter_30 (by decide) ?_
      refine V_icmp_le (tgt := 46) C d_OL_alter_33 (by decide) (fun h33 => ?_) (fun h33 => absurd hv.2 h33)
      refine V_aload_n C d_OL_alter_46 rfl ?_
      refine V_getR (kx := 3) C d_OL_alter_47 cf_OL (by decide) k_OL_25 (nn hI.os.n9) rfl hI.os.r93 ?_
      refine V_getR (kx := 0) C d_OL_alter_50 cf_Oc (by decide) k_OL_198 (nn hI.os.n4) rfl hI.os.r40 ?_
      refine V_iload_n C d_OL_alter_53 rfl ?_
      refine V_iald C d_OL_alter_54 (by decide) rfl hI.os.n25 rfl (by omega) rfl ?_
      refine V_istore_n (lv' := [(3, _), (0, _), (1, _), (2, _)]) C d_OL_alter_55 (by decide) rfl ?_
      refine V_aload_n C d_OL_alter_56 rfl ?_
      refine V_getR (kx := 3) C d_OL_alter_57 cf_OL (by decide) k_OL_25 (nn hI.os.n9) rfl hI.os.r93 ?_
      refine V_getR (kx := 0) C d_OL_alter_60 cf_Oc (by decide) k_OL_198 (nn hI.os.n4) rfl hI.os.r40 ?_
      refine V_iload_n C d_OL_alter_63 rfl ?_
      refine V_iload_n C d_OL_alter_64 rfl ?_
      refine V_iast C d_OL_alter_65 (by decide) rfl hI.os.n25 rfl (by omega) rfl ?_
      refine V_iload_n C d_OL_alter_66 rfl ?_
      refine V_iret C hQ (by decide) (by decide) d_OL_alter_67 rfl ?_
      exact ⟨rfl, rfl, _, rfl, MC.eq (b' := ι 78 0 0 j) (ι2 := (up4 (z0 (up4 ι 25 0 0 j v)) 78 0 0 j v)) (fun ℓ9 => by have h9 := c_Mo_alter (ν := ν) (ι := (up4 ι 25 0 0 j v)) (ρ := ρ) (ℓ := ℓ9) hI.mo (c9 := w9) hI.io.2.1 (by have := hI.io.2.2.1; omega) (x := (nI j)) (v := v); rw [if_pos hx2, if_pos hv, if_pos hx2, if_pos hv, hcl] at h9; exact h9) (fun _ => (hI.io.2.2.2 j hj).symm) (rfl) (gm.rf) (⟨N, c9, w9, n9, z9, kn, g9, IV.alt hI hj hv⟩)⟩
    · skip
      refine V_iload_n C d_OL_alter_0 rfl ?_
      refine V_if_lt (tgt := 15) C d_OL_alter_1 (by decide) (fun h1 => absurd h1 (nI_nneg (by omega))) (fun h1 => ?_)
      refine V_iload_n C d_OL_alter_4 rfl ?_
      refine V_aload_n C d_OL_alter_5 rfl ?_
      refine V_getR (kx := 3) C d_OL_alter_6 cf_OL (by decide) k_OL_25 (nn hI.os.n9) rfl hI.os.r93 ?_
      refine V_getI (kx := 1) C d_OL_alter_9 cf_Oc (by decide) k_OL_195 (nn hI.os.n4) rfl ?_
      refine V_eqi (y := nI w9) hI.io.1 ?_
      refine V_icmp_lt (tgt := 25) C d_OL_alter_12 (by decide) (fun h12 => ?_) (fun h12 => absurd ((nI_ltI (by omega) (by omega)).mpr hj) h12)
      refine V_iload_n C d_OL_alter_25 rfl ?_
      refine V_if_lt (tgt := 36) C d_OL_alter_26 (by decide) (fun h26 => ?_) (fun h26 => ?_)
      · refine V_throwS (E := "java/lang/IllegalArgumentException") (text := "that is no byte") (ik := 55) (is := 201) (ic := 59) C hQ rfl (by decide) k_OL_55 (tb_in 81 (by decide +kernel) rfl) (by decide +kernel) (by decide +kernel) (by decide +kernel) (by decide +kernel) (by decide +kernel) d_OL_alter_36 d_OL_alter_39 d_OL_alter_40 d_OL_alter_42 d_OL_alter_45 (by decide) (Nat.le_of_ble_eq_true rfl) (by decide) (by decide) (by decide) (by decide) ?_
        exact ⟨rfl, rfl, 2, by simp, MC.eq (b' := 0) (ι2 := (up4 (z0 ι) 10 0 0 0 2)) (fun ℓ9 => by have h9 := c_Mo_alter (ν := ν) (ι := ι) (ρ := ρ) (ℓ := ℓ9) hI.mo (c9 := w9) hI.io.2.1 (by have := hI.io.2.2.1; omega) (x := (nI j)) (v := v); rw [if_pos hx2, if_neg hv, if_pos hx2, if_neg hv] at h9; exact h9) (fun h => absurd h (by decide)) (rfl) (gm.rf) (⟨N, c9, w9, n9, z9, kn, g9, hI.t0.t0⟩)⟩
      · refine V_iload_n C d_OL_alter_29 rfl ?_
        refine V_sipush (v := 255) C d_OL_alter_30 (by decide) ?_
        refine V_icmp_le (tgt := 46) C d_OL_alter_33 (by decide) (fun h33 => absurd ⟨Int32.not_lt.mp h26, h33⟩ hv) (fun h33 => ?_)
        refine V_throwS (E := "java/lang/IllegalArgumentException") (text := "that is no byte") (ik := 55) (is := 201) (ic := 59) C hQ rfl (by decide) k_OL_55 (tb_in 81 (by decide +kernel) rfl) (by decide +kernel) (by decide +kernel) (by decide +kernel) (by decide +kernel) (by decide +kernel) d_OL_alter_36 d_OL_alter_39 d_OL_alter_40 d_OL_alter_42 d_OL_alter_45 (by decide) (Nat.le_of_ble_eq_true rfl) (by decide) (by decide) (by decide) (by decide) ?_
        exact ⟨rfl, rfl, 2, by simp, MC.eq (b' := 0) (ι2 := (up4 (z0 ι) 10 0 0 0 2)) (fun ℓ9 => by have h9 := c_Mo_alter (ν := ν) (ι := ι) (ρ := ρ) (ℓ := ℓ9) hI.mo (c9 := w9) hI.io.2.1 (by have := hI.io.2.2.1; omega) (x := (nI j)) (v := v); rw [if_pos hx2, if_neg hv, if_pos hx2, if_neg hv] at h9; exact h9) (fun h => absurd h (by decide)) (rfl) (gm.rf) (⟨N, c9, w9, n9, z9, kn, g9, hI.t0.t0⟩)⟩
  · skip
    refine V_iload_n C d_OL_alter_0 rfl ?_
    refine V_if_lt (tgt := 15) C d_OL_alter_1 (by decide) (fun h1 => ?_) (fun h1 => ?_)
    · refine V_throwS (E := "java/lang/IndexOutOfBoundsException") (text := "no such byte was written") (ik := 169) (is := 196) (ic := 173) C hQ rfl (by decide) k_OL_169 (tb_in 79 (by decide +kernel) rfl) (by decide +kernel) (by decide +kernel) (by decide +kernel) (by decide +kernel) (by decide +kernel) d_OL_alter_15 d_OL_alter_18 d_OL_alter_19 d_OL_alter_21 d_OL_alter_24 (by decide) (Nat.le_of_ble_eq_true rfl) (by decide) (by decide) (by decide) (by decide) ?_
      exact ⟨rfl, rfl, 1, by simp, MC.eq (b' := 0) (ι2 := (up4 (z0 ι) 10 0 0 0 1)) (fun ℓ9 => by have h9 := c_Mo_alter (ν := ν) (ι := ι) (ρ := ρ) (ℓ := ℓ9) hI.mo (c9 := w9) hI.io.2.1 (by have := hI.io.2.2.1; omega) (x := x) (v := v); rw [if_neg hx, if_neg hx] at h9; exact h9) (fun h => absurd h (by decide)) (rfl) (gm.rf) (⟨N, c9, w9, n9, z9, kn, g9, hI.t0.t0⟩)⟩
    · refine V_iload_n C d_OL_alter_4 rfl ?_
      refine V_aload_n C d_OL_alter_5 rfl ?_
      refine V_getR (kx := 3) C d_OL_alter_6 cf_OL (by decide) k_OL_25 (nn hI.os.n9) rfl hI.os.r93 ?_
      refine V_getI (kx := 1) C d_OL_alter_9 cf_Oc (by decide) k_OL_195 (nn hI.os.n4) rfl ?_
      refine V_eqi (y := nI w9) hI.io.1 ?_
      refine V_icmp_lt (tgt := 25) C d_OL_alter_12 (by decide) (fun h12 => absurd ⟨Int32.not_lt.mp h1, e9.mp h12⟩ hx) (fun h12 => ?_)
      refine V_throwS (E := "java/lang/IndexOutOfBoundsException") (text := "no such byte was written") (ik := 169) (is := 196) (ic := 173) C hQ rfl (by decide) k_OL_169 (tb_in 79 (by decide +kernel) rfl) (by decide +kernel) (by decide +kernel) (by decide +kernel) (by decide +kernel) (by decide +kernel) d_OL_alter_15 d_OL_alter_18 d_OL_alter_19 d_OL_alter_21 d_OL_alter_24 (by decide) (Nat.le_of_ble_eq_true rfl) (by decide) (by decide) (by decide) (by decide) ?_
      exact ⟨rfl, rfl, 1, by simp, MC.eq (b' := 0) (ι2 := (up4 (z0 ι) 10 0 0 0 1)) (fun ℓ9 => by have h9 := c_Mo_alter (ν := ν) (ι := ι) (ρ := ρ) (ℓ := ℓ9) hI.mo (c9 := w9) hI.io.2.1 (by have := hI.io.2.2.1; omega) (x := x) (v := v); rw [if_neg hx, if_neg hx] at h9; exact h9) (fun h => absurd h (by decide)) (rfl) (gm.rf) (⟨N, c9, w9, n9, z9, kn, g9, hI.t0.t0⟩)⟩
set_option maxHeartbeats 1000000 in
set_option maxRecDepth 10000 in
theorem c_Li_placeInImage {ν : Nu} {ι : Io} {ρ : Ro} {ℓ : Lo} (hO : OS ν ρ) {s9 : Nat} (hs : s9 < 96) : Ct y_Li_placeInImage (Cond.code y_Li_placeInImage b_Li_placeInImage 2 (some .int) :: tb_) { frames := 0, cells := 0, slots := 0, locals := 0 } [sR 0 0 0, sI (nI s9)] ν ι ρ ℓ (pEq (some (sI (plC ι s9))) ν ι ρ ℓ) (noX) := by
  refine Ct.ofV (by decide) (Nat.le_of_ble_eq_true rfl) rfl ?_
  intro p l e s m args below meth c D B tW α0 Q C hQ
  refine V_aload_n C d_Li_placeInImage_0 rfl ?_
  refine V_getI (kx := 8) C d_Li_placeInImage_1 cf_Li (by decide) k_Li_51 (nn hO.n0) rfl ?_
  refine V_if_eq (tgt := 30) C d_Li_placeInImage_4 (by decide) (fun h4 => ?_) (fun h4 => ?_)
  · refine V_iconst (v := (-1)) C d_Li_placeInImage_30 (by decide) ?_
    refine V_iret C hQ (by decide) (by decide) d_Li_placeInImage_31 rfl ?_
    exact ⟨congrArg (fun z => some (sI z)) (by clear hQ C; unfold plC; grind), rfl, rfl, rfl, rfl⟩
  · refine V_aload_n C d_Li_placeInImage_7 rfl ?_
    refine V_getR (kx := 4) C d_Li_placeInImage_8 cf_Li (by decide) k_Li_28 (nn hO.n0) rfl hO.r04 ?_
    refine V_iload_n C d_Li_placeInImage_11 rfl ?_
    refine V_zald C d_Li_placeInImage_12 (by decide) rfl hO.n28 rfl hs rfl ?_
    refine V_if_eq (tgt := 30) C d_Li_placeInImage_13 (by decide) (fun h13 => ?_) (fun h13 => ?_)
    · refine V_iconst (v := (-1)) C d_Li_placeInImage_30 (by decide) ?_
      refine V_iret C hQ (by decide) (by decide) d_Li_placeInImage_31 rfl ?_
      exact ⟨congrArg (fun z => some (sI z)) (by clear hQ C; unfold plC; grind), rfl, rfl, rfl, rfl⟩
    · refine V_aload_n C d_Li_placeInImage_16 rfl ?_
      refine V_getR (kx := 7) C d_Li_placeInImage_17 cf_Li (by decide) k_Li_35 (nn hO.n0) rfl hO.r07 ?_
      refine V_iload_n C d_Li_placeInImage_20 rfl ?_
      refine V_iald C d_Li_placeInImage_21 (by decide) rfl hO.n30 rfl hs rfl ?_
      refine V_aload_n C d_Li_placeInImage_22 rfl ?_
      refine V_getI (kx := 9) C d_Li_placeInImage_23 cf_Li (by decide) k_Li_55 (nn hO.n0) rfl ?_
      refine V_isub C d_Li_placeInImage_26 ?_
      refine V_goto (tgt := 31) C d_Li_placeInImage_27 (by decide) ?_
      refine V_iret C hQ (by decide) (by decide) d_Li_placeInImage_31 rfl ?_
      exact ⟨congrArg (fun z => some (sI z)) (by clear hQ C; unfold plC; grind), rfl, rfl, rfl, rfl⟩
set_option maxHeartbeats 1000000 in
set_option maxRecDepth 10000 in
theorem c_OL_placeOf {ν : Nu} {ι : Io} {ρ : Ro} {ℓ : Lo} {N c9 w9 n9 z9 kn g9 : Nat} (hI : IV ν ι ρ N c9 w9 n9 z9 kn g9) {x y : Int32} : Ct y_OL_placeOf (Cond.code y_OL_placeOf b_OL_placeOf 3 (some .int) :: tb_) { frames := 7, cells := 60, slots := 2000, locals := 112 } [sR 9 0 0, sI x, sI y] ν ι ρ ℓ (fun r9 ν1 ι1 ρ1 ℓ1 => ℓ = ℓ1 ∧ ν1 90 0 0 = ν 90 0 0 ∧ ∃ b, r9 = some (sI b) ∧ MC y_Mo_placeOf (Cond.code y_Mo_placeOf b_Mo_placeOf 4 (some .int) :: tb_) { frames := 2, cells := 0, slots := 0, locals := 44 } [sR 10 0 0, sI x, sI y] 0 b ν ρ ν1 ι1 ρ1) (fun E ν1 ι1 ρ1 ℓ1 => ℓ = ℓ1 ∧ ν1 90 0 0 = ν 90 0 0 ∧ ∃ k7, (E, k7) ∈ ([("java/lang/IndexOutOfBoundsException", 1), ("java/lang/IllegalArgumentException", 2)] : List (String × Int32)) ∧ MC y_Mo_placeOf (Cond.code y_Mo_placeOf b_Mo_placeOf 4 (some .int) :: tb_) { frames := 2, cells := 0, slots := 0, locals := 44 } [sR 10 0 0, sI x, sI y] k7 0 ν ρ ν1 ι1 ρ1) := by
  refine Ct.ofV (by decide) (Nat.le_of_ble_eq_true rfl) rfl ?_
  intro p l e s m args below meth c D B tW α0 Q C hQ
  have h12 := hI.N12
  by_cases hx : 0 ≤ x ∧ x ≤ nI N - 1
  · obtain ⟨t, ht, hxt⟩ := rng_of (by omega) hx
    subst hxt
    have hU := hI.um ht
    have e42 : ι 42 0 0 t = nI (mn ι 42 t) := hI.bd.b42.eq (by omega)
    by_cases hs : 0 ≤ y ∧ y ≤ nI (mn ι 42 t) - 1
    · obtain ⟨j, hj, hsj⟩ := rng_of (by have := hU.c8; omega) hs
      subst hsj
      have hs2 := hs
      have h8 := hU.c8
      have hcl : (nI j).toNatClampNeg = j := nI_clamp (by omega)
      refine V_aload_n C d_OL_placeOf_0 rfl ?_
      refine V_iload_n C d_OL_placeOf_1 rfl ?_
      refine V_callV (as := [_]) C d_OL_placeOf_2 (c_OL_known_y hI ht) m_OL_known cf_OL k_OL_45 (nn hI.os.n9) ⟨by decide, by decide⟩ (Nat.le_of_ble_eq_true rfl) ⟨by decide, by decide⟩ rfl ?_
      rintro _ _ _ _ _ ⟨rfl, rfl, rfl, rfl, rfl⟩
      dsimp only [Option.toList, List.cons_append, List.nil_append]
      refine V_iload_n C d_OL_placeOf_5 rfl ?_
      refine V_callV (as := [_]) C d_OL_placeOf_6 (c_Un_sectionOrNull_y hU hj) m_Un_sectionOrNull cf_Un k_OL_72 hU.al ⟨by decide, by decide⟩ (Nat.le_of_ble_eq_true rfl) ⟨by decide, by decide⟩ rfl ?_
      rintro _ _ _ _ _ ⟨rfl, rfl, rfl, rfl, rfl⟩
      dsimp only [Option.toList, List.cons_append, List.nil_append]
      refine V_ifnonnull (tgt := 22) C d_OL_placeOf_9 (by decide) (fun zz9 h9 => ?_) (fun h9 => (by cases h9))
      refine V_aload_n C d_OL_placeOf_22 rfl ?_
      refine V_getR (kx := 2) C d_OL_placeOf_23 cf_OL (by decide) k_OL_18 (nn hI.os.n9) rfl hI.os.r92 ?_
      refine V_iload_n C d_OL_placeOf_26 rfl ?_
      refine V_iload_n C d_OL_placeOf_27 rfl ?_
      refine V_callS (as := [_, _]) C d_OL_placeOf_28 (c_OL_slotOf (a := t) (b := j)) m_OL_slotOf k_OL_181 ⟨by decide, by decide⟩ (Nat.le_of_ble_eq_true rfl) ⟨by decide, by decide⟩ rfl ?_
      rintro _ _ _ _ _ ⟨rfl, rfl, rfl, rfl, rfl⟩
      dsimp only [Option.toList, List.cons_append, List.nil_append]
      refine V_callV (as := [_]) C d_OL_placeOf_31 (c_Li_placeInImage hI.os (s9 := 8 * t + j) (by omega)) m_Li_placeInImage cf_Li k_OL_184 (nn hI.os.n0) ⟨by decide, by decide⟩ (Nat.le_of_ble_eq_true rfl) ⟨by decide, by decide⟩ rfl ?_
      rintro _ _ _ _ _ ⟨rfl, rfl, rfl, rfl, rfl⟩
      dsimp only [Option.toList, List.cons_append, List.nil_append]
      refine V_iret C hQ (by decide) (by decide) d_OL_placeOf_34 rfl ?_
      exact ⟨rfl, rfl, _, rfl, MC.eq (b' := (plM ι (8 * t + j))) (ι2 := (z0 ι)) (fun ℓ9 => by have h9 := c_Mo_placeOf (ν := ν) (ι := ι) (ρ := ρ) (ℓ := ℓ9) hI.mo (t := t) (by omega) (show isOb ι (nI t) from by unfold isOb; rw [hI.iu.2.1]; exact rng_to (by omega) ht) hI.bd.b42 (x := (nI j)); rw [e42, if_pos hs2, if_pos hs2, hcl] at h9; exact h9) (fun _ => (hI.ip (8 * t + j) (by omega)).symm) (rfl) (gm.rf) (⟨N, c9, w9, n9, z9, kn, g9, hI.t0⟩)⟩
    · skip
      refine V_aload_n C d_OL_placeOf_0 rfl ?_
      refine V_iload_n C d_OL_placeOf_1 rfl ?_
      refine V_callV (as := [_]) C d_OL_placeOf_2 (c_OL_known_y hI ht) m_OL_known cf_OL k_OL_45 (nn hI.os.n9) ⟨by decide, by decide⟩ (Nat.le_of_ble_eq_true rfl) ⟨by decide, by decide⟩ rfl ?_
      rintro _ _ _ _ _ ⟨rfl, rfl, rfl, rfl, rfl⟩
      dsimp only [Option.toList, List.cons_append, List.nil_append]
      refine V_iload_n C d_OL_placeOf_5 rfl ?_
      refine V_callV (as := [_]) C d_OL_placeOf_6 (c_Un_sectionOrNull_n hU hs) m_Un_sectionOrNull cf_Un k_OL_72 hU.al ⟨by decide, by decide⟩ (Nat.le_of_ble_eq_true rfl) ⟨by decide, by decide⟩ rfl ?_
      rintro _ _ _ _ _ ⟨rfl, rfl, rfl, rfl, rfl⟩
      dsimp only [Option.toList, List.cons_append, List.nil_append]
      refine V_ifnonnull (tgt := 22) C d_OL_placeOf_9 (by decide) (fun _ h9 => (by cases h9)) (fun h9 => ?_)
      refine V_throwS (E := "java/lang/IllegalArgumentException") (text := "no such section") (ik := 55) (is := 179) (ic := 59) C hQ rfl (by decide) k_OL_55 (tb_in 81 (by decide +kernel) rfl) (by decide +kernel) (by decide +kernel) (by decide +kernel) (by decide +kernel) (by decide +kernel) d_OL_placeOf_12 d_OL_placeOf_15 d_OL_placeOf_16 d_OL_placeOf_18 d_OL_placeOf_21 (by decide) (Nat.le_of_ble_eq_true rfl) (by decide) (by decide) (by decide) (by decide) ?_
      exact ⟨rfl, rfl, 2, by simp, MC.eq (b' := 0) (ι2 := (up4 (z0 ι) 10 0 0 0 2)) (fun ℓ9 => by have h9 := c_Mo_placeOf (ν := ν) (ι := ι) (ρ := ρ) (ℓ := ℓ9) hI.mo (t := t) (by omega) (show isOb ι (nI t) from by unfold isOb; rw [hI.iu.2.1]; exact rng_to (by omega) ht) hI.bd.b42 (x := y); rw [e42, if_neg hs, if_neg hs] at h9; exact h9) (fun h => absurd h (by decide)) (rfl) (gm.rf) (⟨N, c9, w9, n9, z9, kn, g9, hI.t0.t0⟩)⟩
  · skip
    refine V_aload_n C d_OL_placeOf_0 rfl ?_
    refine V_iload_n C d_OL_placeOf_1 rfl ?_
    refine V_callVX (as := [_]) C hQ rfl d_OL_placeOf_2 (c_OL_known_n hI hx) m_OL_known cf_OL k_OL_45 (nn hI.os.n9) ⟨by decide, by decide⟩ (Nat.le_of_ble_eq_true rfl) ⟨by decide, by decide⟩ rfl (by decide) (by decide) (by rintro E _ _ _ _ ⟨rfl, rfl, rfl, rfl, rfl⟩; exact ⟨rfl, rfl, 1, by simp, MC.eq (b' := 0) (ι2 := up4 ι 10 0 0 0 1) (fun ℓ9 => c_Mo_placeOf_no hI.mo (fun z => hx (by have := z; unfold isOb at this; rw [hI.iu.2.1] at this; exact this))) (fun h => absurd h (by decide)) rfl gm.rf ⟨N, c9, w9, n9, z9, kn, g9, hI.t0⟩⟩) ?_
    exact fun _ _ _ _ _ h => h.elim
def fnd (ι : Io) (x : Int32) (z : Nat) : Option Nat := (List.range z).find? (fun k => ι 1 k 0 0 == x)
theorem fnd_s {ι : Io} {x : Int32} {z k : Nat} (h : fnd ι x z = some k) : k < z ∧ ι 1 k 0 0 = x ∧ ∀ j, j < k → ¬ ι 1 j 0 0 = x := by
  unfold fnd at h
  have h1 := List.find?_some h
  have h2 := List.mem_range.mp (List.mem_of_find?_eq_some h)
  refine ⟨h2, by simpa using h1, fun j hj z9 => ?_⟩
  rw [List.find?_eq_some_iff_append] at h
  obtain ⟨_, as, bs, h4, h5⟩ := h
  have h6 : as.length = k := by
    have h7 : (List.range z)[as.length]? = some k := by rw [h4]; simp
    have h8 : as.length < z := by
      have := congrArg List.length h4
      simp at this
      omega
    rw [List.getElem?_range h8] at h7
    exact Option.some.inj h7
  have h7 : j ∈ as := by
    have h8 : (List.range z)[j]? = as[j]? := by rw [h4, List.getElem?_append_left (by omega)]
    rw [List.getElem?_range (by omega)] at h8
    exact List.mem_of_getElem? h8.symm
  have := h5 j h7
  simp [z9] at this
theorem fnd_n {ι : Io} {x : Int32} {z : Nat} (h : fnd ι x z = none) : ∀ j, j < z → ¬ ι 1 j 0 0 = x := by
  intro j hj z9
  unfold fnd at h
  rw [List.find?_eq_none] at h
  exact h j (List.mem_range.mpr hj) (by simp [z9])
set_option maxHeartbeats 1000000 in
set_option maxRecDepth 10000 in
theorem c_NT_findOrNull_y {ν : Nu} {ι : Io} {ρ : Ro} {ℓ : Lo} (hO : OS ν ρ) {z9 : Nat} (hz : ι 3 0 0 1 = nI z9) (hz14 : z9 ≤ 144) {x : Int32} {k9 : Nat} (hf : fnd ι x z9 = some k9) : Ct y_NT_findOrNull (Cond.code y_NT_findOrNull b_NT_findOrNull 3 (some (.object "ObjectLinks$Meaning")) :: tb_) { frames := 0, cells := 0, slots := 0, locals := 0 } [sR 3 0 0, sI x] ν ι ρ ℓ (pEq (some (sR 1 k9 0)) ν ι ρ ℓ) (noX) := by
  refine Ct.ofV (by decide) (Nat.le_of_ble_eq_true rfl) rfl ?_
  intro p l e s m args below meth c D B tW α0 Q C hQ
  obtain ⟨h1, h2, h3⟩ := fnd_s hf
  have loop : ∀ (f : Nat) (i : Nat), z9 - i < f → (i ≤ k9) → V p l e { frames := 0, cells := 0, slots := 0, locals := 0 } s m args below meth c D B α0 ν 3 Q 0 0 ν ι ρ ℓ 2 [(2, sI (nI i)), (0, sR 3 0 0), (1, sI x)] [] := by
    intro f
    induction f with
    | zero => intros; omega
    | succ f ih =>
      intro i hf9 hi0
      refine V_iload_n C d_NT_findOrNull_2 rfl ?_
      refine V_aload_n C d_NT_findOrNull_3 rfl ?_
      refine V_getI (kx := 1) C d_NT_findOrNull_4 cf_NT (by decide) k_NT_24 (nn hO.n3) rfl ?_
      rw [hz]
      refine V_icmp_ge (tgt := 36) C d_NT_findOrNull_7 (by decide) (fun h7 => absurd ((nI_leI (by omega) (by omega)).mp h7) (by omega)) (fun h7 => ?_)
      refine V_aload_n C d_NT_findOrNull_10 rfl ?_
      refine V_getR (kx := 0) C d_NT_findOrNull_11 cf_NT (by decide) k_NT_11 (nn hO.n3) rfl hO.r30 ?_
      refine V_iload_n C d_NT_findOrNull_14 rfl ?_
      refine V_aald C d_NT_findOrNull_15 (by decide) (by decide) rfl hO.n32 rfl (by omega) rfl (hO.me i (by omega)).2 ?_
      refine V_getI (kx := 0) C d_NT_findOrNull_16 cf_Me (by decide) k_NT_31 (nn (hO.me i (by omega)).1) rfl ?_
      refine V_iload_n C d_NT_findOrNull_19 rfl ?_
      refine V_icmp_ne (tgt := 30) C d_NT_findOrNull_20 (by decide) (fun h20 => ?_) (fun h20 => ?_)
      · have hne : i ≠ k9 := fun z => h20 (by rw [z]; exact h2)
        refine V_iinc (v := nI (i + 1)) (lv' := [(2, _), (0, _), (1, _)]) C d_NT_findOrNull_30 rfl (nI_1 i) (by decide) rfl ?_
        refine V_goto (tgt := 2) C d_NT_findOrNull_33 (by decide) ?_
        refine V_pick [0, 1, 2] rfl ?_
        exact ih (i + 1) (by omega) (by omega)
      · have heq : i = k9 := Nat.le_antisymm hi0 (Nat.le_of_not_lt (fun z => h3 i z h20))
        subst heq
        refine V_aload_n C d_NT_findOrNull_23 rfl ?_
        refine V_getR (kx := 0) C d_NT_findOrNull_24 cf_NT (by decide) k_NT_11 (nn hO.n3) rfl hO.r30 ?_
        refine V_iload_n C d_NT_findOrNull_27 rfl ?_
        refine V_aald C d_NT_findOrNull_28 (by decide) (by decide) rfl hO.n32 rfl (by omega) rfl (hO.me i (by omega)).2 ?_
        refine V_aret C hQ (by decide) (by decide) d_NT_findOrNull_29 rfl ?_
        exact ⟨rfl, rfl, rfl, rfl, rfl⟩
  refine V_iconst (v := 0) C d_NT_findOrNull_0 (by decide) ?_
  refine V_istore_n (lv' := [(2, _), (0, _), (1, _)]) C d_NT_findOrNull_1 (by decide) rfl ?_
  refine V_pick [0, 1, 2] rfl ?_
  exact loop (z9 + 1) 0 (by omega) (by omega)
set_option maxHeartbeats 1000000 in
set_option maxRecDepth 10000 in
theorem c_NT_findOrNull_n {ν : Nu} {ι : Io} {ρ : Ro} {ℓ : Lo} (hO : OS ν ρ) {z9 : Nat} (hz : ι 3 0 0 1 = nI z9) (hz14 : z9 ≤ 144) {x : Int32} (hf : fnd ι x z9 = none) : Ct y_NT_findOrNull (Cond.code y_NT_findOrNull b_NT_findOrNull 3 (some (.object "ObjectLinks$Meaning")) :: tb_) { frames := 0, cells := 0, slots := 0, locals := 0 } [sR 3 0 0, sI x] ν ι ρ ℓ (pEq (some sN) ν ι ρ ℓ) (noX) := by
  refine Ct.ofV (by decide) (Nat.le_of_ble_eq_true rfl) rfl ?_
  intro p l e s m args below meth c D B tW α0 Q C hQ
  have h3 := fnd_n hf
  have loop : ∀ (f : Nat) (i : Nat), z9 - i < f → (i ≤ z9) → V p l e { frames := 0, cells := 0, slots := 0, locals := 0 } s m args below meth c D B α0 ν 3 Q 0 0 ν ι ρ ℓ 2 [(2, sI (nI i)), (0, sR 3 0 0), (1, sI x)] [] := by
    intro f
    induction f with
    | zero => intros; omega
    | succ f ih =>
      intro i hf9 hi0
      refine V_iload_n C d_NT_findOrNull_2 rfl ?_
      refine V_aload_n C d_NT_findOrNull_3 rfl ?_
      refine V_getI (kx := 1) C d_NT_findOrNull_4 cf_NT (by decide) k_NT_24 (nn hO.n3) rfl ?_
      rw [hz]
      refine V_icmp_ge (tgt := 36) C d_NT_findOrNull_7 (by decide) (fun h7 => ?_) (fun h7 => ?_)
      · skip
        refine V_null C d_NT_findOrNull_36 ?_
        refine V_aret C hQ (by decide) (by decide) d_NT_findOrNull_37 rfl ?_
        exact ⟨rfl, rfl, rfl, rfl, rfl⟩
      · have hi : i < z9 := Nat.lt_of_not_le fun z => h7 ((nI_leI (by omega) (by omega)).mpr z)
        refine V_aload_n C d_NT_findOrNull_10 rfl ?_
        refine V_getR (kx := 0) C d_NT_findOrNull_11 cf_NT (by decide) k_NT_11 (nn hO.n3) rfl hO.r30 ?_
        refine V_iload_n C d_NT_findOrNull_14 rfl ?_
        refine V_aald C d_NT_findOrNull_15 (by decide) (by decide) rfl hO.n32 rfl (by omega) rfl (hO.me i (by omega)).2 ?_
        refine V_getI (kx := 0) C d_NT_findOrNull_16 cf_Me (by decide) k_NT_31 (nn (hO.me i (by omega)).1) rfl ?_
        refine V_iload_n C d_NT_findOrNull_19 rfl ?_
        refine V_icmp_ne (tgt := 30) C d_NT_findOrNull_20 (by decide) (fun h20 => ?_) (fun h20 => absurd h20 (h3 i hi))
        refine V_iinc (v := nI (i + 1)) (lv' := [(2, _), (0, _), (1, _)]) C d_NT_findOrNull_30 rfl (nI_1 i) (by decide) rfl ?_
        refine V_goto (tgt := 2) C d_NT_findOrNull_33 (by decide) ?_
        refine V_pick [0, 1, 2] rfl ?_
        exact ih (i + 1) (by omega) (by omega)
  refine V_iconst (v := 0) C d_NT_findOrNull_0 (by decide) ?_
  refine V_istore_n (lv' := [(2, _), (0, _), (1, _)]) C d_NT_findOrNull_1 (by decide) rfl ?_
  refine V_pick [0, 1, 2] rfl ?_
  exact loop (z9 + 1) 0 (by omega) (by omega)
set_option maxHeartbeats 1000000 in
set_option maxRecDepth 10000 in
theorem c_Li_addressOf {ν : Nu} {ι : Io} {ρ : Ro} {ℓ : Lo} (hO : OS ν ρ) {k9 : Nat} (hk : k9 < 144) (hs : ι 1 k9 0 1 = 3 ∨ ι 1 k9 0 1 = 2 ∨ ∃ s, s < 96 ∧ ι 1 k9 0 2 = nI s) : Ct y_Li_addressOf (Cond.code y_Li_addressOf b_Li_addressOf 2 (some .int) :: tb_) { frames := 0, cells := 0, slots := 0, locals := 0 } [sR 0 0 0, sR 1 k9 0] ν ι ρ ℓ (pEq (some (sI (adC ι k9))) ν ι ρ ℓ) (noX) := by
  refine Ct.ofV (by decide) (Nat.le_of_ble_eq_true rfl) rfl ?_
  intro p l e s m args below meth c D B tW α0 Q C hQ
  refine V_aload_n C d_Li_addressOf_0 rfl ?_
  refine V_getI (kx := 1) C d_Li_addressOf_1 cf_Me (by decide) k_Li_66 (nn (hO.me k9 hk).1) rfl ?_
  refine V_iconst (v := 3) C d_Li_addressOf_4 (by decide) ?_
  refine V_icmp_ne (tgt := 10) C d_Li_addressOf_5 (by decide) (fun h5 => ?_) (fun h5 => ?_)
  · refine V_aload_n C d_Li_addressOf_10 rfl ?_
    refine V_getI (kx := 1) C d_Li_addressOf_11 cf_Me (by decide) k_Li_66 (nn (hO.me k9 hk).1) rfl ?_
    refine V_iconst (v := 2) C d_Li_addressOf_14 (by decide) ?_
    refine V_icmp_ne (tgt := 23) C d_Li_addressOf_15 (by decide) (fun h15 => ?_) (fun h15 => ?_)
    · obtain ⟨s9, hs9, es⟩ := (hs.resolve_left h5).resolve_left h15
      have ec : cl (ι 1 k9 0 2) = s9 := by rw [es]; exact nI_clamp (by omega)
      refine V_aload_n C d_Li_addressOf_23 rfl ?_
      refine V_getR (kx := 4) C d_Li_addressOf_24 cf_Li (by decide) k_Li_28 (nn hO.n0) rfl hO.r04 ?_
      refine V_aload_n C d_Li_addressOf_27 rfl ?_
      refine V_getI (kx := 2) C d_Li_addressOf_28 cf_Me (by decide) k_Li_74 (nn (hO.me k9 hk).1) rfl ?_
      refine V_zald C d_Li_addressOf_31 (by decide) rfl hO.n28 es hs9 rfl ?_
      refine V_if_eq (tgt := 52) C d_Li_addressOf_32 (by decide) (fun h32 => ?_) (fun h32 => ?_)
      · refine V_iconst (v := (-1)) C d_Li_addressOf_52 (by decide) ?_
        refine V_iret C hQ (by decide) (by decide) d_Li_addressOf_53 rfl ?_
        exact ⟨congrArg (fun z => some (sI z)) (by clear hQ C; unfold adC; grind), rfl, rfl, rfl, rfl⟩
      · refine V_aload_n C d_Li_addressOf_35 rfl ?_
        refine V_getR (kx := 7) C d_Li_addressOf_36 cf_Li (by decide) k_Li_35 (nn hO.n0) rfl hO.r07 ?_
        refine V_aload_n C d_Li_addressOf_39 rfl ?_
        refine V_getI (kx := 2) C d_Li_addressOf_40 cf_Me (by decide) k_Li_74 (nn (hO.me k9 hk).1) rfl ?_
        refine V_iald C d_Li_addressOf_43 (by decide) rfl hO.n30 es hs9 rfl ?_
        refine V_aload_n C d_Li_addressOf_44 rfl ?_
        refine V_getI (kx := 3) C d_Li_addressOf_45 cf_Me (by decide) k_Li_77 (nn (hO.me k9 hk).1) rfl ?_
        refine V_iadd C d_Li_addressOf_48 ?_
        refine V_goto (tgt := 53) C d_Li_addressOf_49 (by decide) ?_
        refine V_iret C hQ (by decide) (by decide) d_Li_addressOf_53 rfl ?_
        exact ⟨congrArg (fun z => some (sI z)) (by clear hQ C; unfold adC; grind), rfl, rfl, rfl, rfl⟩
    · refine V_aload_n C d_Li_addressOf_18 rfl ?_
      refine V_getI (kx := 7) C d_Li_addressOf_19 cf_Me (by decide) k_Li_71 (nn (hO.me k9 hk).1) rfl ?_
      refine V_iret C hQ (by decide) (by decide) d_Li_addressOf_22 rfl ?_
      exact ⟨congrArg (fun z => some (sI z)) (by clear hQ C; unfold adC; grind), rfl, rfl, rfl, rfl⟩
  · refine V_iconst (v := (-1)) C d_Li_addressOf_8 (by decide) ?_
    refine V_iret C hQ (by decide) (by decide) d_Li_addressOf_9 rfl ?_
    exact ⟨congrArg (fun z => some (sI z)) (by clear hQ C; unfold adC; grind), rfl, rfl, rfl, rfl⟩
set_option maxHeartbeats 1000000 in
set_option maxRecDepth 10000 in
theorem c_Li_addressOfNumber {ν : Nu} {ι : Io} {ρ : Ro} {ℓ : Lo} (hO : OS ν ρ) {z9 : Nat} (hz : ι 3 0 0 1 = nI z9) (hz14 : z9 ≤ 144) {x : Int32} (hs : ∀ k, k < z9 → ι 1 k 0 1 = 3 ∨ ι 1 k 0 1 = 2 ∨ ∃ s, s < 96 ∧ ι 1 k 0 2 = nI s) : Ct y_Li_addressOfNumber (Cond.code y_Li_addressOfNumber b_Li_addressOfNumber 3 (some .int) :: tb_) { frames := 1, cells := 0, slots := 0, locals := 22 } [sR 0 0 0, sI x] ν ι ρ ℓ (pEq (some (sI (naC ι x z9))) ν ι ρ ℓ) (noX) := by
  refine Ct.ofV (by decide) (Nat.le_of_ble_eq_true rfl) rfl ?_
  intro p l e s m args below meth c D B tW α0 Q C hQ
  by_cases hp : ι 0 0 0 8 = 0
  · skip
    refine V_aload_n C d_Li_addressOfNumber_0 rfl ?_
    refine V_getI (kx := 8) C d_Li_addressOfNumber_1 cf_Li (by decide) k_Li_51 (nn hO.n0) rfl ?_
    refine V_if_eq (tgt := 18) C d_Li_addressOfNumber_4 (by decide) (fun h4 => ?_) (fun h4 => absurd hp h4)
    refine V_null C d_Li_addressOfNumber_18 ?_
    refine V_astore_n (lv' := [(2, _), (0, _), (1, _)]) C d_Li_addressOfNumber_19 (by decide) rfl ?_
    refine V_aload_n C d_Li_addressOfNumber_20 rfl ?_
    refine V_ifnonnull (tgt := 28) C d_Li_addressOfNumber_21 (by decide) (fun _ h21 => (by cases h21)) (fun h21 => ?_)
    refine V_iconst (v := (-1)) C d_Li_addressOfNumber_24 (by decide) ?_
    refine V_goto (tgt := 33) C d_Li_addressOfNumber_25 (by decide) ?_
    refine V_iret C hQ (by decide) (by decide) d_Li_addressOfNumber_33 rfl ?_
    exact ⟨congrArg (fun z => some (sI z)) (if_pos hp), rfl, rfl, rfl, rfl⟩
  · cases hf : fnd ι x z9 with
    | none =>
      refine V_aload_n C d_Li_addressOfNumber_0 rfl ?_
      refine V_getI (kx := 8) C d_Li_addressOfNumber_1 cf_Li (by decide) k_Li_51 (nn hO.n0) rfl ?_
      refine V_if_eq (tgt := 18) C d_Li_addressOfNumber_4 (by decide) (fun h4 => absurd h4 hp) (fun h4 => ?_)
      refine V_aload_n C d_Li_addressOfNumber_7 rfl ?_
      refine V_getR (kx := 3) C d_Li_addressOfNumber_8 cf_Li (by decide) k_Li_24 (nn hO.n0) rfl hO.r03 ?_
      refine V_iload_n C d_Li_addressOfNumber_11 rfl ?_
      refine V_callV (as := [_]) C d_Li_addressOfNumber_12 (c_NT_findOrNull_n hO hz hz14 hf) m_NT_findOrNull cf_NT k_Li_58 (nn hO.n3) ⟨by decide, by decide⟩ (Nat.le_of_ble_eq_true rfl) ⟨by decide, by decide⟩ rfl ?_
      rintro _ _ _ _ _ ⟨rfl, rfl, rfl, rfl, rfl⟩
      dsimp only [Option.toList, List.cons_append, List.nil_append]
      refine V_goto (tgt := 19) C d_Li_addressOfNumber_15 (by decide) ?_
      refine V_astore_n (lv' := [(2, _), (0, _), (1, _)]) C d_Li_addressOfNumber_19 (by decide) rfl ?_
      refine V_aload_n C d_Li_addressOfNumber_20 rfl ?_
      refine V_ifnonnull (tgt := 28) C d_Li_addressOfNumber_21 (by decide) (fun _ h21 => (by cases h21)) (fun h21 => ?_)
      refine V_iconst (v := (-1)) C d_Li_addressOfNumber_24 (by decide) ?_
      refine V_goto (tgt := 33) C d_Li_addressOfNumber_25 (by decide) ?_
      refine V_iret C hQ (by decide) (by decide) d_Li_addressOfNumber_33 rfl ?_
      exact ⟨congrArg (fun z => some (sI z)) (by unfold naC; rw [if_neg hp]; unfold fnd at hf; rw [hf]), rfl, rfl, rfl, rfl⟩
    | some k9 =>
      refine V_aload_n C d_Li_addressOfNumber_0 rfl ?_
      refine V_getI (kx := 8) C d_Li_addressOfNumber_1 cf_Li (by decide) k_Li_51 (nn hO.n0) rfl ?_
      refine V_if_eq (tgt := 18) C d_Li_addressOfNumber_4 (by decide) (fun h4 => absurd h4 hp) (fun h4 => ?_)
      refine V_aload_n C d_Li_addressOfNumber_7 rfl ?_
      refine V_getR (kx := 3) C d_Li_addressOfNumber_8 cf_Li (by decide) k_Li_24 (nn hO.n0) rfl hO.r03 ?_
      refine V_iload_n C d_Li_addressOfNumber_11 rfl ?_
      refine V_callV (as := [_]) C d_Li_addressOfNumber_12 (c_NT_findOrNull_y hO hz hz14 hf) m_NT_findOrNull cf_NT k_Li_58 (nn hO.n3) ⟨by decide, by decide⟩ (Nat.le_of_ble_eq_true rfl) ⟨by decide, by decide⟩ rfl ?_
      rintro _ _ _ _ _ ⟨rfl, rfl, rfl, rfl, rfl⟩
      dsimp only [Option.toList, List.cons_append, List.nil_append]
      refine V_goto (tgt := 19) C d_Li_addressOfNumber_15 (by decide) ?_
      refine V_astore_n (lv' := [(2, _), (0, _), (1, _)]) C d_Li_addressOfNumber_19 (by decide) rfl ?_
      refine V_aload_n C d_Li_addressOfNumber_20 rfl ?_
      refine V_ifnonnull (tgt := 28) C d_Li_addressOfNumber_21 (by decide) (fun zz21 h21 => ?_) (fun h21 => (by cases h21))
      refine V_aload_n C d_Li_addressOfNumber_28 rfl ?_
      refine V_aload_n C d_Li_addressOfNumber_29 rfl ?_
      refine V_callV (as := [_]) C d_Li_addressOfNumber_30 (c_Li_addressOf hO (by have := (fnd_s hf).1; omega) (hs _ (fnd_s hf).1)) m_Li_addressOf cf_Li k_Li_62 (nn hO.n0) ⟨by decide, by decide⟩ (Nat.le_of_ble_eq_true rfl) ⟨by decide, by decide⟩ rfl ?_
      rintro _ _ _ _ _ ⟨rfl, rfl, rfl, rfl, rfl⟩
      dsimp only [Option.toList, List.cons_append, List.nil_append]
      refine V_iret C hQ (by decide) (by decide) d_Li_addressOfNumber_33 rfl ?_
      exact ⟨congrArg (fun z => some (sI z)) (by unfold naC; rw [if_neg hp]; unfold fnd at hf; rw [hf]), rfl, rfl, rfl, rfl⟩
set_option maxHeartbeats 1000000 in
set_option maxRecDepth 10000 in
theorem c_OL_nameAt {ν : Nu} {ι : Io} {ρ : Ro} {ℓ : Lo} {N c9 w9 n9 z9 kn g9 : Nat} (hI : IV ν ι ρ N c9 w9 n9 z9 kn g9) {x : Int32} : Ct y_OL_nameAt (Cond.code y_OL_nameAt b_OL_nameAt 2 (some .int) :: tb_) { frames := 2, cells := 60, slots := 2000, locals := 44 } [sR 9 0 0, sI x] ν ι ρ ℓ (fun r9 ν1 ι1 ρ1 ℓ1 => ℓ = ℓ1 ∧ ν1 90 0 0 = ν 90 0 0 ∧ ∃ b, r9 = some (sI b) ∧ MC y_Mo_nameAt (Cond.code y_Mo_nameAt b_Mo_nameAt 3 (some .int) :: tb_) { frames := 0, cells := 0, slots := 0, locals := 0 } [sR 10 0 0, sI x] 0 b ν ρ ν1 ι1 ρ1) (noX) := by
  refine Ct.ofV (by decide) (Nat.le_of_ble_eq_true rfl) rfl ?_
  intro p l e s m args below meth c D B tW α0 Q C hQ
  refine V_aload_n C d_OL_nameAt_0 rfl ?_
  refine V_getR (kx := 2) C d_OL_nameAt_1 cf_OL (by decide) k_OL_18 (nn hI.os.n9) rfl hI.os.r92 ?_
  refine V_iload_n C d_OL_nameAt_4 rfl ?_
  refine V_callV (as := [_]) C d_OL_nameAt_5 (c_Li_addressOfNumber hI.os hI.jn.1 hI.jn.2.1 hI.jn.2.2.1) m_Li_addressOfNumber cf_Li k_OL_188 (nn hI.os.n0) ⟨by decide, by decide⟩ (Nat.le_of_ble_eq_true rfl) ⟨by decide, by decide⟩ rfl ?_
  rintro _ _ _ _ _ ⟨rfl, rfl, rfl, rfl, rfl⟩
  dsimp only [Option.toList, List.cons_append, List.nil_append]
  refine V_iret C hQ (by decide) (by decide) d_OL_nameAt_8 rfl ?_
  exact ⟨rfl, rfl, _, rfl, MC.eq (b' := (naM ι x kn)) (ι2 := (z0 ι)) (fun ℓ9 => by have h9 := c_Mo_nameAt (ν := ν) (ι := ι) (ρ := ρ) (ℓ := ℓ9) hI.mo hI.jn.2.2.2.1 hI.jn.2.2.2.2.1 (x := x); skip; exact h9) (fun _ => (hI.jn.2.2.2.2.2 x).symm) (rfl) (gm.rf) (⟨N, c9, w9, n9, z9, kn, g9, hI.t0⟩)⟩
set_option maxHeartbeats 1000000 in
set_option maxRecDepth 10000 in
theorem c_OL_countOfLatest {ν : Nu} {ι : Io} {ρ : Ro} {ℓ : Lo} {N c9 w9 n9 z9 kn g9 : Nat} (hI : IV ν ι ρ N c9 w9 n9 z9 kn g9) {x : Int32} : Ct y_OL_countOfLatest (Cond.code y_OL_countOfLatest b_OL_countOfLatest 3 (some .int) :: tb_) { frames := 1, cells := 0, slots := 0, locals := 21 } [sR 9 0 0, sI x] ν ι ρ ℓ (pEq (some (sI (if N = 0 then (-1 : Int32) else if x = 7 then ι 8 (N - 1) 0 1 else if x = 8 then ι 8 (N - 1) 0 3 else if x = 9 then ι 8 (N - 1) 0 5 else -1))) ν ι ρ ℓ) (noX) := by
  refine Ct.ofV (by decide) (Nat.le_of_ble_eq_true rfl) rfl ?_
  intro p l e s m args below meth c D B tW α0 Q C hQ
  have hN12 := hI.N12
  by_cases hN : N = 0
  · skip
    refine V_aload_n C d_OL_countOfLatest_0 rfl ?_
    refine V_aload_n C d_OL_countOfLatest_1 rfl ?_
    refine V_getI (kx := 1) C d_OL_countOfLatest_2 cf_OL (by decide) k_OL_29 (nn hI.os.n9) rfl ?_
    refine V_iconst (v := 1) C d_OL_countOfLatest_5 (by decide) ?_
    refine V_isub C d_OL_countOfLatest_6 ?_
    refine V_callV (as := [_]) C d_OL_countOfLatest_7 (c_OL_unitOrNull_n hI (by rw [hI.iu.1, hN]; decide)) m_OL_unitOrNull cf_OL k_OL_228 (nn hI.os.n9) ⟨by decide, by decide⟩ (Nat.le_of_ble_eq_true rfl) ⟨by decide, by decide⟩ rfl ?_
    rintro _ _ _ _ _ ⟨rfl, rfl, rfl, rfl, rfl⟩
    dsimp only [Option.toList, List.cons_append, List.nil_append]
    refine V_astore_n (lv' := [(2, _), (0, _), (1, _)]) C d_OL_countOfLatest_10 (by decide) rfl ?_
    refine V_aload_n C d_OL_countOfLatest_11 rfl ?_
    refine V_ifnonnull (tgt := 17) C d_OL_countOfLatest_12 (by decide) (fun _ h12 => (by cases h12)) (fun h12 => ?_)
    refine V_iconst (v := (-1)) C d_OL_countOfLatest_15 (by decide) ?_
    refine V_iret C hQ (by decide) (by decide) d_OL_countOfLatest_16 rfl ?_
    exact ⟨congrArg (fun z => some (sI z)) (if_pos hN), rfl, rfl, rfl, rfl⟩
  · skip
    refine V_aload_n C d_OL_countOfLatest_0 rfl ?_
    refine V_aload_n C d_OL_countOfLatest_1 rfl ?_
    refine V_getI (kx := 1) C d_OL_countOfLatest_2 cf_OL (by decide) k_OL_29 (nn hI.os.n9) rfl ?_
    refine V_iconst (v := 1) C d_OL_countOfLatest_5 (by decide) ?_
    refine V_isub C d_OL_countOfLatest_6 ?_
    refine V_eqi (y := nI (N - 1)) (by rw [hI.iu.1]; exact pk_sub (b := 1) (by omega)) ?_
    refine V_callV (as := [_]) C d_OL_countOfLatest_7 (c_OL_unitOrNull_y hI (t := N - 1) (by omega)) m_OL_unitOrNull cf_OL k_OL_228 (nn hI.os.n9) ⟨by decide, by decide⟩ (Nat.le_of_ble_eq_true rfl) ⟨by decide, by decide⟩ rfl ?_
    rintro _ _ _ _ _ ⟨rfl, rfl, rfl, rfl, rfl⟩
    dsimp only [Option.toList, List.cons_append, List.nil_append]
    refine V_astore_n (lv' := [(2, _), (0, _), (1, _)]) C d_OL_countOfLatest_10 (by decide) rfl ?_
    refine V_aload_n C d_OL_countOfLatest_11 rfl ?_
    refine V_ifnonnull (tgt := 17) C d_OL_countOfLatest_12 (by decide) (fun zz12 h12 => ?_) (fun h12 => (by cases h12))
    refine V_iload_n C d_OL_countOfLatest_17 rfl ?_
    by_cases c18_0 : x = 7
    · subst c18_0
      refine V_tswI (tgt := 44) C d_OL_countOfLatest_18 (by decide) (by decide) rfl (by decide) ?_
      refine V_aload_n C d_OL_countOfLatest_44 rfl ?_
      refine V_getI (kx := 1) C d_OL_countOfLatest_45 cf_Un (by decide) k_OL_60 (hI.um (show N - 1 < N by omega)).al rfl ?_
      refine V_iret C hQ (by decide) (by decide) d_OL_countOfLatest_48 rfl ?_
      exact ⟨congrArg (fun z => some (sI z)) (by rw [if_neg hN]; rfl), rfl, rfl, rfl, rfl⟩
    by_cases c18_1 : x = 8
    · subst c18_1
      refine V_tswI (tgt := 49) C d_OL_countOfLatest_18 (by decide) (by decide) rfl (by decide) ?_
      refine V_aload_n C d_OL_countOfLatest_49 rfl ?_
      refine V_getI (kx := 3) C d_OL_countOfLatest_50 cf_Un (by decide) k_OL_97 (hI.um (show N - 1 < N by omega)).al rfl ?_
      refine V_iret C hQ (by decide) (by decide) d_OL_countOfLatest_53 rfl ?_
      exact ⟨congrArg (fun z => some (sI z)) (by rw [if_neg hN]; rfl), rfl, rfl, rfl, rfl⟩
    by_cases c18_2 : x = 9
    · subst c18_2
      refine V_tswI (tgt := 54) C d_OL_countOfLatest_18 (by decide) (by decide) rfl (by decide) ?_
      refine V_aload_n C d_OL_countOfLatest_54 rfl ?_
      refine V_getI (kx := 5) C d_OL_countOfLatest_55 cf_Un (by decide) k_OL_116 (hI.um (show N - 1 < N by omega)).al rfl ?_
      refine V_iret C hQ (by decide) (by decide) d_OL_countOfLatest_58 rfl ?_
      exact ⟨congrArg (fun z => some (sI z)) (by rw [if_neg hN]; rfl), rfl, rfl, rfl, rfl⟩
    refine V_tswO (tgt := 59) C d_OL_countOfLatest_18 (tsw_out (lo := 7) 3 (by decide) (fun t ht => ?_)) (by decide) ?_
    · rcases (show t = 0 ∨ t = 1 ∨ t = 2 by omega) with rfl | rfl | rfl <;> assumption
    refine V_iconst (v := (-1)) C d_OL_countOfLatest_59 (by decide) ?_
    refine V_iret C hQ (by decide) (by decide) d_OL_countOfLatest_60 rfl ?_
    exact ⟨congrArg (fun z => some (sI z)) (by rw [if_neg hN]; rw [if_neg c18_0, if_neg c18_1, if_neg c18_2]), rfl, rfl, rfl, rfl⟩
theorem cnt_eq {ν : Nu} {ι : Io} {ρ : Ro} {N c9 w9 n9 z9 kn g9 : Nat} (hI : IV ν ι ρ N c9 w9 n9 z9 kn g9) {x : Int32} : (if x = 7 then (if N = 0 then (-1 : Int32) else ι 42 0 0 (N - 1)) else if x = 8 then (if N = 0 then -1 else ι 47 0 0 (N - 1)) else if x = 9 then (if N = 0 then -1 else ι 52 0 0 (N - 1)) else -1) = (if N = 0 then (-1 : Int32) else if x = 7 then ι 8 (N - 1) 0 1 else if x = 8 then ι 8 (N - 1) 0 3 else if x = 9 then ι 8 (N - 1) 0 5 else -1) := by
  have h12 := hI.N12
  by_cases hN : N = 0
  · simp [hN]
  · have hU := hI.um (show N - 1 < N by omega)
    rw [hU.ec, hU.en, hU.er, ← hI.bd.b42.eq (t := N - 1) (by omega), ← hI.bd.b47.eq (t := N - 1) (by omega), ← hI.bd.b52.eq (t := N - 1) (by omega)]
    simp [hN]
set_option maxHeartbeats 1000000 in
set_option maxRecDepth 10000 in
theorem c_OL_count {ν : Nu} {ι : Io} {ρ : Ro} {ℓ : Lo} {N c9 w9 n9 z9 kn g9 : Nat} (hI : IV ν ι ρ N c9 w9 n9 z9 kn g9) {x : Int32} : Ct y_OL_count (Cond.code y_OL_count b_OL_count 2 (some .int) :: tb_) { frames := 2, cells := 60, slots := 2000, locals := 43 } [sR 9 0 0, sI x] ν ι ρ ℓ (fun r9 ν1 ι1 ρ1 ℓ1 => ℓ = ℓ1 ∧ ν1 90 0 0 = ν 90 0 0 ∧ ∃ b, r9 = some (sI b) ∧ MC y_Mo_count (Cond.code y_Mo_count b_Mo_count 2 (some .int) :: tb_) { frames := 0, cells := 0, slots := 0, locals := 0 } [sR 10 0 0, sI x] 0 b ν ρ ν1 ι1 ρ1) (noX) := by
  refine Ct.ofV (by decide) (Nat.le_of_ble_eq_true rfl) rfl ?_
  intro p l e s m args below meth c D B tW α0 Q C hQ
  refine V_iload_n C d_OL_count_0 rfl ?_
  by_cases c1_0 : x = 0
  · subst c1_0
    refine V_tswI (tgt := 44) C d_OL_count_1 (by decide) (by decide) rfl (by decide) ?_
    refine V_aload_n C d_OL_count_44 rfl ?_
    refine V_getI (kx := 1) C d_OL_count_45 cf_OL (by decide) k_OL_29 (nn hI.os.n9) rfl ?_
    refine V_iret C hQ (by decide) (by decide) d_OL_count_48 rfl ?_
    exact ⟨rfl, rfl, _, rfl, MC.eq (b' := nI N) (ι2 := (z0 ι)) (fun ℓ9 => by have h9 := c_Mo_count (ν := ν) (ι := ι) (ρ := ρ) (ℓ := ℓ9) hI.mo hI.iu.2.1 hI.N12 (x := 0); skip; exact h9) (fun _ => hI.iu.1.symm) (rfl) (gm.rf) (⟨N, c9, w9, n9, z9, kn, g9, hI.t0⟩)⟩
  by_cases c1_1 : x = 1
  · subst c1_1
    refine V_tswI (tgt := 49) C d_OL_count_1 (by decide) (by decide) rfl (by decide) ?_
    refine V_aload_n C d_OL_count_49 rfl ?_
    refine V_getR (kx := 2) C d_OL_count_50 cf_OL (by decide) k_OL_18 (nn hI.os.n9) rfl hI.os.r92 ?_
    refine V_getI (kx := 2) C d_OL_count_53 cf_Li (by decide) k_OL_143 (nn hI.os.n0) rfl ?_
    refine V_iret C hQ (by decide) (by decide) d_OL_count_56 rfl ?_
    exact ⟨rfl, rfl, _, rfl, MC.eq (b' := ι 10 0 0 18) (ι2 := (z0 ι)) (fun ℓ9 => by have h9 := c_Mo_count (ν := ν) (ι := ι) (ρ := ρ) (ℓ := ℓ9) hI.mo hI.iu.2.1 hI.N12 (x := 1); skip; exact h9) (fun _ => hI.ic.2.1.trans hI.ic.1.symm) (rfl) (gm.rf) (⟨N, c9, w9, n9, z9, kn, g9, hI.t0⟩)⟩
  by_cases c1_2 : x = 2
  · subst c1_2
    refine V_tswI (tgt := 57) C d_OL_count_1 (by decide) (by decide) rfl (by decide) ?_
    refine V_aload_n C d_OL_count_57 rfl ?_
    refine V_getR (kx := 2) C d_OL_count_58 cf_OL (by decide) k_OL_18 (nn hI.os.n9) rfl hI.os.r92 ?_
    refine V_getI (kx := 11) C d_OL_count_61 cf_Li (by decide) k_OL_157 (nn hI.os.n0) rfl ?_
    refine V_iret C hQ (by decide) (by decide) d_OL_count_64 rfl ?_
    exact ⟨rfl, rfl, _, rfl, MC.eq (b' := ι 10 0 0 29) (ι2 := (z0 ι)) (fun ℓ9 => by have h9 := c_Mo_count (ν := ν) (ι := ι) (ρ := ρ) (ℓ := ℓ9) hI.mo hI.iu.2.1 hI.N12 (x := 2); skip; exact h9) (fun _ => hI.ig.2.1.trans hI.ig.1.symm) (rfl) (gm.rf) (⟨N, c9, w9, n9, z9, kn, g9, hI.t0⟩)⟩
  by_cases c1_3 : x = 3
  · subst c1_3
    refine V_tswI (tgt := 65) C d_OL_count_1 (by decide) (by decide) rfl (by decide) ?_
    refine V_aload_n C d_OL_count_65 rfl ?_
    refine V_getR (kx := 2) C d_OL_count_66 cf_OL (by decide) k_OL_18 (nn hI.os.n9) rfl hI.os.r92 ?_
    refine V_getI (kx := 12) C d_OL_count_69 cf_Li (by decide) k_OL_216 (nn hI.os.n0) rfl ?_
    refine V_iret C hQ (by decide) (by decide) d_OL_count_72 rfl ?_
    exact ⟨rfl, rfl, _, rfl, MC.eq (b' := ι 10 0 0 30) (ι2 := (z0 ι)) (fun ℓ9 => by have h9 := c_Mo_count (ν := ν) (ι := ι) (ρ := ρ) (ℓ := ℓ9) hI.mo hI.iu.2.1 hI.N12 (x := 3); skip; exact h9) (fun _ => hI.ig.2.2.2.1.symm) (rfl) (gm.rf) (⟨N, c9, w9, n9, z9, kn, g9, hI.t0⟩)⟩
  by_cases c1_4 : x = 4
  · subst c1_4
    refine V_tswI (tgt := 73) C d_OL_count_1 (by decide) (by decide) rfl (by decide) ?_
    refine V_aload_n C d_OL_count_73 rfl ?_
    refine V_getR (kx := 2) C d_OL_count_74 cf_OL (by decide) k_OL_18 (nn hI.os.n9) rfl hI.os.r92 ?_
    refine V_getI (kx := 14) C d_OL_count_77 cf_Li (by decide) k_OL_219 (nn hI.os.n0) rfl ?_
    refine V_iret C hQ (by decide) (by decide) d_OL_count_80 rfl ?_
    exact ⟨rfl, rfl, _, rfl, MC.eq (b' := ι 10 0 0 31) (ι2 := (z0 ι)) (fun ℓ9 => by have h9 := c_Mo_count (ν := ν) (ι := ι) (ρ := ρ) (ℓ := ℓ9) hI.mo hI.iu.2.1 hI.N12 (x := 4); skip; exact h9) (fun _ => hI.ig.2.2.2.2.2.1.symm) (rfl) (gm.rf) (⟨N, c9, w9, n9, z9, kn, g9, hI.t0⟩)⟩
  by_cases c1_5 : x = 5
  · subst c1_5
    refine V_tswI (tgt := 81) C d_OL_count_1 (by decide) (by decide) rfl (by decide) ?_
    refine V_aload_n C d_OL_count_81 rfl ?_
    refine V_getR (kx := 2) C d_OL_count_82 cf_OL (by decide) k_OL_18 (nn hI.os.n9) rfl hI.os.r92 ?_
    refine V_getI (kx := 13) C d_OL_count_85 cf_Li (by decide) k_OL_222 (nn hI.os.n0) rfl ?_
    refine V_iret C hQ (by decide) (by decide) d_OL_count_88 rfl ?_
    exact ⟨rfl, rfl, _, rfl, MC.eq (b' := ι 10 0 0 32) (ι2 := (z0 ι)) (fun ℓ9 => by have h9 := c_Mo_count (ν := ν) (ι := ι) (ρ := ρ) (ℓ := ℓ9) hI.mo hI.iu.2.1 hI.N12 (x := 5); skip; exact h9) (fun _ => hI.ig.2.2.2.2.1.symm) (rfl) (gm.rf) (⟨N, c9, w9, n9, z9, kn, g9, hI.t0⟩)⟩
  by_cases c1_6 : x = 6
  · subst c1_6
    refine V_tswI (tgt := 89) C d_OL_count_1 (by decide) (by decide) rfl (by decide) ?_
    refine V_aload_n C d_OL_count_89 rfl ?_
    refine V_getR (kx := 3) C d_OL_count_90 cf_OL (by decide) k_OL_25 (nn hI.os.n9) rfl hI.os.r93 ?_
    refine V_getI (kx := 1) C d_OL_count_93 cf_Oc (by decide) k_OL_195 (nn hI.os.n4) rfl ?_
    refine V_iret C hQ (by decide) (by decide) d_OL_count_96 rfl ?_
    exact ⟨rfl, rfl, _, rfl, MC.eq (b' := ι 10 0 0 37) (ι2 := (z0 ι)) (fun ℓ9 => by have h9 := c_Mo_count (ν := ν) (ι := ι) (ρ := ρ) (ℓ := ℓ9) hI.mo hI.iu.2.1 hI.N12 (x := 6); skip; exact h9) (fun _ => hI.io.2.1.trans hI.io.1.symm) (rfl) (gm.rf) (⟨N, c9, w9, n9, z9, kn, g9, hI.t0⟩)⟩
  refine V_tswO (tgt := 97) C d_OL_count_1 (tsw_out (lo := 0) 7 (by decide) (fun t ht => ?_)) (by decide) ?_
  · rcases (show t = 0 ∨ t = 1 ∨ t = 2 ∨ t = 3 ∨ t = 4 ∨ t = 5 ∨ t = 6 by omega) with rfl | rfl | rfl | rfl | rfl | rfl | rfl <;> assumption
  refine V_aload_n C d_OL_count_97 rfl ?_
  refine V_iload_n C d_OL_count_98 rfl ?_
  refine V_callV (as := [_]) C d_OL_count_99 (c_OL_countOfLatest hI) m_OL_countOfLatest cf_OL k_OL_225 (nn hI.os.n9) ⟨by decide, by decide⟩ (Nat.le_of_ble_eq_true rfl) ⟨by decide, by decide⟩ rfl ?_
  rintro _ _ _ _ _ ⟨rfl, rfl, rfl, rfl, rfl⟩
  dsimp only [Option.toList, List.cons_append, List.nil_append]
  refine V_iret C hQ (by decide) (by decide) d_OL_count_102 rfl ?_
  exact ⟨rfl, rfl, _, rfl, MC.eq (b' := (if x = 7 then (if N = 0 then -1 else ι 42 0 0 (N - 1)) else if x = 8 then (if N = 0 then -1 else ι 47 0 0 (N - 1)) else if x = 9 then (if N = 0 then -1 else ι 52 0 0 (N - 1)) else -1)) (ι2 := (z0 ι)) (fun ℓ9 => by have h9 := c_Mo_count (ν := ν) (ι := ι) (ρ := ρ) (ℓ := ℓ9) hI.mo hI.iu.2.1 hI.N12 (x := x); rw [if_neg c1_0, if_neg c1_1, if_neg c1_2, if_neg c1_3, if_neg c1_4, if_neg c1_5, if_neg c1_6] at h9; exact h9) (fun _ => cnt_eq hI) (rfl) (gm.rf) (⟨N, c9, w9, n9, z9, kn, g9, hI.t0⟩)⟩
