set_option maxHeartbeats 1000000 in
set_option maxRecDepth 10000 in
theorem c_Me_begin {ν : Nu} {ι : Io} {ρ : Ro} {ℓ : Lo} {k9 : Nat} (hal : ν 1 k9 0 ≠ none) {x : Int32} : Ct y_Me_begin (Cond.code y_Me_begin b_Me_begin 2 none :: tb_) { frames := 0, cells := 0, slots := 0, locals := 0 } [sR 1 k9 0, sI x] ν ι ρ ℓ (pEq none ν (up4 (up4 (up4 (up4 (up4 (up4 ι 1 k9 0 0 x) 1 k9 0 1 3) 1 k9 0 4 0) 1 k9 0 5 0) 1 k9 0 6 0) 1 k9 0 7 (-1)) ρ ℓ) (noX) := by
  refine Ct.ofV (by decide) (Nat.le_of_ble_eq_true rfl) rfl ?_
  intro p l e s m args below meth c D B tW α0 Q C hQ
  refine V_aload_n C d_Me_begin_0 rfl ?_
  refine V_iload_n C d_Me_begin_1 rfl ?_
  refine V_putI (kx := 0) C d_Me_begin_2 cf_Me (by decide) k_Me_9 hal rfl rfl rfl rfl ?_
  refine V_aload_n C d_Me_begin_5 rfl ?_
  refine V_iconst (v := 3) C d_Me_begin_6 (by decide) ?_
  refine V_putI (kx := 1) C d_Me_begin_7 cf_Me (by decide) k_Me_15 hal rfl rfl rfl rfl ?_
  refine V_aload_n C d_Me_begin_10 rfl ?_
  refine V_iconst (v := 0) C d_Me_begin_11 (by decide) ?_
  refine V_putI (kx := 4) C d_Me_begin_12 cf_Me (by decide) k_Me_18 hal rfl rfl rfl rfl ?_
  refine V_aload_n C d_Me_begin_15 rfl ?_
  refine V_iconst (v := 0) C d_Me_begin_16 (by decide) ?_
  refine V_putI (kx := 5) C d_Me_begin_17 cf_Me (by decide) k_Me_21 hal rfl rfl rfl rfl ?_
  refine V_aload_n C d_Me_begin_20 rfl ?_
  refine V_iconst (v := 0) C d_Me_begin_21 (by decide) ?_
  refine V_putI (kx := 6) C d_Me_begin_22 cf_Me (by decide) k_Me_24 hal rfl rfl rfl rfl ?_
  refine V_aload_n C d_Me_begin_25 rfl ?_
  refine V_iconst (v := (-1)) C d_Me_begin_26 (by decide) ?_
  refine V_putI (kx := 7) C d_Me_begin_27 cf_Me (by decide) k_Me_28 hal rfl rfl rfl rfl ?_
  refine V_vret C hQ (by decide) (by decide) d_Me_begin_30 rfl ?_
  exact ⟨rfl, rfl, rfl, rfl, rfl⟩
set_option maxHeartbeats 1000000 in
set_option maxRecDepth 10000 in
theorem c_Me_define {ν : Nu} {ι : Io} {ρ : Ro} {ℓ : Lo} {k9 : Nat} (hal : ν 1 k9 0 ≠ none) {x y v : Int32} : Ct y_Me_define (Cond.code y_Me_define b_Me_define 4 none :: tb_) { frames := 0, cells := 0, slots := 0, locals := 0 } [sR 1 k9 0, sI x, sI y, sI v] ν ι ρ ℓ (pEq none ν (up4 (up4 (up4 ι 1 k9 0 1 x) 1 k9 0 2 y) 1 k9 0 3 v) ρ ℓ) (noX) := by
  refine Ct.ofV (by decide) (Nat.le_of_ble_eq_true rfl) rfl ?_
  intro p l e s m args below meth c D B tW α0 Q C hQ
  refine V_aload_n C d_Me_define_0 rfl ?_
  refine V_iload_n C d_Me_define_1 rfl ?_
  refine V_putI (kx := 1) C d_Me_define_2 cf_Me (by decide) k_Me_15 hal rfl rfl rfl rfl ?_
  refine V_aload_n C d_Me_define_5 rfl ?_
  refine V_iload_n C d_Me_define_6 rfl ?_
  refine V_putI (kx := 2) C d_Me_define_7 cf_Me (by decide) k_Me_31 hal rfl rfl rfl rfl ?_
  refine V_aload_n C d_Me_define_10 rfl ?_
  refine V_iload_n C d_Me_define_11 rfl ?_
  refine V_putI (kx := 3) C d_Me_define_12 cf_Me (by decide) k_Me_34 hal rfl rfl rfl rfl ?_
  refine V_vret C hQ (by decide) (by decide) d_Me_define_15 rfl ?_
  exact ⟨rfl, rfl, rfl, rfl, rfl⟩
set_option maxHeartbeats 1000000 in
set_option maxRecDepth 10000 in
theorem c_Me_widen {ν : Nu} {ι : Io} {ρ : Ro} {ℓ : Lo} {k9 : Nat} (hal : ν 1 k9 0 ≠ none) {x y : Int32} : Ct y_Me_widen (Cond.code y_Me_widen b_Me_widen 3 none :: tb_) { frames := 1, cells := 0, slots := 0, locals := 40 } [sR 1 k9 0, sI x, sI y] ν ι ρ ℓ (pEq none ν (wdI ι k9 x y) ρ ℓ) (noX) := by
  refine Ct.ofV (by decide) (Nat.le_of_ble_eq_true rfl) rfl ?_
  intro p l e s m args below meth c D B tW α0 Q C hQ
  refine V_aload_n C d_Me_widen_0 rfl ?_
  refine V_iconst (v := 2) C d_Me_widen_1 (by decide) ?_
  refine V_putI (kx := 1) C d_Me_widen_2 cf_Me (by decide) k_Me_15 hal rfl rfl rfl rfl ?_
  refine V_aload_n C d_Me_widen_5 rfl ?_
  refine V_aload_n C d_Me_widen_6 rfl ?_
  refine V_getI (kx := 4) C d_Me_widen_7 cf_Me (by decide) k_Me_18 hal rfl ?_
  refine V_eqi (y := ι 1 k9 0 4) (up4_ne (by omega)) ?_
  refine V_iload_n C d_Me_widen_10 rfl ?_
  refine V_mmax C d_Me_widen_11 k_Me_37 k_max (by decide) (Nat.le_of_ble_eq_true rfl) (by decide) (by decide) ?_
  refine V_putI (kx := 4) C d_Me_widen_14 cf_Me (by decide) k_Me_18 hal rfl rfl rfl rfl ?_
  refine V_aload_n C d_Me_widen_17 rfl ?_
  refine V_aload_n C d_Me_widen_18 rfl ?_
  refine V_getI (kx := 5) C d_Me_widen_19 cf_Me (by decide) k_Me_21 hal rfl ?_
  refine V_eqi (y := ι 1 k9 0 5) (by rw [up4_ne (by omega), up4_ne (by omega)]) ?_
  refine V_iload_n C d_Me_widen_22 rfl ?_
  refine V_mmax C d_Me_widen_23 k_Me_37 k_max (by decide) (Nat.le_of_ble_eq_true rfl) (by decide) (by decide) ?_
  refine V_putI (kx := 5) C d_Me_widen_26 cf_Me (by decide) k_Me_21 hal rfl rfl rfl rfl ?_
  refine V_vret C hQ (by decide) (by decide) d_Me_widen_29 rfl ?_
  exact ⟨rfl, rfl, rfl, rfl, rfl⟩
set_option maxHeartbeats 1000000 in
set_option maxRecDepth 10000 in
theorem c_NT_clear {ν : Nu} {ι : Io} {ρ : Ro} {ℓ : Lo} (hO : OS ν ρ) : Ct y_NT_clear (Cond.code y_NT_clear b_NT_clear 1 none :: tb_) { frames := 0, cells := 0, slots := 0, locals := 0 } [sR 3 0 0] ν ι ρ ℓ (pEq none ν (up4 (up4 ι 3 0 0 1 0) 3 0 0 4 0) ρ ℓ) (noX) := by
  refine Ct.ofV (by decide) (Nat.le_of_ble_eq_true rfl) rfl ?_
  intro p l e s m args below meth c D B tW α0 Q C hQ
  refine V_aload_n C d_NT_clear_0 rfl ?_
  refine V_iconst (v := 0) C d_NT_clear_1 (by decide) ?_
  refine V_putI (kx := 1) C d_NT_clear_2 cf_NT (by decide) k_NT_24 (nn hO.n3) rfl rfl rfl rfl ?_
  refine V_aload_n C d_NT_clear_5 rfl ?_
  refine V_iconst (v := 0) C d_NT_clear_6 (by decide) ?_
  refine V_putI (kx := 4) C d_NT_clear_7 cf_NT (by decide) k_NT_28 (nn hO.n3) rfl rfl rfl rfl ?_
  refine V_vret C hQ (by decide) (by decide) d_NT_clear_10 rfl ?_
  exact ⟨rfl, rfl, rfl, rfl, rfl⟩
set_option maxHeartbeats 1000000 in
set_option maxRecDepth 10000 in
theorem c_NT_findOrBegin_y {ν : Nu} {ι : Io} {ρ : Ro} {ℓ : Lo} (hO : OS ν ρ) {z9 : Nat} (hz : ι 3 0 0 1 = nI z9) (hz14 : z9 ≤ 144) {x : Int32} {k9 : Nat} (hf : fnd ι x z9 = some k9) : Ct y_NT_findOrBegin (Cond.code y_NT_findOrBegin b_NT_findOrBegin 4 (some (.object "ObjectLinks$Meaning")) :: tb_) { frames := 1, cells := 0, slots := 0, locals := 22 } [sR 3 0 0, sI x] ν ι ρ ℓ (pEq (some (sR 1 k9 0)) ν ι ρ ℓ) (noX) := by
  refine Ct.ofV (by decide) (Nat.le_of_ble_eq_true rfl) rfl ?_
  intro p l e s m args below meth c D B tW α0 Q C hQ
  refine V_aload_n C d_NT_findOrBegin_0 rfl ?_
  refine V_iload_n C d_NT_findOrBegin_1 rfl ?_
  refine V_callV (as := [_]) C d_NT_findOrBegin_2 (c_NT_findOrNull_y hO hz hz14 hf) m_NT_findOrNull cf_NT k_NT_34 (nn hO.n3) ⟨by decide, by decide⟩ (Nat.le_of_ble_eq_true rfl) ⟨by decide, by decide⟩ rfl ?_
  rintro _ _ _ _ _ ⟨rfl, rfl, rfl, rfl, rfl⟩
  dsimp only [Option.toList, List.cons_append, List.nil_append]
  refine V_astore_n (lv' := [(2, _), (0, _), (1, _)]) C d_NT_findOrBegin_5 (by decide) rfl ?_
  refine V_aload_n C d_NT_findOrBegin_6 rfl ?_
  refine V_ifnull (tgt := 12) C d_NT_findOrBegin_7 (by decide) (fun h7 => (by cases h7)) (fun zz7 h7 => ?_)
  refine V_aload_n C d_NT_findOrBegin_10 rfl ?_
  refine V_aret C hQ (by decide) (by decide) d_NT_findOrBegin_11 rfl ?_
  exact ⟨rfl, rfl, rfl, rfl, rfl⟩
set_option maxHeartbeats 1000000 in
set_option maxRecDepth 10000 in
theorem c_NT_findOrBegin_n {ν : Nu} {ι : Io} {ρ : Ro} {ℓ : Lo} (hO : OS ν ρ) {z9 : Nat} (hz : ι 3 0 0 1 = nI z9) (hz14 : z9 ≤ 144) {x : Int32} (hf : fnd ι x z9 = none) (hz9 : z9 < 144) : Ct y_NT_findOrBegin (Cond.code y_NT_findOrBegin b_NT_findOrBegin 4 (some (.object "ObjectLinks$Meaning")) :: tb_) { frames := 1, cells := 0, slots := 0, locals := 22 } [sR 3 0 0, sI x] ν ι ρ ℓ (pEq (some (sR 1 z9 0)) ν (begI ι z9 x) ρ ℓ) (noX) := by
  refine Ct.ofV (by decide) (Nat.le_of_ble_eq_true rfl) rfl ?_
  intro p l e s m args below meth c D B tW α0 Q C hQ
  refine V_aload_n C d_NT_findOrBegin_0 rfl ?_
  refine V_iload_n C d_NT_findOrBegin_1 rfl ?_
  refine V_callV (as := [_]) C d_NT_findOrBegin_2 (c_NT_findOrNull_n hO hz hz14 hf) m_NT_findOrNull cf_NT k_NT_34 (nn hO.n3) ⟨by decide, by decide⟩ (Nat.le_of_ble_eq_true rfl) ⟨by decide, by decide⟩ rfl ?_
  rintro _ _ _ _ _ ⟨rfl, rfl, rfl, rfl, rfl⟩
  dsimp only [Option.toList, List.cons_append, List.nil_append]
  refine V_astore_n (lv' := [(2, _), (0, _), (1, _)]) C d_NT_findOrBegin_5 (by decide) rfl ?_
  refine V_aload_n C d_NT_findOrBegin_6 rfl ?_
  refine V_ifnull (tgt := 12) C d_NT_findOrBegin_7 (by decide) (fun h7 => ?_) (fun _ h7 => (by cases h7))
  refine V_aload_n C d_NT_findOrBegin_12 rfl ?_
  refine V_getR (kx := 0) C d_NT_findOrBegin_13 cf_NT (by decide) k_NT_11 (nn hO.n3) rfl hO.r30 ?_
  refine V_aload_n C d_NT_findOrBegin_16 rfl ?_
  refine V_getI (kx := 1) C d_NT_findOrBegin_17 cf_NT (by decide) k_NT_24 (nn hO.n3) rfl ?_
  refine V_aald C d_NT_findOrBegin_20 (by decide) (by decide) rfl hO.n32 hz hz9 rfl (hO.me z9 hz9).2 ?_
  refine V_astore_n (lv' := [(3, _), (2, _), (0, _), (1, _)]) C d_NT_findOrBegin_21 (by decide) rfl ?_
  refine V_aload_n C d_NT_findOrBegin_22 rfl ?_
  refine V_dup C d_NT_findOrBegin_23 rfl ?_
  refine V_getI (kx := 1) C d_NT_findOrBegin_24 cf_NT (by decide) k_NT_24 (nn hO.n3) rfl ?_
  refine V_eqi (y := nI z9) hz ?_
  refine V_iconst (v := 1) C d_NT_findOrBegin_27 (by decide) ?_
  refine V_iadd C d_NT_findOrBegin_28 ?_
  refine V_eqi (y := nI (z9 + 1)) (nI_1 z9) ?_
  refine V_putI (kx := 1) C d_NT_findOrBegin_29 cf_NT (by decide) k_NT_24 (nn hO.n3) rfl rfl rfl rfl ?_
  refine V_aload_n C d_NT_findOrBegin_32 rfl ?_
  refine V_iload_n C d_NT_findOrBegin_33 rfl ?_
  refine V_callV (as := [_]) C d_NT_findOrBegin_34 (c_Me_begin (nn (hO.me z9 hz9).1)) m_Me_begin cf_Me k_NT_38 (nn (hO.me z9 hz9).1) ⟨by decide, by decide⟩ (Nat.le_of_ble_eq_true rfl) ⟨by decide, by decide⟩ rfl ?_
  rintro _ _ _ _ _ ⟨rfl, rfl, rfl, rfl, rfl⟩
  dsimp only [Option.toList, List.cons_append, List.nil_append]
  refine V_aload_n C d_NT_findOrBegin_37 rfl ?_
  refine V_aret C hQ (by decide) (by decide) d_NT_findOrBegin_38 rfl ?_
  exact ⟨rfl, rfl, rfl, rfl, rfl⟩
set_option maxHeartbeats 1000000 in
set_option maxRecDepth 10000 in
theorem c_NT_meaningOf {ν : Nu} {ι : Io} {ρ : Ro} {ℓ : Lo} (hO : OS ν ρ) {o9 t9 k9 : Nat} (ht : 12 * o9 + t9 < 144) (hm : ρ 33 0 0 (12 * o9 + t9) = some (1, k9, 0)) : Ct y_NT_meaningOf (Cond.code y_NT_meaningOf b_NT_meaningOf 3 (some (.object "ObjectLinks$Meaning")) :: tb_) { frames := 0, cells := 0, slots := 0, locals := 0 } [sR 3 0 0, sI (nI o9), sI (nI t9)] ν ι ρ ℓ (pEq (some (sR 1 k9 0)) ν ι ρ ℓ) (noX) := by
  refine Ct.ofV (by decide) (Nat.le_of_ble_eq_true rfl) rfl ?_
  intro p l e s m args below meth c D B tW α0 Q C hQ
  refine V_aload_n C d_NT_meaningOf_0 rfl ?_
  refine V_getR (kx := 2) C d_NT_meaningOf_1 cf_NT (by decide) k_NT_17 (nn hO.n3) rfl hO.r32 ?_
  refine V_iload_n C d_NT_meaningOf_4 rfl ?_
  refine V_bipush (v := 12) C d_NT_meaningOf_5 (by decide) ?_
  refine V_imul C d_NT_meaningOf_7 ?_
  refine V_iload_n C d_NT_meaningOf_8 rfl ?_
  refine V_iadd C d_NT_meaningOf_9 ?_
  refine V_aald C d_NT_meaningOf_10 (by decide) (by decide) rfl hO.n33 (by rw [show (12 : Int32) = nI 12 from rfl, pk_mul, nI_add, Nat.mul_comm]) ht rfl hm ?_
  refine V_aret C hQ (by decide) (by decide) d_NT_meaningOf_11 rfl ?_
  exact ⟨rfl, rfl, rfl, rfl, rfl⟩
set_option maxHeartbeats 1000000 in
set_option maxRecDepth 10000 in
theorem c_NT_enterCommon {ν : Nu} {ι : Io} {ρ : Ro} {ℓ : Lo} (hO : OS ν ρ) {k9 o9 n9 cc : Nat} (hal : ν 1 k9 0 ≠ none) (han : ν 2 o9 n9 ≠ none) (hcc : ι 3 0 0 4 = nI cc) (hc : cc < 144) : Ct y_NT_enterCommon (Cond.code y_NT_enterCommon b_NT_enterCommon 3 none :: tb_) { frames := 2, cells := 0, slots := 0, locals := 62 } [sR 3 0 0, sR 1 k9 0, sR 2 o9 n9] ν ι ρ ℓ (fun v ν1 ι2 ρ2 ℓ2 => none = v ∧ ν = ν1 ∧ ℓ = ℓ2 ∧ ((ι 1 k9 0 1 = 0 ∧ ι2 = ι ∧ ρ2 = ρ) ∨ (¬ ι 1 k9 0 1 = 0 ∧ ι 1 k9 0 1 = 2 ∧ ι2 = wdI ι k9 (ι 2 o9 n9 2) (ι 2 o9 n9 3) ∧ ρ2 = ρ) ∨ (¬ ι 1 k9 0 1 = 0 ∧ ¬ ι 1 k9 0 1 = 2 ∧ ι2 = wdI (up4 ι 3 0 0 4 (nI (cc + 1))) k9 (ι 2 o9 n9 2) (ι 2 o9 n9 3) ∧ ρ2 = up4 ρ 34 0 0 cc (some (1, k9, 0))))) (noX) := by
  refine Ct.ofV (by decide) (Nat.le_of_ble_eq_true rfl) rfl ?_
  intro p l e s m args below meth c D B tW α0 Q C hQ
  refine V_aload_n C d_NT_enterCommon_0 rfl ?_
  refine V_getI (kx := 1) C d_NT_enterCommon_1 cf_Me (by decide) k_NT_51 hal rfl ?_
  refine V_if_ne (tgt := 8) C d_NT_enterCommon_4 (by decide) (fun h4 => ?_) (fun h4 => ?_)
  · refine V_aload_n C d_NT_enterCommon_8 rfl ?_
    refine V_getI (kx := 1) C d_NT_enterCommon_9 cf_Me (by decide) k_NT_51 hal rfl ?_
    refine V_iconst (v := 2) C d_NT_enterCommon_12 (by decide) ?_
    refine V_icmp_eq (tgt := 36) C d_NT_enterCommon_13 (by decide) (fun h13 => ?_) (fun h13 => ?_)
    · refine V_aload_n C d_NT_enterCommon_36 rfl ?_
      refine V_aload_n C d_NT_enterCommon_37 rfl ?_
      refine V_getI (kx := 2) C d_NT_enterCommon_38 cf_Na (by decide) k_NT_52 han rfl ?_
      refine V_eqi (y := ι 2 o9 n9 2) rfl ?_
      refine V_aload_n C d_NT_enterCommon_41 rfl ?_
      refine V_getI (kx := 3) C d_NT_enterCommon_42 cf_Na (by decide) k_NT_59 han rfl ?_
      refine V_eqi (y := ι 2 o9 n9 3) rfl ?_
      refine V_callV (as := [_, _]) C d_NT_enterCommon_45 (c_Me_widen hal) m_Me_widen cf_Me k_NT_70 hal ⟨by decide, by decide⟩ (Nat.le_of_ble_eq_true rfl) ⟨by decide, by decide⟩ rfl ?_
      rintro _ _ _ _ _ ⟨rfl, rfl, rfl, rfl, rfl⟩
      dsimp only [Option.toList, List.cons_append, List.nil_append]
      refine V_vret C hQ (by decide) (by decide) d_NT_enterCommon_48 rfl ?_
      first | exact ⟨rfl, rfl, rfl, Or.inr (Or.inl ⟨h4, h13, rfl, rfl⟩)⟩ | exact ⟨rfl, rfl, rfl, Or.inr (Or.inr ⟨h4, h13, rfl, rfl⟩)⟩
    · refine V_aload_n C d_NT_enterCommon_16 rfl ?_
      refine V_getR (kx := 3) C d_NT_enterCommon_17 cf_NT (by decide) k_NT_20 (nn hO.n3) rfl hO.r33 ?_
      refine V_aload_n C d_NT_enterCommon_20 rfl ?_
      refine V_getI (kx := 4) C d_NT_enterCommon_21 cf_NT (by decide) k_NT_28 (nn hO.n3) rfl ?_
      refine V_aload_n C d_NT_enterCommon_24 rfl ?_
      refine V_aast C d_NT_enterCommon_25 (by decide) (by decide) rfl cf_Me hO.n34 hcc hc rfl hal ?_
      refine V_aload_n C d_NT_enterCommon_26 rfl ?_
      refine V_dup C d_NT_enterCommon_27 rfl ?_
      refine V_getI (kx := 4) C d_NT_enterCommon_28 cf_NT (by decide) k_NT_28 (nn hO.n3) rfl ?_
      refine V_eqi (y := nI cc) hcc ?_
      refine V_iconst (v := 1) C d_NT_enterCommon_31 (by decide) ?_
      refine V_iadd C d_NT_enterCommon_32 ?_
      refine V_eqi (y := nI (cc + 1)) (nI_1 cc) ?_
      refine V_putI (kx := 4) C d_NT_enterCommon_33 cf_NT (by decide) k_NT_28 (nn hO.n3) rfl rfl rfl rfl ?_
      refine V_aload_n C d_NT_enterCommon_36 rfl ?_
      refine V_aload_n C d_NT_enterCommon_37 rfl ?_
      refine V_getI (kx := 2) C d_NT_enterCommon_38 cf_Na (by decide) k_NT_52 han rfl ?_
      refine V_eqi (y := ι 2 o9 n9 2) rfl ?_
      refine V_aload_n C d_NT_enterCommon_41 rfl ?_
      refine V_getI (kx := 3) C d_NT_enterCommon_42 cf_Na (by decide) k_NT_59 han rfl ?_
      refine V_eqi (y := ι 2 o9 n9 3) rfl ?_
      refine V_callV (as := [_, _]) C d_NT_enterCommon_45 (c_Me_widen hal) m_Me_widen cf_Me k_NT_70 hal ⟨by decide, by decide⟩ (Nat.le_of_ble_eq_true rfl) ⟨by decide, by decide⟩ rfl ?_
      rintro _ _ _ _ _ ⟨rfl, rfl, rfl, rfl, rfl⟩
      dsimp only [Option.toList, List.cons_append, List.nil_append]
      refine V_vret C hQ (by decide) (by decide) d_NT_enterCommon_48 rfl ?_
      first | exact ⟨rfl, rfl, rfl, Or.inr (Or.inl ⟨h4, h13, rfl, rfl⟩)⟩ | exact ⟨rfl, rfl, rfl, Or.inr (Or.inr ⟨h4, h13, rfl, rfl⟩)⟩
  · refine V_vret C hQ (by decide) (by decide) d_NT_enterCommon_7 rfl ?_
    exact ⟨rfl, rfl, rfl, Or.inl ⟨h4, rfl, rfl⟩⟩
def P13 (r _k : Nat) : Prop := r = 1 ∨ r = 3
theorem TB.cc {M ι : Io} {ρ : Ro} {ls : List Nat} {z : Nat} {kx : Nat → Nat} (h : TB M ι ρ ls z kx) : ι 3 0 0 4 = nI (cmL M ls).length := h.2.2.2.2.2.2.1
theorem TB.no {M ι : Io} {ρ : Ro} {ls : List Nat} {z : Nat} {kx : Nat → Nat} (h : TB M ι ρ ls z kx) {x : Int32} (hf : fnd ι x z = none) : ∀ k, k < z → ¬ ι 1 k 0 0 = x := fnd_n hf
theorem beg_e {ι : Io} {z : Nat} {x : Int32} : Eqx P13 ι (begI ι z x) := ((((((Eqx.rf.up (Or.inr rfl)).up (Or.inl rfl)).up (Or.inl rfl)).up (Or.inl rfl)).up (Or.inl rfl)).up (Or.inl rfl)).up (Or.inl rfl)
theorem wd_e {ι ι1 : Io} {k : Nat} {p q : Int32} (h : Eqx P13 ι ι1) : Eqx P13 ι (wdI ι1 k p q) := ((h.up (Or.inl rfl)).up (Or.inl rfl)).up (Or.inl rfl)
set_option maxHeartbeats 1000000 in
set_option maxRecDepth 10000 in
theorem c_NT_enter {ν : Nu} {ι : Io} {ρ : Ro} {ℓ : Lo} (hO : OS ν ρ) {M : Io} {ls : List Nat} {z9 o9 n9 : Nat} {kx : Nat → Nat} (hT : TB M ι ρ ls z9 kx) (hl : ls.length < 144) (hi : (12 * o9 + n9) ∉ ls) (ho : o9 < 12) (hn : n9 < 12) (hal : ν 2 o9 n9 ≠ none) (e0 : ι 2 o9 n9 0 = M 48 0 0 (12 * o9 + n9)) (e1 : ι 2 o9 n9 1 = M 49 0 0 (12 * o9 + n9)) (e2 : ι 2 o9 n9 2 = M 50 0 0 (12 * o9 + n9)) (e3 : ι 2 o9 n9 3 = M 51 0 0 (12 * o9 + n9)) (hb50 : M 50 0 0 (12 * o9 + n9) = nI (mn M 50 (12 * o9 + n9))) : Ct y_NT_enter (Cond.code y_NT_enter b_NT_enter 5 (some .boolean) :: tb_) { frames := 3, cells := 0, slots := 0, locals := 84 } [sR 3 0 0, sI (nI o9), sI (nI n9), sR 2 o9 n9] ν ι ρ ℓ (fun v ν1 ι1 ρ1 ℓ1 => ν = ν1 ∧ ℓ = ℓ1 ∧ Eqx P13 ι ι1 ∧ LFq ρ ρ1 ∧ ∃ b : Bool, some (sI (b2 (b = true))) = v ∧ (b = false → (M 49 0 0 (12 * o9 + n9) = 0 ∧ srt M ls (M 48 0 0 (12 * o9 + n9)) = 0) ∧ ι1 = ι) ∧ (b = true → ¬ (M 49 0 0 (12 * o9 + n9) = 0 ∧ srt M ls (M 48 0 0 (12 * o9 + n9)) = 0) ∧ ∃ z1 kx1, TB M ι1 ρ1 (ls ++ [(12 * o9 + n9)]) z1 kx1)) (noX) := by
  refine Ct.ofV (by decide) (Nat.le_of_ble_eq_true rfl) rfl ?_
  intro p l e s m args below meth c D B tW α0 Q C hQ
  have rest : ∀ (ι1 : Io) (zb k : Nat), TBi M ι1 ρ ls zb kx (M 48 0 0 (12 * o9 + n9)) k → k < 144 → Eqx P13 ι ι1 → (ι1 = ι ∨ ι1 1 k 0 1 = 3) → V p l e { frames := 3, cells := 0, slots := 0, locals := 84 } s m args below meth c D B α0 ν 5 Q 0 0 ν ι1 ρ ℓ 8 [(0, sR 3 0 0), (1, sI (nI o9)), (2, sI (nI n9)), (3, sR 2 o9 n9)] [sR 1 k 0] := by
    intro ι1 zb k hB hk144 heq hfr
    have hk9 : ν 1 k 0 ≠ none := nn (hO.me k hk144).1
    have hnum := hB.nu
    have hmg := hB.mg
    have eq2 : ∀ f, ι1 2 o9 n9 f = ι 2 o9 n9 f := fun f => heq 2 o9 n9 f (by unfold P13; omega)
    rw [← eq2] at e1 e2 e3
    refine V_astore (lv' := [(4, _), (0, _), (1, _), (2, _), (3, _)]) C d_NT_enter_8 (by decide) rfl ?_
    refine V_aload_n C d_NT_enter_10 rfl ?_
    refine V_getR (kx := 2) C d_NT_enter_11 cf_NT (by decide) k_NT_17 (nn hO.n3) rfl hO.r32 ?_
    refine V_iload_n C d_NT_enter_14 rfl ?_
    refine V_bipush (v := 12) C d_NT_enter_15 (by decide) ?_
    refine V_imul C d_NT_enter_17 ?_
    refine V_iload_n C d_NT_enter_18 rfl ?_
    refine V_iadd C d_NT_enter_19 ?_
    refine V_aload C d_NT_enter_20 rfl ?_
    refine V_aast C d_NT_enter_22 (by decide) (by decide) rfl cf_Me hO.n33 (by rw [show (12 : Int32) = nI 12 from rfl, pk_mul, nI_add, Nat.mul_comm]) (by omega) rfl hk9 ?_
    refine V_aload_n C d_NT_enter_23 rfl ?_
    refine V_getI (kx := 1) C d_NT_enter_24 cf_Na (by decide) k_NT_48 hal rfl ?_
    refine V_eqi (y := M 49 0 0 (12 * o9 + n9)) e1 ?_
    by_cases c27_0 : M 49 0 0 (12 * o9 + n9) = 0
    · rw [c27_0]
      refine V_tswI (tgt := 52) C d_NT_enter_27 (by decide) (by decide) rfl (by decide) ?_
      refine V_aload C d_NT_enter_52 rfl ?_
      refine V_getI (kx := 1) C d_NT_enter_54 cf_Me (by decide) k_NT_51 hk9 rfl ?_
      refine V_if_ne (tgt := 62) C d_NT_enter_57 (by decide) (fun h57 => ?_) (fun h57 => ?_)
      · refine V_aload C d_NT_enter_62 rfl ?_
        refine V_iconst (v := 0) C d_NT_enter_64 (by decide) ?_
        refine V_iload_n C d_NT_enter_65 rfl ?_
        refine V_aload_n C d_NT_enter_66 rfl ?_
        refine V_getI (kx := 2) C d_NT_enter_67 cf_Na (by decide) k_NT_52 hal rfl ?_
        refine V_eqi (y := nI (mn M 50 (12 * o9 + n9))) (e2.trans hb50) ?_
        refine V_callSN (as := [_, _]) C d_NT_enter_70 (c_OL_slotOf (a := o9) (b := mn M 50 (12 * o9 + n9))) m_OL_slotOf k_NT_55 ⟨by decide, by decide⟩ (Nat.le_of_ble_eq_true rfl) ⟨by decide, by decide⟩ rfl ?_
        rintro _ _ _ _ _ ⟨rfl, rfl, rfl, rfl, rfl⟩
        dsimp only [Option.toList, List.cons_append, List.nil_append]
        refine V_eqi (y := nI (rcI M (12 * o9 + n9))) (by rw [rc_n2 (by rw [c27_0]; decide), show (12 * o9 + n9) / 12 = o9 by omega]) ?_
        refine V_aload_n C d_NT_enter_73 rfl ?_
        refine V_getI (kx := 3) C d_NT_enter_74 cf_Na (by decide) k_NT_59 hal rfl ?_
        refine V_eqi (y := M 51 0 0 (12 * o9 + n9)) e3 ?_
        refine V_callV (as := [_, _, _]) C d_NT_enter_77 (c_Me_define hk9) m_Me_define cf_Me k_NT_62 hk9 ⟨by decide, by decide⟩ (Nat.le_of_ble_eq_true rfl) ⟨by decide, by decide⟩ rfl ?_
        rintro _ _ _ _ _ ⟨rfl, rfl, rfl, rfl, rfl⟩
        dsimp only [Option.toList, List.cons_append, List.nil_append]
        refine V_iconst (v := 1) C d_NT_enter_80 (by decide) ?_
        refine V_zret C hQ (by decide) (by decide) d_NT_enter_81 rfl rfl ?_
        refine ⟨rfl, rfl, ((heq.up (Or.inl rfl)).up (Or.inl rfl)).up (Or.inl rfl), LFq.rf.up (Or.inl rfl), true, rfl, (fun z => nomatch z), fun _ => ⟨fun z => h57 (by rw [hmg.1, hnum]; exact z.2), _, _, TBi.def hB hi c27_0 (Or.inl ⟨rfl, h57⟩)⟩⟩
      · refine V_iconst (v := 0) C d_NT_enter_60 (by decide) ?_
        refine V_zret C hQ (by decide) (by decide) d_NT_enter_61 rfl rfl ?_
        have hs0 : srt M ls (M 48 0 0 (12 * o9 + n9)) = 0 := by rw [← hnum, ← hmg.1]; exact h57
        have hio : ι1 = ι := hfr.resolve_right (fun z => by rw [z] at h57; exact absurd h57 (by decide))
        exact ⟨rfl, rfl, heq, LFq.rf.up (Or.inl rfl), false, rfl, fun _ => ⟨⟨c27_0, hs0⟩, hio⟩, (fun z => nomatch z)⟩
    by_cases c27_1 : M 49 0 0 (12 * o9 + n9) = 1
    · rw [c27_1]
      refine V_tswI (tgt := 82) C d_NT_enter_27 (by decide) (by decide) rfl (by decide) ?_
      refine V_aload C d_NT_enter_82 rfl ?_
      refine V_getI (kx := 1) C d_NT_enter_84 cf_Me (by decide) k_NT_51 hk9 rfl ?_
      refine V_iconst (v := 3) C d_NT_enter_87 (by decide) ?_
      refine V_icmp_ne (tgt := 109) C d_NT_enter_88 (by decide) (fun h88 => ?_) (fun h88 => ?_)
      · refine V_iconst (v := 1) C d_NT_enter_109 (by decide) ?_
        refine V_zret C hQ (by decide) (by decide) d_NT_enter_110 rfl rfl ?_
        have hz9 : ¬ (M 49 0 0 (12 * o9 + n9) = 0 ∧ srt M ls (M 48 0 0 (12 * o9 + n9)) = 0) := fun z => by rw [c27_1] at z; exact absurd z.1 (by decide)
        first
          | (have h7 : ¬ ι1 1 k 0 1 = 3 := h88
             exact ⟨rfl, rfl, heq, LFq.rf.up (Or.inl rfl), true, rfl, (fun z => nomatch z), fun _ => ⟨hz9, _, _, TBi.same hB hi (app_f (Or.inl (by rw [c27_1]; decide))) ((st1 rfl c27_1).2 (by rw [← hnum, ← hmg.1]; exact h7)).1 ((st1 rfl c27_1).2 (by rw [← hnum, ← hmg.1]; exact h7)).2 (fun _ => by rw [c27_1]; decide)⟩⟩)
          | (have h7 : ι1 1 k 0 1 = 3 := h88
             exact ⟨rfl, rfl, ((heq.up (Or.inl rfl)).up (Or.inl rfl)).up (Or.inl rfl), LFq.rf.up (Or.inl rfl), true, rfl, (fun z => nomatch z), fun _ => ⟨hz9, _, _, TBi.def hB hi c27_1 (Or.inr ⟨rfl, h7⟩)⟩⟩)
      · refine V_aload C d_NT_enter_91 rfl ?_
        refine V_iconst (v := 1) C d_NT_enter_93 (by decide) ?_
        refine V_iload_n C d_NT_enter_94 rfl ?_
        refine V_aload_n C d_NT_enter_95 rfl ?_
        refine V_getI (kx := 2) C d_NT_enter_96 cf_Na (by decide) k_NT_52 hal rfl ?_
        refine V_eqi (y := nI (mn M 50 (12 * o9 + n9))) (e2.trans hb50) ?_
        refine V_callSN (as := [_, _]) C d_NT_enter_99 (c_OL_slotOf (a := o9) (b := mn M 50 (12 * o9 + n9))) m_OL_slotOf k_NT_55 ⟨by decide, by decide⟩ (Nat.le_of_ble_eq_true rfl) ⟨by decide, by decide⟩ rfl ?_
        rintro _ _ _ _ _ ⟨rfl, rfl, rfl, rfl, rfl⟩
        dsimp only [Option.toList, List.cons_append, List.nil_append]
        refine V_eqi (y := nI (rcI M (12 * o9 + n9))) (by rw [rc_n2 (by rw [c27_1]; decide), show (12 * o9 + n9) / 12 = o9 by omega]) ?_
        refine V_aload_n C d_NT_enter_102 rfl ?_
        refine V_getI (kx := 3) C d_NT_enter_103 cf_Na (by decide) k_NT_59 hal rfl ?_
        refine V_eqi (y := M 51 0 0 (12 * o9 + n9)) e3 ?_
        refine V_callV (as := [_, _, _]) C d_NT_enter_106 (c_Me_define hk9) m_Me_define cf_Me k_NT_62 hk9 ⟨by decide, by decide⟩ (Nat.le_of_ble_eq_true rfl) ⟨by decide, by decide⟩ rfl ?_
        rintro _ _ _ _ _ ⟨rfl, rfl, rfl, rfl, rfl⟩
        dsimp only [Option.toList, List.cons_append, List.nil_append]
        refine V_iconst (v := 1) C d_NT_enter_109 (by decide) ?_
        refine V_zret C hQ (by decide) (by decide) d_NT_enter_110 rfl rfl ?_
        have hz9 : ¬ (M 49 0 0 (12 * o9 + n9) = 0 ∧ srt M ls (M 48 0 0 (12 * o9 + n9)) = 0) := fun z => by rw [c27_1] at z; exact absurd z.1 (by decide)
        first
          | (have h7 : ¬ ι1 1 k 0 1 = 3 := h88
             exact ⟨rfl, rfl, heq, LFq.rf.up (Or.inl rfl), true, rfl, (fun z => nomatch z), fun _ => ⟨hz9, _, _, TBi.same hB hi (app_f (Or.inl (by rw [c27_1]; decide))) ((st1 rfl c27_1).2 (by rw [← hnum, ← hmg.1]; exact h7)).1 ((st1 rfl c27_1).2 (by rw [← hnum, ← hmg.1]; exact h7)).2 (fun _ => by rw [c27_1]; decide)⟩⟩)
          | (have h7 : ι1 1 k 0 1 = 3 := h88
             exact ⟨rfl, rfl, ((heq.up (Or.inl rfl)).up (Or.inl rfl)).up (Or.inl rfl), LFq.rf.up (Or.inl rfl), true, rfl, (fun z => nomatch z), fun _ => ⟨hz9, _, _, TBi.def hB hi c27_1 (Or.inr ⟨rfl, h7⟩)⟩⟩)
    by_cases c27_2 : M 49 0 0 (12 * o9 + n9) = 2
    · rw [c27_2]
      refine V_tswI (tgt := 111) C d_NT_enter_27 (by decide) (by decide) rfl (by decide) ?_
      refine V_aload_n C d_NT_enter_111 rfl ?_
      refine V_aload C d_NT_enter_112 rfl ?_
      refine V_aload_n C d_NT_enter_114 rfl ?_
      refine V_callV (as := [_, _]) C d_NT_enter_115 (c_NT_enterCommon (ρ := mtR ρ (12 * o9 + n9) k) hO hk9 hal hB.cc (by have := (cmL_sub (M := M) ls).2; omega)) m_NT_enterCommon cf_NT k_NT_66 (nn hO.n3) ⟨by decide, by decide⟩ (Nat.le_of_ble_eq_true rfl) ⟨by decide, by decide⟩ rfl ?_
      rintro _ _ ι2 ρ2 _ ⟨rfl, rfl, rfl, hec⟩
      dsimp only [Option.toList, List.cons_append, List.nil_append]
      refine V_iconst (v := 1) C d_NT_enter_118 (by decide) ?_
      refine V_zret C hQ (by decide) (by decide) d_NT_enter_119 rfl rfl ?_
      have hz9 : ¬ (M 49 0 0 (12 * o9 + n9) = 0 ∧ srt M ls (M 48 0 0 (12 * o9 + n9)) = 0) := fun z => by rw [c27_2] at z; exact absurd z.1 (by decide)
      rcases hec with ⟨g1, rfl, rfl⟩ | ⟨g1, g2, rfl, rfl⟩ | ⟨g1, g2, rfl, rfl⟩
      · have g3 : srt M ls (M 48 0 0 (12 * o9 + n9)) = 0 := by rw [← hnum, ← hmg.1]; exact g1
        exact ⟨rfl, rfl, heq, LFq.rf.up (Or.inl rfl), true, rfl, (fun z => nomatch z), fun _ => ⟨hz9, _, _, TBi.same hB hi (app_f (Or.inr (Or.inl g3))) (((st2 rfl c27_2).1 g3).1.trans g3.symm) ((st2 rfl c27_2).1 g3).2 (fun z => absurd g3 z)⟩⟩
      · rw [e2, e3]
        exact ⟨rfl, rfl, wd_e heq, LFq.rf.up (Or.inl rfl), true, rfl, (fun z => nomatch z), fun _ => ⟨hz9, _, _, TBi.wid hB hi c27_2 g1 (Or.inl ⟨g2, rfl, rfl⟩)⟩⟩
      · rw [e2, e3]
        exact ⟨rfl, rfl, wd_e (heq.up (Or.inr rfl)), (LFq.rf.up (Or.inl rfl)).up (Or.inr rfl), true, rfl, (fun z => nomatch z), fun _ => ⟨hz9, _, _, TBi.wid hB hi c27_2 g1 (Or.inr ⟨g2, rfl, rfl⟩)⟩⟩
    refine V_tswO (tgt := 120) C d_NT_enter_27 (tsw_out (lo := 0) 3 (by decide) (fun t ht => ?_)) (by decide) ?_
    · rcases (show t = 0 ∨ t = 1 ∨ t = 2 by omega) with rfl | rfl | rfl <;> assumption
    refine V_iconst (v := 1) C d_NT_enter_120 (by decide) ?_
    refine V_zret C hQ (by decide) (by decide) d_NT_enter_121 rfl rfl ?_
    have hz9 : ¬ (M 49 0 0 (12 * o9 + n9) = 0 ∧ srt M ls (M 48 0 0 (12 * o9 + n9)) = 0) := fun z => c27_0 z.1
    exact ⟨rfl, rfl, heq, LFq.rf.up (Or.inl rfl), true, rfl, (fun z => nomatch z), fun _ => ⟨hz9, _, _, TBi.same hB hi (app_f (Or.inl c27_2)) (st3 ⟨c27_0, c27_1, c27_2⟩).1 (st3 ⟨c27_0, c27_1, c27_2⟩).2 (fun _ => c27_2)⟩⟩
  cases hf : fnd ι (M 48 0 0 (12 * o9 + n9)) z9 with
  | none =>
      refine V_aload_n C d_NT_enter_0 rfl ?_
      refine V_aload_n C d_NT_enter_1 rfl ?_
      refine V_getI (kx := 0) C d_NT_enter_2 cf_Na (by decide) k_NT_42 hal rfl ?_
      refine V_eqi (y := M 48 0 0 (12 * o9 + n9)) e0 ?_
      refine V_callV (as := [_]) C d_NT_enter_5 (c_NT_findOrBegin_n hO hT.1 (by have := hT.2.1; omega) hf (by have := hT.2.1; omega)) m_NT_findOrBegin cf_NT k_NT_45 (nn hO.n3) ⟨by decide, by decide⟩ (Nat.le_of_ble_eq_true rfl) ⟨by decide, by decide⟩ rfl ?_
      rintro _ _ _ _ _ ⟨rfl, rfl, rfl, rfl, rfl⟩
      dsimp only [Option.toList, List.cons_append, List.nil_append]
      exact rest (begI ι z9 (M 48 0 0 (12 * o9 + n9))) (z9 + 1) z9 (hT.beg (hT.no hf)) (by have := hT.2.1; omega) beg_e (Or.inr (by simp (disch := omega) only [begI, up4_ne, up4_s]))
  | some k =>
      refine V_aload_n C d_NT_enter_0 rfl ?_
      refine V_aload_n C d_NT_enter_1 rfl ?_
      refine V_getI (kx := 0) C d_NT_enter_2 cf_Na (by decide) k_NT_42 hal rfl ?_
      refine V_eqi (y := M 48 0 0 (12 * o9 + n9)) e0 ?_
      refine V_callV (as := [_]) C d_NT_enter_5 (c_NT_findOrBegin_y hO hT.1 (by have := hT.2.1; omega) hf) m_NT_findOrBegin cf_NT k_NT_45 (nn hO.n3) ⟨by decide, by decide⟩ (Nat.le_of_ble_eq_true rfl) ⟨by decide, by decide⟩ rfl ?_
      rintro _ _ _ _ _ ⟨rfl, rfl, rfl, rfl, rfl⟩
      dsimp only [Option.toList, List.cons_append, List.nil_append]
      have hk := fnd_s hf
      exact rest ι z9 k (by rw [← hk.2.1]; exact hT.find hk.1) (by have := hT.2.1; omega) Eqx.rf (Or.inl rfl)
set_option maxHeartbeats 1000000 in
set_option maxRecDepth 10000 in
theorem c_Li_tell {ν : Nu} {ι : Io} {ρ : Ro} {ℓ : Lo} (hO : OS ν ρ) {x y v : Int32} : Ct y_Li_tell (Cond.code y_Li_tell b_Li_tell 4 (some .boolean) :: tb_) { frames := 0, cells := 0, slots := 0, locals := 0 } [sR 0 0 0, sI x, sI y, sI v] ν ι ρ ℓ (pEq (some (sI 0)) ν (up4 (up4 (up4 ι 0 0 0 15 x) 0 0 0 16 y) 0 0 0 17 v) ρ ℓ) (noX) := by
  refine Ct.ofV (by decide) (Nat.le_of_ble_eq_true rfl) rfl ?_
  intro p l e s m args below meth c D B tW α0 Q C hQ
  refine V_aload_n C d_Li_tell_0 rfl ?_
  refine V_iload_n C d_Li_tell_1 rfl ?_
  refine V_putI (kx := 15) C d_Li_tell_2 cf_Li (by decide) k_Li_125 (nn hO.n0) rfl rfl rfl rfl ?_
  refine V_aload_n C d_Li_tell_5 rfl ?_
  refine V_iload_n C d_Li_tell_6 rfl ?_
  refine V_putI (kx := 16) C d_Li_tell_7 cf_Li (by decide) k_Li_41 (nn hO.n0) rfl rfl rfl rfl ?_
  refine V_aload_n C d_Li_tell_10 rfl ?_
  refine V_iload_n C d_Li_tell_11 rfl ?_
  refine V_putI (kx := 17) C d_Li_tell_12 cf_Li (by decide) k_Li_45 (nn hO.n0) rfl rfl rfl rfl ?_
  refine V_iconst (v := 0) C d_Li_tell_15 (by decide) ?_
  refine V_zret C hQ (by decide) (by decide) d_Li_tell_16 rfl rfl ?_
  exact ⟨rfl, rfl, rfl, rfl, rfl⟩
set_option maxHeartbeats 1000000 in
set_option maxRecDepth 10000 in
theorem c_Li_dropImage {ν : Nu} {ι : Io} {ρ : Ro} {ℓ : Lo} (hO : OS ν ρ) : Ct y_Li_dropImage (Cond.code y_Li_dropImage b_Li_dropImage 1 none :: tb_) { frames := 0, cells := 0, slots := 0, locals := 0 } [sR 0 0 0] ν ι ρ ℓ (pEq none ν (up4 (up4 (up4 (up4 ι 0 0 0 11 0) 0 0 0 12 0) 0 0 0 13 0) 0 0 0 14 0) ρ ℓ) (noX) := by
  refine Ct.ofV (by decide) (Nat.le_of_ble_eq_true rfl) rfl ?_
  intro p l e s m args below meth c D B tW α0 Q C hQ
  refine V_aload_n C d_Li_dropImage_0 rfl ?_
  refine V_iconst (v := 0) C d_Li_dropImage_1 (by decide) ?_
  refine V_putI (kx := 11) C d_Li_dropImage_2 cf_Li (by decide) k_Li_113 (nn hO.n0) rfl rfl rfl rfl ?_
  refine V_aload_n C d_Li_dropImage_5 rfl ?_
  refine V_iconst (v := 0) C d_Li_dropImage_6 (by decide) ?_
  refine V_putI (kx := 12) C d_Li_dropImage_7 cf_Li (by decide) k_Li_116 (nn hO.n0) rfl rfl rfl rfl ?_
  refine V_aload_n C d_Li_dropImage_10 rfl ?_
  refine V_iconst (v := 0) C d_Li_dropImage_11 (by decide) ?_
  refine V_putI (kx := 13) C d_Li_dropImage_12 cf_Li (by decide) k_Li_119 (nn hO.n0) rfl rfl rfl rfl ?_
  refine V_aload_n C d_Li_dropImage_15 rfl ?_
  refine V_iconst (v := 0) C d_Li_dropImage_16 (by decide) ?_
  refine V_putI (kx := 14) C d_Li_dropImage_17 cf_Li (by decide) k_Li_122 (nn hO.n0) rfl rfl rfl rfl ?_
  refine V_vret C hQ (by decide) (by decide) d_Li_dropImage_20 rfl ?_
  exact ⟨rfl, rfl, rfl, rfl, rfl⟩
