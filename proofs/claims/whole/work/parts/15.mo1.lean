set_option maxHeartbeats 1000000 in
set_option maxRecDepth 10000 in
theorem c_Mo_within {ν : Nu} {ι : Io} {ρ : Ro} {ℓ : Lo} {v a b : Int32} : Ct y_Mo_within (Cond.code y_Mo_within b_Mo_within 3 (some .boolean) :: tb_) { frames := 0, cells := 0, slots := 0, locals := 0 } [sI v, sI a, sI b] ν ι ρ ℓ (pEq (some (sI (b2 (a ≤ v ∧ v ≤ b)))) ν ι ρ ℓ) (noX) := by
  refine Ct.ofV (by decide) (Nat.le_of_ble_eq_true rfl) rfl ?_
  intro p l e s m args below meth c D B tW α0 Q C hQ
  refine V_iload_n C d_Mo_within_0 rfl ?_
  refine V_iload_n C d_Mo_within_1 rfl ?_
  refine V_icmp_lt (tgt := 14) C d_Mo_within_2 (by decide) (fun h2 => ?_) (fun h2 => ?_)
  · refine V_iconst (v := 0) C d_Mo_within_14 (by decide) ?_
    refine V_zret C hQ (by decide) (by decide) d_Mo_within_15 rfl rfl ?_
    refine ⟨congrArg (fun z => some (sI z)) ?_, rfl, rfl, rfl, rfl⟩
    clear hQ C; unfold b2 at *; grind
  · refine V_iload_n C d_Mo_within_5 rfl ?_
    refine V_iload_n C d_Mo_within_6 rfl ?_
    refine V_icmp_gt (tgt := 14) C d_Mo_within_7 (by decide) (fun h7 => ?_) (fun h7 => ?_)
    · refine V_iconst (v := 0) C d_Mo_within_14 (by decide) ?_
      refine V_zret C hQ (by decide) (by decide) d_Mo_within_15 rfl rfl ?_
      refine ⟨congrArg (fun z => some (sI z)) ?_, rfl, rfl, rfl, rfl⟩
      clear hQ C; unfold b2 at *; grind
    · refine V_iconst (v := 1) C d_Mo_within_10 (by decide) ?_
      refine V_goto (tgt := 15) C d_Mo_within_11 (by decide) ?_
      refine V_zret C hQ (by decide) (by decide) d_Mo_within_15 rfl rfl ?_
      refine ⟨congrArg (fun z => some (sI z)) ?_, rfl, rfl, rfl, rfl⟩
      clear hQ C; unfold b2 at *; grind
set_option maxHeartbeats 1000000 in
set_option maxRecDepth 10000 in
theorem c_Mo_thrown {ν : Nu} {ι : Io} {ρ : Ro} {ℓ : Lo} (hM : MoS ν ρ) : Ct y_Mo_thrown (Cond.code y_Mo_thrown b_Mo_thrown 1 (some .int) :: tb_) { frames := 0, cells := 0, slots := 0, locals := 0 } [sR 10 0 0] ν ι ρ ℓ (pEq (some (sI (ι 10 0 0 0))) ν ι ρ ℓ) (noX) := by
  refine Ct.ofV (by decide) (Nat.le_of_ble_eq_true rfl) rfl ?_
  intro p l e s m args below meth c D B tW α0 Q C hQ
  refine V_aload_n C d_Mo_thrown_0 rfl ?_
  refine V_getI (kx := 0) C d_Mo_thrown_1 cf_Mo (by decide) k_Mo_93 hM.al rfl ?_
  refine V_iret C hQ (by decide) (by decide) d_Mo_thrown_4 rfl ?_
  exact ⟨rfl, rfl, rfl, rfl, rfl⟩
set_option maxHeartbeats 1000000 in
set_option maxRecDepth 10000 in
theorem c_Mo_fail {ν : Nu} {ι : Io} {ρ : Ro} {ℓ : Lo} (hM : MoS ν ρ) {x : Int32} : Ct y_Mo_fail (Cond.code y_Mo_fail b_Mo_fail 2 (some .int) :: tb_) { frames := 0, cells := 0, slots := 0, locals := 0 } [sR 10 0 0, sI x] ν ι ρ ℓ (pEq (some (sI 0)) ν (up4 ι 10 0 0 0 x) ρ ℓ) (noX) := by
  refine Ct.ofV (by decide) (Nat.le_of_ble_eq_true rfl) rfl ?_
  intro p l e s m args below meth c D B tW α0 Q C hQ
  refine V_aload_n C d_Mo_fail_0 rfl ?_
  refine V_iload_n C d_Mo_fail_1 rfl ?_
  refine V_putI (kx := 0) C d_Mo_fail_2 cf_Mo (by decide) k_Mo_93 hM.al rfl rfl rfl rfl ?_
  refine V_iconst (v := 0) C d_Mo_fail_5 (by decide) ?_
  refine V_iret C hQ (by decide) (by decide) d_Mo_fail_6 rfl ?_
  exact ⟨rfl, rfl, rfl, rfl, rfl⟩
set_option maxHeartbeats 1000000 in
set_option maxRecDepth 10000 in
theorem c_Mo_isSection {ν : Nu} {ι : Io} {ρ : Ro} {ℓ : Lo} {k q n : Int32} : Ct y_Mo_isSection (Cond.code y_Mo_isSection b_Mo_isSection 3 (some .boolean) :: tb_) { frames := 1, cells := 0, slots := 0, locals := 22 } [sI k, sI q, sI n] ν ι ρ ℓ (pEq (some (sI (b2 ((0 ≤ k ∧ k ≤ 3) ∧ (0 ≤ q ∧ q ≤ 6) ∧ (0 ≤ n ∧ n ≤ 128))))) ν ι ρ ℓ) (noX) := by
  refine Ct.ofV (by decide) (Nat.le_of_ble_eq_true rfl) rfl ?_
  intro p l e s m args below meth c D B tW α0 Q C hQ
  refine V_iload_n C d_Mo_isSection_0 rfl ?_
  refine V_iconst (v := 0) C d_Mo_isSection_1 (by decide) ?_
  refine V_iconst (v := 3) C d_Mo_isSection_2 (by decide) ?_
  refine V_callS (as := [_, _, _]) C d_Mo_isSection_3 c_Mo_within m_Mo_within k_Mo_99 ⟨by decide, by decide⟩ (Nat.le_of_ble_eq_true rfl) ⟨by decide, by decide⟩ rfl ?_
  rintro _ _ _ _ _ ⟨rfl, rfl, rfl, rfl, rfl⟩
  dsimp only [Option.toList, List.cons_append, List.nil_append]
  refine V_if_eq (tgt := 34) C d_Mo_isSection_6 (by decide) (fun h6 => ?_) (fun h6 => ?_)
  · refine V_iconst (v := 0) C d_Mo_isSection_34 (by decide) ?_
    refine V_zret C hQ (by decide) (by decide) d_Mo_isSection_35 rfl rfl ?_
    refine ⟨congrArg (fun z => some (sI z)) ?_, rfl, rfl, rfl, rfl⟩
    clear hQ C; unfold b2 at *; grind
  · refine V_iload_n C d_Mo_isSection_9 rfl ?_
    refine V_iconst (v := 0) C d_Mo_isSection_10 (by decide) ?_
    refine V_bipush (v := 6) C d_Mo_isSection_11 (by decide) ?_
    refine V_callS (as := [_, _, _]) C d_Mo_isSection_13 c_Mo_within m_Mo_within k_Mo_99 ⟨by decide, by decide⟩ (Nat.le_of_ble_eq_true rfl) ⟨by decide, by decide⟩ rfl ?_
    rintro _ _ _ _ _ ⟨rfl, rfl, rfl, rfl, rfl⟩
    dsimp only [Option.toList, List.cons_append, List.nil_append]
    refine V_if_eq (tgt := 34) C d_Mo_isSection_16 (by decide) (fun h16 => ?_) (fun h16 => ?_)
    · refine V_iconst (v := 0) C d_Mo_isSection_34 (by decide) ?_
      refine V_zret C hQ (by decide) (by decide) d_Mo_isSection_35 rfl rfl ?_
      refine ⟨congrArg (fun z => some (sI z)) ?_, rfl, rfl, rfl, rfl⟩
      clear hQ C; unfold b2 at *; grind
    · refine V_iload_n C d_Mo_isSection_19 rfl ?_
      refine V_iconst (v := 0) C d_Mo_isSection_20 (by decide) ?_
      refine V_sipush (v := 128) C d_Mo_isSection_21 (by decide) ?_
      refine V_callS (as := [_, _, _]) C d_Mo_isSection_24 c_Mo_within m_Mo_within k_Mo_99 ⟨by decide, by decide⟩ (Nat.le_of_ble_eq_true rfl) ⟨by decide, by decide⟩ rfl ?_
      rintro _ _ _ _ _ ⟨rfl, rfl, rfl, rfl, rfl⟩
      dsimp only [Option.toList, List.cons_append, List.nil_append]
      refine V_if_eq (tgt := 34) C d_Mo_isSection_27 (by decide) (fun h27 => ?_) (fun h27 => ?_)
      · refine V_iconst (v := 0) C d_Mo_isSection_34 (by decide) ?_
        refine V_zret C hQ (by decide) (by decide) d_Mo_isSection_35 rfl rfl ?_
        refine ⟨congrArg (fun z => some (sI z)) ?_, rfl, rfl, rfl, rfl⟩
        clear hQ C; unfold b2 at *; grind
      · refine V_iconst (v := 1) C d_Mo_isSection_30 (by decide) ?_
        refine V_goto (tgt := 35) C d_Mo_isSection_31 (by decide) ?_
        refine V_zret C hQ (by decide) (by decide) d_Mo_isSection_35 rfl rfl ?_
        refine ⟨congrArg (fun z => some (sI z)) ?_, rfl, rfl, rfl, rfl⟩
        clear hQ C; unfold b2 at *; grind
