set_option maxHeartbeats 1000000 in
set_option maxRecDepth 10000 in
theorem c_Oc_put {ν : Nu} {ι : Io} {ρ : Ro} {ℓ : Lo} (hO : OS ν ρ) {lw : List Int32} {w : Nat} (hw : w ≤ 4) (hn : lw.length + w ≤ 1303) {v : Int32} : Ct y_Oc_put (Cond.code y_Oc_put b_Oc_put 4 none :: tb_) { frames := 0, cells := 0, slots := 0, locals := 0 } [sR 4 0 0, sI v, sI (nI w)] ν (wrC ι lw) ρ ℓ (pEq none ν (wrC ι (lw ++ bys v w)) ρ ℓ) (noX) := by
  refine Ct.ofV (by decide) (Nat.le_of_ble_eq_true rfl) rfl ?_
  intro p l e s m args below meth c D B tW α0 Q C hQ
  have loop : ∀ (f : Nat) (j : Nat), w - j < f → (j ≤ w) → V p l e { frames := 0, cells := 0, slots := 0, locals := 0 } s m args below meth c D B α0 ν 4 Q 0 0 ν (wrC ι (lw ++ (List.range j).map (byA v w))) ρ ℓ 4 [(3, sI (nI (w - j) - 1)), (0, sR 4 0 0), (1, sI v), (2, sI (nI w))] [] := by
    intro f
    induction f with
    | zero => intros; omega
    | succ f ih =>
      intro j hf hj
      refine V_iload_n C d_Oc_put_4 rfl ?_
      refine V_if_lt (tgt := 55) C d_Oc_put_5 (by decide) (fun h5 => ?_) (fun h5 => ?_)
      · have hj9 : j = w := by have := (pd_neg (by omega)).mp h5; omega
        subst hj9
        refine V_vret C hQ (by decide) (by decide) d_Oc_put_55 rfl ?_
        exact ⟨rfl, rfl, rfl, rfl, rfl⟩
      · have hj9 : j < w := by
          rcases Nat.lt_or_ge j w with z | z
          · exact z
          · exact absurd ((pd_neg (by omega)).mpr (by omega)) h5
        refine V_aload_n C d_Oc_put_8 rfl ?_
        refine V_getI (kx := 1) C d_Oc_put_9 cf_Oc (by decide) k_Oc_15 (nn hO.n4) rfl ?_
        refine V_eqi (y := nI (lw.length + j)) (wrC_len.trans (congrArg nI lenj)) ?_
        refine V_aload_n C d_Oc_put_12 rfl ?_
        refine V_getR (kx := 0) C d_Oc_put_13 cf_Oc (by decide) k_Oc_9 (nn hO.n4) rfl hO.r40 ?_
        refine V_alen (ti := 0) C d_Oc_put_16 (by decide) (by decide) hO.n25 rfl ?_
        refine V_icmp_ge (tgt := 55) C d_Oc_put_17 (by decide) (fun h17 => absurd ((nI_leI (a := 1303) (b := lw.length + j) (by omega) (by omega)).mp h17) (by omega)) (fun h17 => ?_)
        refine V_aload_n C d_Oc_put_20 rfl ?_
        refine V_getR (kx := 0) C d_Oc_put_21 cf_Oc (by decide) k_Oc_9 (nn hO.n4) rfl hO.r40 ?_
        refine V_aload_n C d_Oc_put_24 rfl ?_
        refine V_getI (kx := 1) C d_Oc_put_25 cf_Oc (by decide) k_Oc_15 (nn hO.n4) rfl ?_
        refine V_eqi (y := nI (lw.length + j)) (wrC_len.trans (congrArg nI lenj)) ?_
        refine V_iload_n C d_Oc_put_28 rfl ?_
        refine V_bipush (v := 8) C d_Oc_put_29 (by decide) ?_
        refine V_iload_n C d_Oc_put_31 rfl ?_
        refine V_imul C d_Oc_put_32 ?_
        refine V_iushr C d_Oc_put_33 ?_
        refine V_sipush (v := 255) C d_Oc_put_34 (by decide) ?_
        refine V_iand C d_Oc_put_37 ?_
        refine V_eqi (y := byA v w j) (by rw [pd_eq (show 0 < w - j by omega), show w - j - 1 = w - 1 - j by omega]; exact ush_by (by omega)) ?_
        refine V_iast C d_Oc_put_38 (by decide) rfl hO.n25 rfl (by omega) rfl ?_
        refine V_aload_n C d_Oc_put_39 rfl ?_
        refine V_dup C d_Oc_put_40 rfl ?_
        refine V_getI (kx := 1) C d_Oc_put_41 cf_Oc (by decide) k_Oc_15 (nn hO.n4) rfl ?_
        refine V_eqi (y := nI (lw.length + j)) ((up4_ne (by omega)).trans (wrC_len.trans (congrArg nI lenj))) ?_
        refine V_iconst (v := 1) C d_Oc_put_44 (by decide) ?_
        refine V_iadd C d_Oc_put_45 ?_
        refine V_eqi (y := nI (lw.length + j + 1)) (nI_1 _) ?_
        refine V_putI (kx := 1) C d_Oc_put_46 cf_Oc (by decide) k_Oc_15 (nn hO.n4) rfl rfl rfl rfl ?_
        refine V_iinc (v := nI (w - (j + 1)) - 1) (lv' := [(3, _), (0, _), (1, _), (2, _)]) C d_Oc_put_49 rfl ((dec1 (by omega)).trans (by rw [show w - j - 1 = w - (j + 1) by omega])) (by decide) rfl ?_
        refine V_goto (tgt := 4) C d_Oc_put_52 (by decide) ?_
        refine V_pick [0, 1, 2, 3] rfl ?_
        refine V_io (show _ = wrC ι (lw ++ (List.range (j + 1)).map (byA v w)) from by rw [← bys_s, ← wrC_s, lenj]) ?_
        exact ih (j + 1) (by omega) (by omega)
  refine V_iload_n C d_Oc_put_0 rfl ?_
  refine V_iconst (v := 1) C d_Oc_put_1 (by decide) ?_
  refine V_isub C d_Oc_put_2 ?_
  refine V_istore_n (lv' := [(3, _), (0, _), (1, _), (2, _)]) C d_Oc_put_3 (by decide) rfl ?_
  refine V_pick [0, 1, 2, 3] rfl ?_
  refine V_io (show wrC ι lw = wrC ι (lw ++ (List.range 0).map (byA v w)) by simp) ?_
  exact loop (w + 1) 0 (by omega) (by omega)
set_option maxHeartbeats 1000000 in
set_option maxRecDepth 10000 in
theorem c_Oc_putSection {ν : Nu} {ι : Io} {ρ : Ro} {ℓ : Lo} (hO : OS ν ρ) {lw : List Int32} {o s9 n8 : Nat} (hS : SeS ν ι ρ o s9) (hn24 : ν 24 o s9 = some n8) (h128 : n8 ≤ 128) (hn : lw.length + (sec4 ι o s9).length + n8 ≤ 1303) : Ct y_Oc_putSection (Cond.code y_Oc_putSection b_Oc_putSection 3 none :: tb_) { frames := 1, cells := 0, slots := 0, locals := 23 } [sR 4 0 0, sR 7 o s9] ν (wrC ι lw) ρ ℓ (pEq none ν (wrC ι (lw ++ (sec4 ι o s9 ++ datC ι o s9 n8))) ρ ℓ) (noX) := by
  refine Ct.ofV (by decide) (Nat.le_of_ble_eq_true rfl) rfl ?_
  intro p l e s m args below meth c D B tW α0 Q C hQ
  have h4 : (sec4 ι o s9).length = 4 := by simp only [sec4, List.length_append, bys_len]
  have loop : ∀ (f : Nat) (i : Nat), n8 - i < f → (i ≤ n8) → V p l e { frames := 1, cells := 0, slots := 0, locals := 23 } s m args below meth c D B α0 ν 3 Q 0 0 ν (wrC ι (lw ++ sec4 ι o s9 ++ datC ι o s9 i)) ρ ℓ 29 [(2, sI (nI i)), (0, sR 4 0 0), (1, sR 7 o s9)] [] := by
    intro f
    induction f with
    | zero => intros; omega
    | succ f ih =>
      intro i hf hi0
      refine V_iload_n C d_Oc_putSection_29 rfl ?_
      refine V_aload_n C d_Oc_putSection_30 rfl ?_
      refine V_getR (kx := 3) C d_Oc_putSection_31 cf_Se (by decide) k_Oc_71 (nn hS.1) rfl hS.2.2.1 ?_
      refine V_alen (ti := 0) C d_Oc_putSection_34 (by decide) (by decide) hn24 rfl ?_
      refine V_icmp_ge (tgt := 55) C d_Oc_putSection_35 (by decide) (fun h35 => ?_) (fun h35 => ?_)
      · have hi : i = n8 := by have := (nI_leI (a := n8) (b := i) (by omega) (by omega)).mp h35; omega
        subst hi
        refine V_vret C hQ (by decide) (by decide) d_Oc_putSection_55 rfl ?_
        exact ⟨rfl, rfl, wrC_x (by rw [List.append_assoc]), rfl, rfl⟩
      · have hi : i < n8 := Nat.lt_of_not_le fun z => h35 ((nI_leI (by omega) (by omega)).mpr z)
        refine V_aload_n C d_Oc_putSection_38 rfl ?_
        refine V_aload_n C d_Oc_putSection_39 rfl ?_
        refine V_getR (kx := 3) C d_Oc_putSection_40 cf_Se (by decide) k_Oc_71 (nn hS.1) rfl hS.2.2.1 ?_
        refine V_iload_n C d_Oc_putSection_43 rfl ?_
        refine V_iald C d_Oc_putSection_44 (by decide) rfl hn24 rfl hi rfl ?_
        refine V_eqi (y := ι 24 o s9 i) rfl ?_
        refine V_iconst (v := 1) C d_Oc_putSection_45 (by decide) ?_
        refine V_callV (as := [_, _]) C d_Oc_putSection_46 (c_Oc_put hO (lw := (lw ++ sec4 ι o s9 ++ datC ι o s9 i)) (w := 1) (by omega) (by simp only [List.length_append, datC_len]; omega)) m_Oc_put cf_Oc k_Oc_19 (nn hO.n4) ⟨by decide, by decide⟩ (Nat.le_of_ble_eq_true rfl) ⟨by decide, by decide⟩ rfl ?_
        rintro _ _ _ _ _ ⟨rfl, rfl, rfl, rfl, rfl⟩
        dsimp only [Option.toList, List.cons_append, List.nil_append]
        refine V_iinc (v := nI (i + 1)) (lv' := [(2, _), (0, _), (1, _)]) C d_Oc_putSection_49 rfl (nI_1 i) (by decide) rfl ?_
        refine V_goto (tgt := 29) C d_Oc_putSection_52 (by decide) ?_
        refine V_pick [0, 1, 2] rfl ?_
        refine V_io (wrC_x (show _ = lw ++ sec4 ι o s9 ++ datC ι o s9 (i + 1) by rw [datC_s, List.append_assoc])) ?_
        exact ih (i + 1) (by omega) (by omega)
  refine V_aload_n C d_Oc_putSection_0 rfl ?_
  refine V_aload_n C d_Oc_putSection_1 rfl ?_
  refine V_getI (kx := 0) C d_Oc_putSection_2 cf_Se (by decide) k_Oc_62 (nn hS.1) rfl ?_
  refine V_eqi (y := ι 7 o s9 0) rfl ?_
  refine V_iconst (v := 1) C d_Oc_putSection_5 (by decide) ?_
  refine V_callV (as := [_, _]) C d_Oc_putSection_6 (c_Oc_put hO (w := 1) (by omega) (by (try simp only [List.length_append, bys_len, datC_len, List.length_nil]); omega)) m_Oc_put cf_Oc k_Oc_19 (nn hO.n4) ⟨by decide, by decide⟩ (Nat.le_of_ble_eq_true rfl) ⟨by decide, by decide⟩ rfl ?_
  rintro _ _ _ _ _ ⟨rfl, rfl, rfl, rfl, rfl⟩
  dsimp only [Option.toList, List.cons_append, List.nil_append]
  refine V_aload_n C d_Oc_putSection_9 rfl ?_
  refine V_aload_n C d_Oc_putSection_10 rfl ?_
  refine V_getI (kx := 1) C d_Oc_putSection_11 cf_Se (by decide) k_Oc_67 (nn hS.1) rfl ?_
  refine V_eqi (y := ι 7 o s9 1) rfl ?_
  refine V_iconst (v := 1) C d_Oc_putSection_14 (by decide) ?_
  refine V_callV (as := [_, _]) C d_Oc_putSection_15 (c_Oc_put hO (w := 1) (by omega) (by (try simp only [List.length_append, bys_len, datC_len, List.length_nil]); omega)) m_Oc_put cf_Oc k_Oc_19 (nn hO.n4) ⟨by decide, by decide⟩ (Nat.le_of_ble_eq_true rfl) ⟨by decide, by decide⟩ rfl ?_
  rintro _ _ _ _ _ ⟨rfl, rfl, rfl, rfl, rfl⟩
  dsimp only [Option.toList, List.cons_append, List.nil_append]
  refine V_aload_n C d_Oc_putSection_18 rfl ?_
  refine V_aload_n C d_Oc_putSection_19 rfl ?_
  refine V_getI (kx := 2) C d_Oc_putSection_20 cf_Se (by decide) k_Oc_70 (nn hS.1) rfl ?_
  refine V_eqi (y := ι 7 o s9 2) rfl ?_
  refine V_iconst (v := 2) C d_Oc_putSection_23 (by decide) ?_
  refine V_callV (as := [_, _]) C d_Oc_putSection_24 (c_Oc_put hO (w := 2) (by omega) (by (try simp only [List.length_append, bys_len, datC_len, List.length_nil]); omega)) m_Oc_put cf_Oc k_Oc_19 (nn hO.n4) ⟨by decide, by decide⟩ (Nat.le_of_ble_eq_true rfl) ⟨by decide, by decide⟩ rfl ?_
  rintro _ _ _ _ _ ⟨rfl, rfl, rfl, rfl, rfl⟩
  dsimp only [Option.toList, List.cons_append, List.nil_append]
  refine V_iconst (v := 0) C d_Oc_putSection_27 (by decide) ?_
  refine V_istore_n (lv' := [(2, _), (0, _), (1, _)]) C d_Oc_putSection_28 (by decide) rfl ?_
  refine V_pick [0, 1, 2] rfl ?_
  refine V_io (wrC_x (show _ = lw ++ sec4 ι o s9 ++ datC ι o s9 0 by simp [sec4, datC])) ?_
  exact loop (n8 + 1) 0 (by omega) (by omega)
set_option maxHeartbeats 1000000 in
set_option maxRecDepth 10000 in
theorem c_Oc_putName {ν : Nu} {ι : Io} {ρ : Ro} {ℓ : Lo} (hO : OS ν ρ) {lw : List Int32} {o i9 : Nat} (hal : ν 2 o i9 ≠ none) (hn : lw.length + 8 ≤ 1303) : Ct y_Oc_putName (Cond.code y_Oc_putName b_Oc_putName 2 none :: tb_) { frames := 1, cells := 0, slots := 0, locals := 23 } [sR 4 0 0, sR 2 o i9] ν (wrC ι lw) ρ ℓ (pEq none ν (wrC ι (lw ++ namC ι o i9)) ρ ℓ) (noX) := by
  refine Ct.ofV (by decide) (Nat.le_of_ble_eq_true rfl) rfl ?_
  intro p l e s m args below meth c D B tW α0 Q C hQ
  refine V_aload_n C d_Oc_putName_0 rfl ?_
  refine V_aload_n C d_Oc_putName_1 rfl ?_
  refine V_getI (kx := 0) C d_Oc_putName_2 cf_Na (by decide) k_Oc_74 hal rfl ?_
  refine V_eqi (y := ι 2 o i9 0) rfl ?_
  refine V_iconst (v := 4) C d_Oc_putName_5 (by decide) ?_
  refine V_callV (as := [_, _]) C d_Oc_putName_6 (c_Oc_put hO (w := 4) (by omega) (by (try simp only [List.length_append, bys_len, datC_len, List.length_nil]); omega)) m_Oc_put cf_Oc k_Oc_19 (nn hO.n4) ⟨by decide, by decide⟩ (Nat.le_of_ble_eq_true rfl) ⟨by decide, by decide⟩ rfl ?_
  rintro _ _ _ _ _ ⟨rfl, rfl, rfl, rfl, rfl⟩
  dsimp only [Option.toList, List.cons_append, List.nil_append]
  refine V_aload_n C d_Oc_putName_9 rfl ?_
  refine V_aload_n C d_Oc_putName_10 rfl ?_
  refine V_getI (kx := 1) C d_Oc_putName_11 cf_Na (by decide) k_Oc_79 hal rfl ?_
  refine V_eqi (y := ι 2 o i9 1) rfl ?_
  refine V_iconst (v := 1) C d_Oc_putName_14 (by decide) ?_
  refine V_callV (as := [_, _]) C d_Oc_putName_15 (c_Oc_put hO (w := 1) (by omega) (by (try simp only [List.length_append, bys_len, datC_len, List.length_nil]); omega)) m_Oc_put cf_Oc k_Oc_19 (nn hO.n4) ⟨by decide, by decide⟩ (Nat.le_of_ble_eq_true rfl) ⟨by decide, by decide⟩ rfl ?_
  rintro _ _ _ _ _ ⟨rfl, rfl, rfl, rfl, rfl⟩
  dsimp only [Option.toList, List.cons_append, List.nil_append]
  refine V_aload_n C d_Oc_putName_18 rfl ?_
  refine V_aload_n C d_Oc_putName_19 rfl ?_
  refine V_getI (kx := 2) C d_Oc_putName_20 cf_Na (by decide) k_Oc_82 hal rfl ?_
  refine V_eqi (y := ι 2 o i9 2) rfl ?_
  refine V_iconst (v := 1) C d_Oc_putName_23 (by decide) ?_
  refine V_callV (as := [_, _]) C d_Oc_putName_24 (c_Oc_put hO (w := 1) (by omega) (by (try simp only [List.length_append, bys_len, datC_len, List.length_nil]); omega)) m_Oc_put cf_Oc k_Oc_19 (nn hO.n4) ⟨by decide, by decide⟩ (Nat.le_of_ble_eq_true rfl) ⟨by decide, by decide⟩ rfl ?_
  rintro _ _ _ _ _ ⟨rfl, rfl, rfl, rfl, rfl⟩
  dsimp only [Option.toList, List.cons_append, List.nil_append]
  refine V_aload_n C d_Oc_putName_27 rfl ?_
  refine V_aload_n C d_Oc_putName_28 rfl ?_
  refine V_getI (kx := 3) C d_Oc_putName_29 cf_Na (by decide) k_Oc_85 hal rfl ?_
  refine V_eqi (y := ι 2 o i9 3) rfl ?_
  refine V_iconst (v := 2) C d_Oc_putName_32 (by decide) ?_
  refine V_callV (as := [_, _]) C d_Oc_putName_33 (c_Oc_put hO (w := 2) (by omega) (by (try simp only [List.length_append, bys_len, datC_len, List.length_nil]); omega)) m_Oc_put cf_Oc k_Oc_19 (nn hO.n4) ⟨by decide, by decide⟩ (Nat.le_of_ble_eq_true rfl) ⟨by decide, by decide⟩ rfl ?_
  rintro _ _ _ _ _ ⟨rfl, rfl, rfl, rfl, rfl⟩
  dsimp only [Option.toList, List.cons_append, List.nil_append]
  refine V_vret C hQ (by decide) (by decide) d_Oc_putName_36 rfl ?_
  exact ⟨rfl, rfl, wrC_x (by simp only [namC, List.append_assoc]), rfl, rfl⟩
set_option maxHeartbeats 1000000 in
set_option maxRecDepth 10000 in
theorem c_Oc_putReference {ν : Nu} {ι : Io} {ρ : Ro} {ℓ : Lo} (hO : OS ν ρ) {lw : List Int32} {o i9 : Nat} (hal : ν 6 o i9 ≠ none) (hn : lw.length + 9 ≤ 1303) : Ct y_Oc_putReference (Cond.code y_Oc_putReference b_Oc_putReference 2 none :: tb_) { frames := 1, cells := 0, slots := 0, locals := 23 } [sR 4 0 0, sR 6 o i9] ν (wrC ι lw) ρ ℓ (pEq none ν (wrC ι (lw ++ refC ι o i9)) ρ ℓ) (noX) := by
  refine Ct.ofV (by decide) (Nat.le_of_ble_eq_true rfl) rfl ?_
  intro p l e s m args below meth c D B tW α0 Q C hQ
  refine V_aload_n C d_Oc_putReference_0 rfl ?_
  refine V_aload_n C d_Oc_putReference_1 rfl ?_
  refine V_getI (kx := 0) C d_Oc_putReference_2 cf_Rf (by decide) k_Oc_88 hal rfl ?_
  refine V_eqi (y := ι 6 o i9 0) rfl ?_
  refine V_iconst (v := 1) C d_Oc_putReference_5 (by decide) ?_
  refine V_callV (as := [_, _]) C d_Oc_putReference_6 (c_Oc_put hO (w := 1) (by omega) (by (try simp only [List.length_append, bys_len, datC_len, List.length_nil]); omega)) m_Oc_put cf_Oc k_Oc_19 (nn hO.n4) ⟨by decide, by decide⟩ (Nat.le_of_ble_eq_true rfl) ⟨by decide, by decide⟩ rfl ?_
  rintro _ _ _ _ _ ⟨rfl, rfl, rfl, rfl, rfl⟩
  dsimp only [Option.toList, List.cons_append, List.nil_append]
  refine V_aload_n C d_Oc_putReference_9 rfl ?_
  refine V_aload_n C d_Oc_putReference_10 rfl ?_
  refine V_getI (kx := 1) C d_Oc_putReference_11 cf_Rf (by decide) k_Oc_91 hal rfl ?_
  refine V_eqi (y := ι 6 o i9 1) rfl ?_
  refine V_iconst (v := 2) C d_Oc_putReference_14 (by decide) ?_
  refine V_callV (as := [_, _]) C d_Oc_putReference_15 (c_Oc_put hO (w := 2) (by omega) (by (try simp only [List.length_append, bys_len, datC_len, List.length_nil]); omega)) m_Oc_put cf_Oc k_Oc_19 (nn hO.n4) ⟨by decide, by decide⟩ (Nat.le_of_ble_eq_true rfl) ⟨by decide, by decide⟩ rfl ?_
  rintro _ _ _ _ _ ⟨rfl, rfl, rfl, rfl, rfl⟩
  dsimp only [Option.toList, List.cons_append, List.nil_append]
  refine V_aload_n C d_Oc_putReference_18 rfl ?_
  refine V_aload_n C d_Oc_putReference_19 rfl ?_
  refine V_getI (kx := 2) C d_Oc_putReference_20 cf_Rf (by decide) k_Oc_92 hal rfl ?_
  refine V_eqi (y := ι 6 o i9 2) rfl ?_
  refine V_iconst (v := 1) C d_Oc_putReference_23 (by decide) ?_
  refine V_callV (as := [_, _]) C d_Oc_putReference_24 (c_Oc_put hO (w := 1) (by omega) (by (try simp only [List.length_append, bys_len, datC_len, List.length_nil]); omega)) m_Oc_put cf_Oc k_Oc_19 (nn hO.n4) ⟨by decide, by decide⟩ (Nat.le_of_ble_eq_true rfl) ⟨by decide, by decide⟩ rfl ?_
  rintro _ _ _ _ _ ⟨rfl, rfl, rfl, rfl, rfl⟩
  dsimp only [Option.toList, List.cons_append, List.nil_append]
  refine V_aload_n C d_Oc_putReference_27 rfl ?_
  refine V_aload_n C d_Oc_putReference_28 rfl ?_
  refine V_getI (kx := 3) C d_Oc_putReference_29 cf_Rf (by decide) k_Oc_95 hal rfl ?_
  refine V_eqi (y := ι 6 o i9 3) rfl ?_
  refine V_iconst (v := 1) C d_Oc_putReference_32 (by decide) ?_
  refine V_callV (as := [_, _]) C d_Oc_putReference_33 (c_Oc_put hO (w := 1) (by omega) (by (try simp only [List.length_append, bys_len, datC_len, List.length_nil]); omega)) m_Oc_put cf_Oc k_Oc_19 (nn hO.n4) ⟨by decide, by decide⟩ (Nat.le_of_ble_eq_true rfl) ⟨by decide, by decide⟩ rfl ?_
  rintro _ _ _ _ _ ⟨rfl, rfl, rfl, rfl, rfl⟩
  dsimp only [Option.toList, List.cons_append, List.nil_append]
  refine V_aload_n C d_Oc_putReference_36 rfl ?_
  refine V_aload_n C d_Oc_putReference_37 rfl ?_
  refine V_getI (kx := 4) C d_Oc_putReference_38 cf_Rf (by decide) k_Oc_98 hal rfl ?_
  refine V_eqi (y := ι 6 o i9 4) rfl ?_
  refine V_iconst (v := 4) C d_Oc_putReference_41 (by decide) ?_
  refine V_callV (as := [_, _]) C d_Oc_putReference_42 (c_Oc_put hO (w := 4) (by omega) (by (try simp only [List.length_append, bys_len, datC_len, List.length_nil]); omega)) m_Oc_put cf_Oc k_Oc_19 (nn hO.n4) ⟨by decide, by decide⟩ (Nat.le_of_ble_eq_true rfl) ⟨by decide, by decide⟩ rfl ?_
  rintro _ _ _ _ _ ⟨rfl, rfl, rfl, rfl, rfl⟩
  dsimp only [Option.toList, List.cons_append, List.nil_append]
  refine V_vret C hQ (by decide) (by decide) d_Oc_putReference_45 rfl ?_
  exact ⟨rfl, rfl, wrC_x (by simp only [refC, List.append_assoc]), rfl, rfl⟩
set_option maxHeartbeats 1000000 in
set_option maxRecDepth 10000 in
theorem c_Oc_sumOf {ν : Nu} {ι : Io} {ρ : Ro} {ℓ : Lo} (hO : OS ν ρ) {n : Nat} (hn : n ≤ 1303) : Ct y_Oc_sumOf (Cond.code y_Oc_sumOf b_Oc_sumOf 4 (some .int) :: tb_) { frames := 0, cells := 0, slots := 0, locals := 0 } [sR 25 0 0, sI (nI n)] ν ι ρ ℓ (pEq (some (sI (sumR (ι 25 0 0) n &&& 65535))) ν ι ρ ℓ) (noX) := by
  refine Ct.ofV (by decide) (Nat.le_of_ble_eq_true rfl) rfl ?_
  intro p l e s m args below meth c D B tW α0 Q C hQ
  have loop : ∀ (f : Nat) (i : Nat), n - i < f → (i ≤ n) → V p l e { frames := 0, cells := 0, slots := 0, locals := 0 } s m args below meth c D B α0 ν 4 Q 0 0 ν ι ρ ℓ 4 [(3, sI (nI i)), (2, sI (sumR (ι 25 0 0) i)), (0, sR 25 0 0), (1, sI (nI n))] [] := by
    intro f
    induction f with
    | zero => intros; omega
    | succ f ih =>
      intro i hf hi0
      refine V_iload_n C d_Oc_sumOf_4 rfl ?_
      refine V_iload_n C d_Oc_sumOf_5 rfl ?_
      refine V_icmp_ge (tgt := 25) C d_Oc_sumOf_6 (by decide) (fun h6 => ?_) (fun h6 => ?_)
      · have hi : i = n := by have := (nI_leI (a := n) (b := i) (by omega) (by omega)).mp h6; omega
        subst hi
        refine V_iload_n C d_Oc_sumOf_25 rfl ?_
        refine V_ldc C d_Oc_sumOf_26 k_Oc_101 ?_
        refine V_iand C d_Oc_sumOf_28 ?_
        refine V_iret C hQ (by decide) (by decide) d_Oc_sumOf_29 rfl ?_
        exact ⟨rfl, rfl, rfl, rfl, rfl⟩
      · have hi : i < n := Nat.lt_of_not_le fun z => h6 ((nI_leI (by omega) (by omega)).mpr z)
        refine V_iload_n C d_Oc_sumOf_9 rfl ?_
        refine V_aload_n C d_Oc_sumOf_10 rfl ?_
        refine V_iload_n C d_Oc_sumOf_11 rfl ?_
        refine V_iald C d_Oc_sumOf_12 (by decide) rfl hO.n25 rfl (by omega) rfl ?_
        refine V_iload_n C d_Oc_sumOf_13 rfl ?_
        refine V_iconst (v := 1) C d_Oc_sumOf_14 (by decide) ?_
        refine V_iadd C d_Oc_sumOf_15 ?_
        refine V_imul C d_Oc_sumOf_16 ?_
        refine V_iadd C d_Oc_sumOf_17 ?_
        refine V_istore_n (lv' := [(2, _), (3, _), (0, _), (1, _)]) C d_Oc_sumOf_18 (by decide) rfl ?_
        refine V_iinc (v := nI (i + 1)) (lv' := [(3, _), (2, _), (0, _), (1, _)]) C d_Oc_sumOf_19 rfl (nI_1 i) (by decide) rfl ?_
        refine V_goto (tgt := 4) C d_Oc_sumOf_22 (by decide) ?_
        refine V_pick [0, 1, 2, 3] rfl ?_
        exact ih (i + 1) (by omega) (by omega)
  refine V_iconst (v := 0) C d_Oc_sumOf_0 (by decide) ?_
  refine V_istore_n (lv' := [(2, _), (0, _), (1, _)]) C d_Oc_sumOf_1 (by decide) rfl ?_
  refine V_iconst (v := 0) C d_Oc_sumOf_2 (by decide) ?_
  refine V_istore_n (lv' := [(3, _), (2, _), (0, _), (1, _)]) C d_Oc_sumOf_3 (by decide) rfl ?_
  refine V_pick [0, 1, 2, 3] rfl ?_
  exact loop (n + 1) 0 (by omega) (by omega)
theorem se_n {ν : Nu} {ι : Io} {ρ : Ro} {o s : Nat} (h : SeS ν ι ρ o s) (hc : CVs ι o s) (hB : BD ι) (hs : 8 * o + s < 104) : ∃ n, n ≤ 128 ∧ ν 24 o s = some n ∧ n = if ι 7 o s 0 = 3 then 0 else mn ι 45 (8 * o + s) := by
  obtain ⟨-, -, -, n, h1, h2, h3⟩ := h
  have h4 : n = mn ι 45 (8 * o + s) := by
    unfold mn
    rw [← hc.2.2.1, h2, nI_clamp (by omega)]
  refine ⟨_, ?_, h3, by rw [h4]⟩
  split <;> omega
set_option maxHeartbeats 1000000 in
set_option maxRecDepth 10000 in
theorem c_Oc_store {ν : Nu} {ι : Io} {ρ : Ro} {ℓ : Lo} (hO : OS ν ρ) {t : Nat} (ht : t < 12) (hU : UM ν ι ρ t) (hC : CV ι t) (hB : BD ι) : Ct y_Oc_store (Cond.code y_Oc_store b_Oc_store 3 none :: tb_) { frames := 2, cells := 0, slots := 0, locals := 45 } [sR 4 0 0, sR 8 t 0] ν ι ρ ℓ (pEq none ν (wrC ι (wlF ι t)) ρ ℓ) (noX) := by
  refine Ct.ofV (by decide) (Nat.le_of_ble_eq_true rfl) rfl ?_
  intro p l e s m args below meth c D B tW α0 Q C hQ
  have c8 := hB.b42.le (t := t) (by omega)
  have c12 := hB.b47.le (t := t) (by omega)
  have c16 := hB.b52.le (t := t) (by omega)
  have refs : ∀ (f : Nat) (i : Nat) (l9 : List Int32), mn ι 52 t - i < f → (i ≤ mn ι 52 t) → (l9 = hdB ι t ++ wlG (secB ι) (8 * t) (mn ι 42 t) ++ wlG (namB ι) (12 * t) (mn ι 47 t) ++ wlG (refB ι) (16 * t) i) → (l9.length ≤ 1157 + 9 * i) → V p l e { frames := 2, cells := 0, slots := 0, locals := 45 } s m args below meth c D B α0 ν 3 Q 0 0 ν (wrC ι l9) ρ ℓ 94 [(2, sI (nI i)), (0, sR 4 0 0), (1, sR 8 t 0)] [] := by
    intro f
    induction f with
    | zero => intros; omega
    | succ f ih =>
      intro i l9 hf hi0 hl hlen
      refine V_iload_n C d_Oc_store_94 rfl ?_
      refine V_aload_n C d_Oc_store_95 rfl ?_
      refine V_getI (kx := 5) C d_Oc_store_96 cf_Un (by decide) k_Oc_31 hU.al rfl ?_
      refine V_eqi (y := nI (mn ι 52 t)) hU.er ?_
      refine V_icmp_ge (tgt := 118) C d_Oc_store_99 (by decide) (fun h99 => ?_) (fun h99 => ?_)
      · have hi : i = mn ι 52 t := by have := (nI_leI (a := mn ι 52 t) (b := i) (by omega) (by omega)).mp h99; omega
        refine V_aload_n C d_Oc_store_118 rfl ?_
        refine V_aload_n C d_Oc_store_119 rfl ?_
        refine V_getR (kx := 0) C d_Oc_store_120 cf_Oc (by decide) k_Oc_9 (nn hO.n4) rfl hO.r40 ?_
        refine V_aload_n C d_Oc_store_123 rfl ?_
        refine V_getI (kx := 1) C d_Oc_store_124 cf_Oc (by decide) k_Oc_15 (nn hO.n4) rfl ?_
        refine V_eqi (y := nI l9.length) wrC_len ?_
        refine V_callS (as := [_, _]) C d_Oc_store_127 (c_Oc_sumOf hO (n := l9.length) (by omega)) m_Oc_sumOf k_Oc_58 ⟨by decide, by decide⟩ (Nat.le_of_ble_eq_true rfl) ⟨by decide, by decide⟩ rfl ?_
        rintro _ _ _ _ _ ⟨rfl, rfl, rfl, rfl, rfl⟩
        dsimp only [Option.toList, List.cons_append, List.nil_append]
        refine V_eqi (y := suL l9) wrC_sum ?_
        refine V_iconst (v := 2) C d_Oc_store_130 (by decide) ?_
        refine V_callV (as := [_, _]) C d_Oc_store_131 (c_Oc_put hO (lw := l9) (w := 2) (by omega) (by omega)) m_Oc_put cf_Oc k_Oc_19 (nn hO.n4) ⟨by decide, by decide⟩ (Nat.le_of_ble_eq_true rfl) ⟨by decide, by decide⟩ rfl ?_
        rintro _ _ _ _ _ ⟨rfl, rfl, rfl, rfl, rfl⟩
        dsimp only [Option.toList, List.cons_append, List.nil_append]
        refine V_vret C hQ (by decide) (by decide) d_Oc_store_134 rfl ?_
        have hl2 : l9 = wlA ι t := by rw [hl, hi]; rfl
        exact ⟨rfl, rfl, wrC_x (by rw [hl2]; rfl), rfl, rfl⟩
      · have hi : i < mn ι 52 t := Nat.lt_of_not_le fun z => h99 ((nI_leI (by omega) (by omega)).mpr z)
        refine V_aload_n C d_Oc_store_102 rfl ?_
        refine V_aload_n C d_Oc_store_103 rfl ?_
        refine V_getR (kx := 4) C d_Oc_store_104 cf_Un (by decide) k_Oc_50 hU.al rfl hU.r4 ?_
        refine V_iload_n C d_Oc_store_107 rfl ?_
        refine V_aald C d_Oc_store_108 (by decide) (by decide) rfl hU.n4 rfl (by omega) rfl (hU.rf hi).2 ?_
        refine V_callV (as := [_]) C d_Oc_store_109 (c_Oc_putReference hO (lw := l9) (nn (hU.rf hi).1) (by omega)) m_Oc_putReference cf_Oc k_Oc_54 (nn hO.n4) ⟨by decide, by decide⟩ (Nat.le_of_ble_eq_true rfl) ⟨by decide, by decide⟩ rfl ?_
        rintro _ _ _ _ _ ⟨rfl, rfl, rfl, rfl, rfl⟩
        dsimp only [Option.toList, List.cons_append, List.nil_append]
        refine V_iinc (v := nI (i + 1)) (lv' := [(2, _), (0, _), (1, _)]) C d_Oc_store_112 rfl (nI_1 i) (by decide) rfl ?_
        refine V_goto (tgt := 94) C d_Oc_store_115 (by decide) ?_
        refine V_pick [0, 1, 2] rfl ?_
        exact ih (i + 1) _ (by omega) (by omega) (by rw [wlG_s, hl, ref_e (hC.2.2 i hi), List.append_assoc]) (by rw [List.length_append, ref_e (hC.2.2 i hi)]; simp only [refB, List.length_append, bys_len]; omega)
  have nams : ∀ (f : Nat) (i : Nat) (l9 : List Int32), mn ι 47 t - i < f → (i ≤ mn ι 47 t) → (l9 = hdB ι t ++ wlG (secB ι) (8 * t) (mn ι 42 t) ++ wlG (namB ι) (12 * t) i) → (l9.length ≤ 1061 + 8 * i) → V p l e { frames := 2, cells := 0, slots := 0, locals := 45 } s m args below meth c D B α0 ν 3 Q 0 0 ν (wrC ι l9) ρ ℓ 68 [(2, sI (nI i)), (0, sR 4 0 0), (1, sR 8 t 0)] [] := by
    intro f
    induction f with
    | zero => intros; omega
    | succ f ih =>
      intro i l9 hf hi0 hl hlen
      refine V_iload_n C d_Oc_store_68 rfl ?_
      refine V_aload_n C d_Oc_store_69 rfl ?_
      refine V_getI (kx := 3) C d_Oc_store_70 cf_Un (by decide) k_Oc_28 hU.al rfl ?_
      refine V_eqi (y := nI (mn ι 47 t)) hU.en ?_
      refine V_icmp_ge (tgt := 92) C d_Oc_store_73 (by decide) (fun h73 => ?_) (fun h73 => ?_)
      · have hi : i = mn ι 47 t := by have := (nI_leI (a := mn ι 47 t) (b := i) (by omega) (by omega)).mp h73; omega
        refine V_iconst (v := 0) C d_Oc_store_92 (by decide) ?_
        refine V_istore_n (lv' := [(2, _), (0, _), (1, _)]) C d_Oc_store_93 (by decide) rfl ?_
        refine V_pick [0, 1, 2] rfl ?_
        exact refs (mn ι 52 t + 1) 0 _ (by omega) (by omega) (by rw [hl, hi]; exact (List.append_nil _).symm) (by omega)
      · have hi : i < mn ι 47 t := Nat.lt_of_not_le fun z => h73 ((nI_leI (by omega) (by omega)).mpr z)
        refine V_aload_n C d_Oc_store_76 rfl ?_
        refine V_aload_n C d_Oc_store_77 rfl ?_
        refine V_getR (kx := 2) C d_Oc_store_78 cf_Un (by decide) k_Oc_42 hU.al rfl hU.r2 ?_
        refine V_iload_n C d_Oc_store_81 rfl ?_
        refine V_aald C d_Oc_store_82 (by decide) (by decide) rfl hU.n2 rfl (by omega) rfl (hU.na hi).2 ?_
        refine V_callV (as := [_]) C d_Oc_store_83 (c_Oc_putName hO (lw := l9) (nn (hU.na hi).1) (by omega)) m_Oc_putName cf_Oc k_Oc_46 (nn hO.n4) ⟨by decide, by decide⟩ (Nat.le_of_ble_eq_true rfl) ⟨by decide, by decide⟩ rfl ?_
        rintro _ _ _ _ _ ⟨rfl, rfl, rfl, rfl, rfl⟩
        dsimp only [Option.toList, List.cons_append, List.nil_append]
        refine V_iinc (v := nI (i + 1)) (lv' := [(2, _), (0, _), (1, _)]) C d_Oc_store_86 rfl (nI_1 i) (by decide) rfl ?_
        refine V_goto (tgt := 68) C d_Oc_store_89 (by decide) ?_
        refine V_pick [0, 1, 2] rfl ?_
        exact ih (i + 1) _ (by omega) (by omega) (by rw [wlG_s, hl, nam_e (hC.2.1 i hi), List.append_assoc]) (by rw [List.length_append, nam_e (hC.2.1 i hi)]; simp only [namB, List.length_append, bys_len]; omega)
  have secs : ∀ (f : Nat) (i : Nat) (l9 : List Int32), mn ι 42 t - i < f → (i ≤ mn ι 42 t) → (l9 = hdB ι t ++ wlG (secB ι) (8 * t) i) → (l9.length ≤ 5 + 132 * i) → V p l e { frames := 2, cells := 0, slots := 0, locals := 45 } s m args below meth c D B α0 ν 3 Q 0 0 ν (wrC ι l9) ρ ℓ 42 [(2, sI (nI i)), (0, sR 4 0 0), (1, sR 8 t 0)] [] := by
    intro f
    induction f with
    | zero => intros; omega
    | succ f ih =>
      intro i l9 hf hi0 hl hlen
      refine V_iload_n C d_Oc_store_42 rfl ?_
      refine V_aload_n C d_Oc_store_43 rfl ?_
      refine V_getI (kx := 1) C d_Oc_store_44 cf_Un (by decide) k_Oc_23 hU.al rfl ?_
      refine V_eqi (y := nI (mn ι 42 t)) hU.ec ?_
      refine V_icmp_ge (tgt := 66) C d_Oc_store_47 (by decide) (fun h47 => ?_) (fun h47 => ?_)
      · have hi : i = mn ι 42 t := by have := (nI_leI (a := mn ι 42 t) (b := i) (by omega) (by omega)).mp h47; omega
        refine V_iconst (v := 0) C d_Oc_store_66 (by decide) ?_
        refine V_istore_n (lv' := [(2, _), (0, _), (1, _)]) C d_Oc_store_67 (by decide) rfl ?_
        refine V_pick [0, 1, 2] rfl ?_
        exact nams (mn ι 47 t + 1) 0 _ (by omega) (by omega) (by rw [hl, hi]; exact (List.append_nil _).symm) (by omega)
      · have hi : i < mn ι 42 t := Nat.lt_of_not_le fun z => h47 ((nI_leI (by omega) (by omega)).mpr z)
        have hS := hU.se hi
        have l45 := hB.b45.le (t := 8 * t + i) (by omega)
        obtain ⟨n8, h128, hn24, hn8⟩ := se_n hS (hC.1 i hi) hB (by omega)
        have h4 : (sec4 ι t i).length = 4 := by simp only [sec4, List.length_append, bys_len]
        refine V_aload_n C d_Oc_store_50 rfl ?_
        refine V_aload_n C d_Oc_store_51 rfl ?_
        refine V_getR (kx := 0) C d_Oc_store_52 cf_Un (by decide) k_Oc_34 hU.al rfl hU.r0 ?_
        refine V_iload_n C d_Oc_store_55 rfl ?_
        refine V_aald C d_Oc_store_56 (by decide) (by decide) rfl hU.n0 rfl (by omega) rfl hS.2.1 ?_
        refine V_callV (as := [_]) C d_Oc_store_57 (c_Oc_putSection hO (lw := l9) hS hn24 h128 (by omega)) m_Oc_putSection cf_Oc k_Oc_38 (nn hO.n4) ⟨by decide, by decide⟩ (Nat.le_of_ble_eq_true rfl) ⟨by decide, by decide⟩ rfl ?_
        rintro _ _ _ _ _ ⟨rfl, rfl, rfl, rfl, rfl⟩
        dsimp only [Option.toList, List.cons_append, List.nil_append]
        refine V_iinc (v := nI (i + 1)) (lv' := [(2, _), (0, _), (1, _)]) C d_Oc_store_60 rfl (nI_1 i) (by decide) rfl ?_
        refine V_goto (tgt := 42) C d_Oc_store_63 (by decide) ?_
        refine V_pick [0, 1, 2] rfl ?_
        exact ih (i + 1) _ (by omega) (by omega) (by rw [wlG_s, hl, sec_e (hC.1 i hi) (n := n8) hn8, List.append_assoc]) (by rw [List.length_append, List.length_append, datC_len]; omega)
  refine V_aload_n C d_Oc_store_0 rfl ?_
  refine V_iconst (v := 0) C d_Oc_store_1 (by decide) ?_
  refine V_putI (kx := 1) C d_Oc_store_2 cf_Oc (by decide) k_Oc_15 (nn hO.n4) rfl rfl rfl rfl ?_
  refine V_io wrC_0 ?_
  refine V_aload_n C d_Oc_store_5 rfl ?_
  refine V_sipush (v := 20290) C d_Oc_store_6 (by decide) ?_
  refine V_iconst (v := 2) C d_Oc_store_9 (by decide) ?_
  refine V_callV (as := [_, _]) C d_Oc_store_10 (c_Oc_put hO (lw := []) (w := 2) (by omega) (by simp)) m_Oc_put cf_Oc k_Oc_19 (nn hO.n4) ⟨by decide, by decide⟩ (Nat.le_of_ble_eq_true rfl) ⟨by decide, by decide⟩ rfl ?_
  rintro _ _ _ _ _ ⟨rfl, rfl, rfl, rfl, rfl⟩
  dsimp only [Option.toList, List.cons_append, List.nil_append]
  refine V_aload_n C d_Oc_store_13 rfl ?_
  refine V_aload_n C d_Oc_store_14 rfl ?_
  refine V_getI (kx := 1) C d_Oc_store_15 cf_Un (by decide) k_Oc_23 hU.al rfl ?_
  refine V_eqi (y := ι 8 t 0 1) rfl ?_
  refine V_iconst (v := 1) C d_Oc_store_18 (by decide) ?_
  refine V_callV (as := [_, _]) C d_Oc_store_19 (c_Oc_put hO (w := 1) (by omega) (by (try simp only [List.length_append, bys_len, datC_len, List.length_nil]); omega)) m_Oc_put cf_Oc k_Oc_19 (nn hO.n4) ⟨by decide, by decide⟩ (Nat.le_of_ble_eq_true rfl) ⟨by decide, by decide⟩ rfl ?_
  rintro _ _ _ _ _ ⟨rfl, rfl, rfl, rfl, rfl⟩
  dsimp only [Option.toList, List.cons_append, List.nil_append]
  refine V_aload_n C d_Oc_store_22 rfl ?_
  refine V_aload_n C d_Oc_store_23 rfl ?_
  refine V_getI (kx := 3) C d_Oc_store_24 cf_Un (by decide) k_Oc_28 hU.al rfl ?_
  refine V_eqi (y := ι 8 t 0 3) rfl ?_
  refine V_iconst (v := 1) C d_Oc_store_27 (by decide) ?_
  refine V_callV (as := [_, _]) C d_Oc_store_28 (c_Oc_put hO (w := 1) (by omega) (by (try simp only [List.length_append, bys_len, datC_len, List.length_nil]); omega)) m_Oc_put cf_Oc k_Oc_19 (nn hO.n4) ⟨by decide, by decide⟩ (Nat.le_of_ble_eq_true rfl) ⟨by decide, by decide⟩ rfl ?_
  rintro _ _ _ _ _ ⟨rfl, rfl, rfl, rfl, rfl⟩
  dsimp only [Option.toList, List.cons_append, List.nil_append]
  refine V_aload_n C d_Oc_store_31 rfl ?_
  refine V_aload_n C d_Oc_store_32 rfl ?_
  refine V_getI (kx := 5) C d_Oc_store_33 cf_Un (by decide) k_Oc_31 hU.al rfl ?_
  refine V_eqi (y := ι 8 t 0 5) rfl ?_
  refine V_iconst (v := 1) C d_Oc_store_36 (by decide) ?_
  refine V_callV (as := [_, _]) C d_Oc_store_37 (c_Oc_put hO (w := 1) (by omega) (by (try simp only [List.length_append, bys_len, datC_len, List.length_nil]); omega)) m_Oc_put cf_Oc k_Oc_19 (nn hO.n4) ⟨by decide, by decide⟩ (Nat.le_of_ble_eq_true rfl) ⟨by decide, by decide⟩ rfl ?_
  rintro _ _ _ _ _ ⟨rfl, rfl, rfl, rfl, rfl⟩
  dsimp only [Option.toList, List.cons_append, List.nil_append]
  refine V_iconst (v := 0) C d_Oc_store_40 (by decide) ?_
  refine V_istore_n (lv' := [(2, _), (0, _), (1, _)]) C d_Oc_store_41 (by decide) rfl ?_
  refine V_pick [0, 1, 2] rfl ?_
  exact secs (mn ι 42 t + 1) 0 _ (by omega) (by omega) (by rw [hU.ec, hU.en, hU.er, ← hB.b42.eq (t := t) (by omega), ← hB.b47.eq (t := t) (by omega), ← hB.b52.eq (t := t) (by omega), mark_e]; simp [wlG, hdB]) (by simp only [List.length_append, bys_len, List.length_nil]; omega)
set_option maxHeartbeats 1000000 in
set_option maxRecDepth 10000 in
theorem c_OL_write {ν : Nu} {ι : Io} {ρ : Ro} {ℓ : Lo} {N c9 w9 n9 z9 kn g9 : Nat} (hI : IV ν ι ρ N c9 w9 n9 z9 kn g9) {x : Int32} : Ct y_OL_write (Cond.code y_OL_write b_OL_write 2 (some .int) :: tb_) { frames := 7, cells := 60, slots := 2000, locals := 112 } [sR 9 0 0, sI x] ν ι ρ ℓ (fun r9 ν1 ι1 ρ1 ℓ1 => ℓ = ℓ1 ∧ ν1 90 0 0 = ν 90 0 0 ∧ ∃ b, r9 = some (sI b) ∧ MC y_Mo_write (Cond.code y_Mo_write b_Mo_write 4 (some .int) :: tb_) { frames := 2, cells := 0, slots := 0, locals := 43 } [sR 10 0 0, sI x] 0 b ν ρ ν1 ι1 ρ1) (fun E ν1 ι1 ρ1 ℓ1 => ℓ = ℓ1 ∧ ν1 90 0 0 = ν 90 0 0 ∧ ∃ k7, (E, k7) ∈ ([("java/lang/IndexOutOfBoundsException", 1)] : List (String × Int32)) ∧ MC y_Mo_write (Cond.code y_Mo_write b_Mo_write 4 (some .int) :: tb_) { frames := 2, cells := 0, slots := 0, locals := 43 } [sR 10 0 0, sI x] k7 0 ν ρ ν1 ι1 ρ1) := by
  refine Ct.ofV (by decide) (Nat.le_of_ble_eq_true rfl) rfl ?_
  intro p l e s m args below meth c D B tW α0 Q C hQ
  have h12 := hI.N12
  by_cases hx : 0 ≤ x ∧ x ≤ nI N - 1
  · obtain ⟨t, ht, hxt⟩ := rng_of (by omega) hx
    subst hxt
    have hU := hI.um ht
    have e42 : ι 42 0 0 t = nI (mn ι 42 t) := hI.bd.b42.eq (by omega)
    have hC := hI.cv ht
    have h8 := hU.c8
    have l47 := hU.n12
    have l52 := hU.r16
    refine V_aload_n C d_OL_write_0 rfl ?_
    refine V_getR (kx := 3) C d_OL_write_1 cf_OL (by decide) k_OL_25 (nn hI.os.n9) rfl hI.os.r93 ?_
    refine V_aload_n C d_OL_write_4 rfl ?_
    refine V_iload_n C d_OL_write_5 rfl ?_
    refine V_callV (as := [_]) C d_OL_write_6 (c_OL_known_y hI ht) m_OL_known cf_OL k_OL_45 (nn hI.os.n9) ⟨by decide, by decide⟩ (Nat.le_of_ble_eq_true rfl) ⟨by decide, by decide⟩ rfl ?_
    rintro _ _ _ _ _ ⟨rfl, rfl, rfl, rfl, rfl⟩
    dsimp only [Option.toList, List.cons_append, List.nil_append]
    refine V_callV (as := [_]) C d_OL_write_9 (c_Oc_store hI.os (show t < 12 by omega) hU hC hI.bd) m_Oc_store cf_Oc k_OL_191 (nn hI.os.n4) ⟨by decide, by decide⟩ (Nat.le_of_ble_eq_true rfl) ⟨by decide, by decide⟩ rfl ?_
    rintro _ _ _ _ _ ⟨rfl, rfl, rfl, rfl, rfl⟩
    dsimp only [Option.toList, List.cons_append, List.nil_append]
    refine V_aload_n C d_OL_write_12 rfl ?_
    refine V_getR (kx := 3) C d_OL_write_13 cf_OL (by decide) k_OL_25 (nn hI.os.n9) rfl hI.os.r93 ?_
    refine V_getI (kx := 1) C d_OL_write_16 cf_Oc (by decide) k_OL_195 (nn hI.os.n4) rfl ?_
    refine V_iret C hQ (by decide) (by decide) d_OL_write_19 rfl ?_
    exact ⟨rfl, rfl, _, rfl, MC.eq (b' := (nI (wlF ι t).length)) (ι2 := (wrS (z0 (wrC ι (wlF ι t))) (wlF ι t))) (fun ℓ9 => by have h9 := c_Mo_write (ν := ν) (ι := wrC ι (wlF ι t)) (ρ := ρ) (ℓ := ℓ9) hI.mo (t := t) (by omega) (show isOb ι (nI t) from by unfold isOb; rw [hI.iu.2.1]; exact rng_to (by omega) ht) hI.bd.b42 hI.bd.b47 hI.bd.b52 hI.bd.b45; rw [wlF_w] at h9; exact h9) (fun _ => wrC_len.symm) (rfl) (gm.rf) (⟨N, c9, (wlF ι t).length, n9, z9, kn, g9, IV.wri hI (wl_len hI.bd (by omega)) aby.wl⟩)⟩
  · skip
    refine V_aload_n C d_OL_write_0 rfl ?_
    refine V_getR (kx := 3) C d_OL_write_1 cf_OL (by decide) k_OL_25 (nn hI.os.n9) rfl hI.os.r93 ?_
    refine V_aload_n C d_OL_write_4 rfl ?_
    refine V_iload_n C d_OL_write_5 rfl ?_
    refine V_callVX (as := [_]) C hQ rfl d_OL_write_6 (c_OL_known_n hI hx) m_OL_known cf_OL k_OL_45 (nn hI.os.n9) ⟨by decide, by decide⟩ (Nat.le_of_ble_eq_true rfl) ⟨by decide, by decide⟩ rfl (by decide) (by decide) (by rintro E _ _ _ _ ⟨rfl, rfl, rfl, rfl, rfl⟩; exact ⟨rfl, rfl, 1, by simp, MC.eq (b' := 0) (ι2 := (up4 ι 10 0 0 0 1)) (fun ℓ9 => c_Mo_write_no hI.mo (fun z => hx (by have := z; unfold isOb at this; rw [hI.iu.2.1] at this; exact this))) (fun h => absurd h (by decide)) (rfl) (gm.rf) (⟨N, c9, w9, n9, z9, kn, g9, hI.t0⟩)⟩) ?_
    exact fun _ _ _ _ _ h => h.elim
