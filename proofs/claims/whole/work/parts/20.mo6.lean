set_option maxHeartbeats 1000000 in
set_option maxRecDepth 10000 in
theorem c_Mo_placeOf {ν : Nu} {ι : Io} {ρ : Ro} {ℓ : Lo} (hM : MoS ν ρ) {t : Nat} (ht : t < 12) (hob : isOb ι (nI t)) (hs : bd ι 42 13 8) {x : Int32} : Ct y_Mo_placeOf (Cond.code y_Mo_placeOf b_Mo_placeOf 4 (some .int) :: tb_) { frames := 2, cells := 0, slots := 0, locals := 44 } [sR 10 0 0, sI (nI t), sI x] ν ι ρ ℓ (pEq (some (sI (if 0 ≤ x ∧ x ≤ ι 42 0 0 t - 1 then (if ι 64 0 0 (8 * t + x.toNatClampNeg) < 0 then -1 else ι 64 0 0 (8 * t + x.toNatClampNeg) - ι 10 0 0 20) else 0))) ν (if 0 ≤ x ∧ x ≤ ι 42 0 0 t - 1 then z0 ι else up4 (z0 ι) 10 0 0 0 2) ρ ℓ) (noX) := by
  refine Ct.ofV (by decide) (Nat.le_of_ble_eq_true rfl) rfl ?_
  intro p l e s m args below meth c D B tW α0 Q C hQ
  refine V_aload_n C d_Mo_placeOf_0 rfl ?_
  refine V_iload_n C d_Mo_placeOf_1 rfl ?_
  refine V_callV (as := [_]) C d_Mo_placeOf_2 (c_Mo_isObject hM) m_Mo_isObject cf_Mo k_Mo_111 hM.al ⟨by decide, by decide⟩ (Nat.le_of_ble_eq_true rfl) ⟨by decide, by decide⟩ rfl ?_
  rintro _ _ _ _ _ ⟨rfl, rfl, rfl, rfl, rfl⟩
  rw [if_pos hob]
  dsimp only [Option.toList, List.cons_append, List.nil_append]
  refine V_if_ne (tgt := 10) C d_Mo_placeOf_5 (by decide) (fun h5 => ?_) (fun h5 => absurd h5 (by rw [b2_t hob]; decide))
  refine V_aload_n C d_Mo_placeOf_10 rfl ?_
  refine V_iload_n C d_Mo_placeOf_11 rfl ?_
  refine V_iload_n C d_Mo_placeOf_12 rfl ?_
  refine V_callV (as := [_, _]) C d_Mo_placeOf_13 (c_Mo_hasSection (ι := up4 ι 10 0 0 0 0) hM (show t < 13 by omega)) m_Mo_hasSection cf_Mo k_Mo_122 hM.al ⟨by decide, by decide⟩ (Nat.le_of_ble_eq_true rfl) ⟨by decide, by decide⟩ rfl ?_
  rintro _ _ _ _ _ ⟨rfl, rfl, rfl, rfl, rfl⟩
  dsimp only [Option.toList, List.cons_append, List.nil_append]
  refine V_if_ne (tgt := 25) C d_Mo_placeOf_16 (by decide) (fun h16 => ?_) (fun h16 => ?_)
  · have h16' : 0 ≤ x ∧ x ≤ ι 42 0 0 t - 1 := b2_n0.mp h16
    have h16c := h16'
    rw [hs.eq (t := t) (by omega)] at h16c
    obtain ⟨j, hj, hx9⟩ := rng_of (by have := hs.le (t := t) (by omega); omega) h16c
    subst hx9
    have hsle := hs.le (t := t) (by omega)
    have hcl : (nI j).toNatClampNeg = j := nI_clamp (by omega)
    refine V_aload_n C d_Mo_placeOf_25 rfl ?_
    refine V_getR (kx := 24) C d_Mo_placeOf_26 cf_Mo (by decide) k_Mo_71 hM.al rfl hM.r24 ?_
    refine V_bipush (v := 8) C d_Mo_placeOf_29 (by decide) ?_
    refine V_iload_n C d_Mo_placeOf_31 rfl ?_
    refine V_imul C d_Mo_placeOf_32 ?_
    refine V_iload_n C d_Mo_placeOf_33 rfl ?_
    refine V_iadd C d_Mo_placeOf_34 ?_
    refine V_iald C d_Mo_placeOf_35 (by decide) rfl hM.n24 (ixa 8 t j) (by omega) rfl ?_
    refine V_istore_n (lv' := [(3, _), (0, _), (1, _), (2, _)]) C d_Mo_placeOf_36 (by decide) rfl ?_
    refine V_iload_n C d_Mo_placeOf_37 rfl ?_
    refine V_if_ge (tgt := 45) C d_Mo_placeOf_38 (by decide) (fun h38 => ?_) (fun h38 => ?_)
    · refine V_iload_n C d_Mo_placeOf_45 rfl ?_
      refine V_aload_n C d_Mo_placeOf_46 rfl ?_
      refine V_getI (kx := 20) C d_Mo_placeOf_47 cf_Mo (by decide) k_Mo_176 hM.al rfl ?_
      refine V_isub C d_Mo_placeOf_50 ?_
      refine V_iret C hQ (by decide) (by decide) d_Mo_placeOf_51 rfl ?_
      rw [if_pos h16', if_pos h16', hcl]
      first
      | (rw [if_pos (show ι 64 0 0 (8 * t + j) < 0 from lt_of_nle h38)]; exact ⟨rfl, rfl, rfl, rfl, rfl⟩)
      | (rw [if_neg (show ¬ ι 64 0 0 (8 * t + j) < 0 from Int32.not_lt.mpr h38)]; exact ⟨rfl, rfl, rfl, rfl, rfl⟩)
    · refine V_iconst (v := (-1)) C d_Mo_placeOf_41 (by decide) ?_
      refine V_goto (tgt := 51) C d_Mo_placeOf_42 (by decide) ?_
      refine V_iret C hQ (by decide) (by decide) d_Mo_placeOf_51 rfl ?_
      rw [if_pos h16', if_pos h16', hcl]
      first
      | (rw [if_pos (show ι 64 0 0 (8 * t + j) < 0 from lt_of_nle h38)]; exact ⟨rfl, rfl, rfl, rfl, rfl⟩)
      | (rw [if_neg (show ¬ ι 64 0 0 (8 * t + j) < 0 from Int32.not_lt.mpr h38)]; exact ⟨rfl, rfl, rfl, rfl, rfl⟩)
  · have h16' : ¬ (0 ≤ x ∧ x ≤ ι 42 0 0 t - 1) := b2_0.mp h16
    refine V_aload_n C d_Mo_placeOf_19 rfl ?_
    refine V_iconst (v := 2) C d_Mo_placeOf_20 (by decide) ?_
    refine V_callV (as := [_]) C d_Mo_placeOf_21 (c_Mo_fail hM) m_Mo_fail cf_Mo k_Mo_103 hM.al ⟨by decide, by decide⟩ (Nat.le_of_ble_eq_true rfl) ⟨by decide, by decide⟩ rfl ?_
    rintro _ _ _ _ _ ⟨rfl, rfl, rfl, rfl, rfl⟩
    dsimp only [Option.toList, List.cons_append, List.nil_append]
    refine V_iret C hQ (by decide) (by decide) d_Mo_placeOf_24 rfl ?_
    rw [if_neg h16', if_neg h16']
    exact ⟨rfl, rfl, rfl, rfl, rfl⟩
theorem naM_hit {ι : Io} {x : Int32} {c i : Nat} (hi : i < c) (h : ι 75 0 0 i = x) (hno : ∀ k, k < i → ¬ ι 75 0 0 k = x) : naM ι x c = ι 76 0 0 i := by
  unfold naM
  have : (List.range c).find? (fun k => ι 75 0 0 k == x) = some i := by
    rw [List.find?_eq_some_iff_append]
    refine ⟨by simp [h], List.range i, (List.range' (i + 1) (c - i - 1)), ?_, ?_⟩
    · rw [List.range_eq_range', List.range_eq_range', show c = i + (1 + (c - i - 1)) by omega, ← List.range'_append_1, ← List.range'_append_1]
      simp
    · intro k hk
      simp [hno k (List.mem_range.mp hk)]
  rw [this]
theorem naM_miss {ι : Io} {x : Int32} {c : Nat} (hno : ∀ k, k < c → ¬ ι 75 0 0 k = x) : naM ι x c = -1 := by
  unfold naM
  have : (List.range c).find? (fun k => ι 75 0 0 k == x) = none := by
    rw [List.find?_eq_none]
    intro k hk
    simp [hno k (List.mem_range.mp hk)]
  rw [this]
set_option maxHeartbeats 1000000 in
set_option maxRecDepth 10000 in
theorem c_Mo_nameAt {ν : Nu} {ι : Io} {ρ : Ro} {ℓ : Lo} (hM : MoS ν ρ) {c9 : Nat} (hc : ι 10 0 0 34 = nI c9) (h9 : c9 ≤ 144) {x : Int32} : Ct y_Mo_nameAt (Cond.code y_Mo_nameAt b_Mo_nameAt 3 (some .int) :: tb_) { frames := 0, cells := 0, slots := 0, locals := 0 } [sR 10 0 0, sI x] ν ι ρ ℓ (pEq (some (sI (naM ι x c9))) ν (z0 ι) ρ ℓ) (noX) := by
  refine Ct.ofV (by decide) (Nat.le_of_ble_eq_true rfl) rfl ?_
  intro p l e s m args below meth c D B tW α0 Q C hQ
  have loop : ∀ (f : Nat) (i : Nat), c9 - i < f → (i ≤ c9) → (∀ k, k < i → ¬ ι 75 0 0 k = x) → V p l e { frames := 0, cells := 0, slots := 0, locals := 0 } s m args below meth c D B α0 ν 3 Q 0 0 ν (up4 ι 10 0 0 0 0) ρ ℓ 7 [(2, sI (nI i)), (0, sR 10 0 0), (1, sI x)] [] := by
    intro f
    induction f with
    | zero => intros; omega
    | succ f ih =>
      intro i hf hi0 hno
      refine V_iload_n C d_Mo_nameAt_7 rfl ?_
      refine V_aload_n C d_Mo_nameAt_8 rfl ?_
      refine V_getI (kx := 34) C d_Mo_nameAt_9 cf_Mo (by decide) k_Mo_222 hM.al rfl ?_
      rw [show up4 ι 10 0 0 0 0 10 0 0 34 = nI c9 from hc]
      refine V_icmp_ge (tgt := 38) C d_Mo_nameAt_12 (by decide) (fun h12 => ?_) (fun h12 => ?_)
      · have hi : i = c9 := by have := (nI_leI (a := c9) (b := i) (by omega) (by omega)).mp h12; omega
        subst hi
        refine V_iconst (v := (-1)) C d_Mo_nameAt_38 (by decide) ?_
        refine V_iret C hQ (by decide) (by decide) d_Mo_nameAt_39 rfl ?_
        exact ⟨congrArg (fun z => some (sI z)) (naM_miss hno), rfl, rfl, rfl, rfl⟩
      · have hi : i < c9 := Nat.lt_of_not_le fun z => h12 ((nI_leI (by omega) (by omega)).mpr z)
        refine V_aload_n C d_Mo_nameAt_15 rfl ?_
        refine V_getR (kx := 35) C d_Mo_nameAt_16 cf_Mo (by decide) k_Mo_84 hM.al rfl hM.r35 ?_
        refine V_iload_n C d_Mo_nameAt_19 rfl ?_
        refine V_iald C d_Mo_nameAt_20 (by decide) rfl hM.n35 rfl (by omega) rfl ?_
        refine V_iload_n C d_Mo_nameAt_21 rfl ?_
        refine V_icmp_ne (tgt := 32) C d_Mo_nameAt_22 (by decide) (fun h22 => ?_) (fun h22 => ?_)
        · refine V_iinc (v := nI (i + 1)) (lv' := [(2, _), (0, _), (1, _)]) C d_Mo_nameAt_32 rfl (nI_1 i) (by decide) rfl ?_
          refine V_goto (tgt := 7) C d_Mo_nameAt_35 (by decide) ?_
          refine V_pick [0, 1, 2] rfl ?_
          exact ih (i + 1) (by omega) (by omega) (lt_s (p := fun k => ¬ ι 75 0 0 k = x) hno h22)
        · refine V_aload_n C d_Mo_nameAt_25 rfl ?_
          refine V_getR (kx := 36) C d_Mo_nameAt_26 cf_Mo (by decide) k_Mo_87 hM.al rfl hM.r36 ?_
          refine V_iload_n C d_Mo_nameAt_29 rfl ?_
          refine V_iald C d_Mo_nameAt_30 (by decide) rfl hM.n36 rfl (by omega) rfl ?_
          refine V_iret C hQ (by decide) (by decide) d_Mo_nameAt_31 rfl ?_
          exact ⟨congrArg (fun z => some (sI z)) (naM_hit hi h22 hno), rfl, rfl, rfl, rfl⟩
  refine V_aload_n C d_Mo_nameAt_0 rfl ?_
  refine V_iconst (v := 0) C d_Mo_nameAt_1 (by decide) ?_
  refine V_putI (kx := 0) C d_Mo_nameAt_2 cf_Mo (by decide) k_Mo_93 hM.al rfl rfl rfl rfl ?_
  refine V_iconst (v := 0) C d_Mo_nameAt_5 (by decide) ?_
  refine V_istore_n (lv' := [(2, _), (0, _), (1, _)]) C d_Mo_nameAt_6 (by decide) rfl ?_
  refine V_pick [0, 1, 2] rfl ?_
  exact loop (c9 + 1) 0 (by omega) (by omega) (fun k hk => absurd hk (Nat.not_lt_zero k))
set_option maxHeartbeats 1000000 in
set_option maxRecDepth 10000 in
theorem c_Mo_need {ν : Nu} {ι : Io} {ρ : Ro} {ℓ : Lo} (hM : MoS ν ρ) {x : Int32} : Ct y_Mo_need (Cond.code y_Mo_need b_Mo_need 2 none :: tb_) { frames := 0, cells := 0, slots := 0, locals := 0 } [sR 10 0 0, sI x] ν ι ρ ℓ (pEq none ν (up4 ι 10 0 0 40 (b2 (¬ ι 10 0 0 40 = 0 ∧ ¬ x = 0))) ρ ℓ) (noX) := by
  refine Ct.ofV (by decide) (Nat.le_of_ble_eq_true rfl) rfl ?_
  intro p l e s m args below meth c D B tW α0 Q C hQ
  refine V_aload_n C d_Mo_need_0 rfl ?_
  refine V_aload_n C d_Mo_need_1 rfl ?_
  refine V_getI (kx := 40) C d_Mo_need_2 cf_Mo (by decide) k_Mo_265 hM.al rfl ?_
  refine V_if_eq (tgt := 16) C d_Mo_need_5 (by decide) (fun h5 => ?_) (fun h5 => ?_)
  · refine V_iconst (v := 0) C d_Mo_need_16 (by decide) ?_
    refine V_putI (kx := 40) C d_Mo_need_17 cf_Mo (by decide) k_Mo_265 hM.al rfl rfl rfl rfl ?_
    refine V_vret C hQ (by decide) (by decide) d_Mo_need_20 rfl ?_
    exact ⟨rfl, rfl, congrArg (up4 ι 10 0 0 40) (by clear hQ C; unfold b2; grind), rfl, rfl⟩
  · refine V_iload_n C d_Mo_need_8 rfl ?_
    refine V_if_eq (tgt := 16) C d_Mo_need_9 (by decide) (fun h9 => ?_) (fun h9 => ?_)
    · refine V_iconst (v := 0) C d_Mo_need_16 (by decide) ?_
      refine V_putI (kx := 40) C d_Mo_need_17 cf_Mo (by decide) k_Mo_265 hM.al rfl rfl rfl rfl ?_
      refine V_vret C hQ (by decide) (by decide) d_Mo_need_20 rfl ?_
      exact ⟨rfl, rfl, congrArg (up4 ι 10 0 0 40) (by clear hQ C; unfold b2; grind), rfl, rfl⟩
    · refine V_iconst (v := 1) C d_Mo_need_12 (by decide) ?_
      refine V_goto (tgt := 17) C d_Mo_need_13 (by decide) ?_
      refine V_putI (kx := 40) C d_Mo_need_17 cf_Mo (by decide) k_Mo_265 hM.al rfl rfl rfl rfl ?_
      refine V_vret C hQ (by decide) (by decide) d_Mo_need_20 rfl ?_
      exact ⟨rfl, rfl, congrArg (up4 ι 10 0 0 40) (by clear hQ C; unfold b2; grind), rfl, rfl⟩
def byA (v : Int32) (w d : Nat) : Int32 := (v >>> ((8 * nI (w - 1 - d)) &&& 31)) &&& 255
theorem say_s {ι : Io} {n0 i : Nat} {g : Nat → Int32} {x : Int32} (h : x = g i) : up4 (up4 (up4 (filF ι 78 n0 i g) 10 0 0 37 (nI (n0 + i))) 78 0 0 (n0 + i) x) 10 0 0 37 (nI (n0 + i + 1)) = up4 (filF ι 78 n0 (i + 1) g) 10 0 0 37 (nI (n0 + i + 1)) := by
  rw [up4_cm (r := 10) (r2 := 78) (by decide), up4_up4, filF_s h]
set_option maxHeartbeats 1000000 in
set_option maxRecDepth 10000 in
theorem c_Mo_say {ν : Nu} {ι : Io} {ρ : Ro} {ℓ : Lo} (hM : MoS ν ρ) {n0 w : Nat} (hc : ι 10 0 0 37 = nI n0) (hw : w ≤ 4) (hn : n0 + w ≤ 1400) {v : Int32} : Ct y_Mo_say (Cond.code y_Mo_say b_Mo_say 4 none :: tb_) { frames := 0, cells := 0, slots := 0, locals := 0 } [sR 10 0 0, sI v, sI (nI w)] ν ι ρ ℓ (pEq none ν (up4 (filF ι 78 n0 w (byA v w)) 10 0 0 37 (nI (n0 + w))) ρ ℓ) (noX) := by
  refine Ct.ofV (by decide) (Nat.le_of_ble_eq_true rfl) rfl ?_
  intro p l e s m args below meth c D B tW α0 Q C hQ
  have loop : ∀ (f : Nat) (i : Nat), w - i < f → (i ≤ w) → V p l e { frames := 0, cells := 0, slots := 0, locals := 0 } s m args below meth c D B α0 ν 4 Q 0 0 ν (up4 (filF ι 78 n0 i (byA v w)) 10 0 0 37 (nI (n0 + i))) ρ ℓ 4 [(3, sI (nI (w - i) - 1)), (0, sR 10 0 0), (1, sI v), (2, sI (nI w))] [] := by
    intro f
    induction f with
    | zero => intros; omega
    | succ f ih =>
      intro i hf hi0
      refine V_iload_n C d_Mo_say_4 rfl ?_
      refine V_if_lt (tgt := 43) C d_Mo_say_5 (by decide) (fun h5 => ?_) (fun h5 => ?_)
      · have hi : i = w := by
          rcases Nat.lt_or_ge i w with z | z
          · obtain ⟨k, hk⟩ : ∃ k, w - i = k + 1 := ⟨w - i - 1, by omega⟩
            rw [hk, nI_pred] at h5
            exact absurd h5 (nI_pos (by omega))
          · omega
        subst hi
        refine V_vret C hQ (by decide) (by decide) d_Mo_say_43 rfl ?_
        exact ⟨rfl, rfl, rfl, rfl, rfl⟩
      · have hi : i < w := by
          rcases Nat.lt_or_ge i w with z | z
          · exact z
          · rw [show w - i = 0 by omega] at h5
            exact absurd (by decide) h5
        have e1 : nI (w - i) - 1 = nI (w - 1 - i) := by rw [show w - i = (w - 1 - i) + 1 by omega, nI_pred]
        rw [e1]
        refine V_aload_n C d_Mo_say_8 rfl ?_
        refine V_getR (kx := 38) C d_Mo_say_9 cf_Mo (by decide) k_Mo_90 hM.al rfl hM.r38 ?_
        refine V_aload_n C d_Mo_say_12 rfl ?_
        refine V_getI (kx := 37) C d_Mo_say_13 cf_Mo (by decide) k_Mo_252 hM.al rfl ?_
        refine V_iload_n C d_Mo_say_16 rfl ?_
        refine V_bipush (v := 8) C d_Mo_say_17 (by decide) ?_
        refine V_iload_n C d_Mo_say_19 rfl ?_
        refine V_imul C d_Mo_say_20 ?_
        refine V_ishr C d_Mo_say_21 ?_
        refine V_sipush (v := 255) C d_Mo_say_22 (by decide) ?_
        refine V_iand C d_Mo_say_25 ?_
        refine V_iast C d_Mo_say_26 (by decide) rfl hM.n38 (show up4 (filF ι 78 n0 i (byA v w)) 10 0 0 37 (nI (n0 + i)) 10 0 0 37 = nI (n0 + i) from up4_s) (by omega) rfl ?_
        refine V_aload_n C d_Mo_say_27 rfl ?_
        refine V_dup C d_Mo_say_28 rfl ?_
        refine V_getI (kx := 37) C d_Mo_say_29 cf_Mo (by decide) k_Mo_252 hM.al rfl ?_
        refine V_iconst (v := 1) C d_Mo_say_32 (by decide) ?_
        rw [show up4 (up4 (filF ι 78 n0 i (byA v w)) 10 0 0 37 (nI (n0 + i))) 78 0 0 (n0 + i) _ 10 0 0 37 = nI (n0 + i) from (up4_ne (by omega)).trans up4_s]
        refine V_iadd C d_Mo_say_33 ?_
        refine V_eqi (nI_1 (n0 + i)) ?_
        refine V_putI (kx := 37) C d_Mo_say_34 cf_Mo (by decide) k_Mo_252 hM.al rfl rfl rfl rfl ?_
        refine V_iinc (v := nI (w - (i + 1)) - 1) (lv' := [(3, _), (0, _), (1, _), (2, _)]) C d_Mo_say_37 rfl (by rw [show w - (i + 1) = w - 1 - i by omega, Int32.sub_eq_add_neg, show Int32.ofInt (-1) = -1 by decide]) (by decide) rfl ?_
        refine V_goto (tgt := 4) C d_Mo_say_40 (by decide) ?_
        refine V_pick [0, 1, 2, 3] rfl ?_
        rw [say_s (ι := ι) (g := byA v w) (n0 := n0) (i := i) (x := v >>> (8 * nI (w - 1 - i) &&& 31) &&& 255) rfl]
        exact ih (i + 1) (by omega) (by omega)
  refine V_iload_n C d_Mo_say_0 rfl ?_
  refine V_iconst (v := 1) C d_Mo_say_1 (by decide) ?_
  refine V_isub C d_Mo_say_2 ?_
  refine V_istore_n (lv' := [(3, _), (0, _), (1, _), (2, _)]) C d_Mo_say_3 (by decide) rfl ?_
  refine V_pick [0, 1, 2, 3] rfl ?_
  refine V_io (show ι = up4 (filF ι 78 n0 0 (byA v w)) 10 0 0 37 (nI (n0 + 0)) by rw [filF_0, Nat.add_zero, up4_id hc]) ?_
  exact loop (w + 1) 0 (by omega) (by omega)
set_option maxHeartbeats 1000000 in
set_option maxRecDepth 10000 in
theorem c_Mo_sumOf {ν : Nu} {ι : Io} {ρ : Ro} {ℓ : Lo} (hM : MoS ν ρ) {n : Nat} (hn : n ≤ 1400) : Ct y_Mo_sumOf (Cond.code y_Mo_sumOf b_Mo_sumOf 4 (some .int) :: tb_) { frames := 0, cells := 0, slots := 0, locals := 0 } [sR 10 0 0, sI (nI n)] ν ι ρ ℓ (pEq (some (sI (sumR (ι 78 0 0) n &&& 65535))) ν ι ρ ℓ) (noX) := by
  refine Ct.ofV (by decide) (Nat.le_of_ble_eq_true rfl) rfl ?_
  intro p l e s m args below meth c D B tW α0 Q C hQ
  have loop : ∀ (f : Nat) (i : Nat), n - i < f → (i ≤ n) → V p l e { frames := 0, cells := 0, slots := 0, locals := 0 } s m args below meth c D B α0 ν 4 Q 0 0 ν ι ρ ℓ 4 [(3, sI (nI i)), (2, sI (sumR (ι 78 0 0) i)), (0, sR 10 0 0), (1, sI (nI n))] [] := by
    intro f
    induction f with
    | zero => intros; omega
    | succ f ih =>
      intro i hf hi0
      refine V_iload_n C d_Mo_sumOf_4 rfl ?_
      refine V_iload_n C d_Mo_sumOf_5 rfl ?_
      refine V_icmp_ge (tgt := 28) C d_Mo_sumOf_6 (by decide) (fun h6 => ?_) (fun h6 => ?_)
      · have hi : i = n := by have := (nI_leI (a := n) (b := i) (by omega) (by omega)).mp h6; omega
        subst hi
        refine V_iload_n C d_Mo_sumOf_28 rfl ?_
        refine V_ldc C d_Mo_sumOf_29 k_Mo_255 ?_
        refine V_iand C d_Mo_sumOf_31 ?_
        refine V_iret C hQ (by decide) (by decide) d_Mo_sumOf_32 rfl ?_
        exact ⟨rfl, rfl, rfl, rfl, rfl⟩
      · have hi : i < n := Nat.lt_of_not_le fun z => h6 ((nI_leI (by omega) (by omega)).mpr z)
        refine V_iload_n C d_Mo_sumOf_9 rfl ?_
        refine V_aload_n C d_Mo_sumOf_10 rfl ?_
        refine V_getR (kx := 38) C d_Mo_sumOf_11 cf_Mo (by decide) k_Mo_90 hM.al rfl hM.r38 ?_
        refine V_iload_n C d_Mo_sumOf_14 rfl ?_
        refine V_iald C d_Mo_sumOf_15 (by decide) rfl hM.n38 rfl (by omega) rfl ?_
        refine V_iload_n C d_Mo_sumOf_16 rfl ?_
        refine V_iconst (v := 1) C d_Mo_sumOf_17 (by decide) ?_
        refine V_iadd C d_Mo_sumOf_18 ?_
        refine V_imul C d_Mo_sumOf_19 ?_
        refine V_iadd C d_Mo_sumOf_20 ?_
        refine V_istore_n (lv' := [(2, _), (3, _), (0, _), (1, _)]) C d_Mo_sumOf_21 (by decide) rfl ?_
        refine V_iinc (v := nI (i + 1)) (lv' := [(3, _), (2, _), (0, _), (1, _)]) C d_Mo_sumOf_22 rfl (nI_1 i) (by decide) rfl ?_
        refine V_goto (tgt := 4) C d_Mo_sumOf_25 (by decide) ?_
        refine V_pick [0, 1, 2, 3] rfl ?_
        exact ih (i + 1) (by omega) (by omega)
  refine V_iconst (v := 0) C d_Mo_sumOf_0 (by decide) ?_
  refine V_istore_n (lv' := [(2, _), (0, _), (1, _)]) C d_Mo_sumOf_1 (by decide) rfl ?_
  refine V_iconst (v := 0) C d_Mo_sumOf_2 (by decide) ?_
  refine V_istore_n (lv' := [(3, _), (2, _), (0, _), (1, _)]) C d_Mo_sumOf_3 (by decide) rfl ?_
  refine V_pick [0, 1, 2, 3] rfl ?_
  exact loop (n + 1) 0 (by omega) (by omega)
set_option maxHeartbeats 1000000 in
set_option maxRecDepth 10000 in
theorem c_Mo_take {ν : Nu} {ι : Io} {ρ : Ro} {ℓ : Lo} (hM : MoS ν ρ) {a w T : Nat} (hc : ι 10 0 0 39 = nI a) (hw : w ≤ 4) (hw0 : 0 < w) (ha : a ≤ 1400) (hT : T ≤ 1400) : Ct y_Mo_take (Cond.code y_Mo_take b_Mo_take 5 (some .int) :: tb_) { frames := 0, cells := 0, slots := 0, locals := 0 } [sR 10 0 0, sI (nI w), sI (nI T)] ν ι ρ ℓ (pEq (some (sI (if a + w ≤ T then beV (ι 78 0 0) a w else 0))) ν (if a + w ≤ T then up4 ι 10 0 0 39 (nI (a + w)) else up4 (up4 ι 10 0 0 39 (nI (max a T))) 10 0 0 40 0) ρ ℓ) (noX) := by
  refine Ct.ofV (by decide) (Nat.le_of_ble_eq_true rfl) rfl ?_
  intro p l e s m args below meth c D B tW α0 Q C hQ
  have loop : ∀ (f : Nat) (i : Nat), w - i < f → (i ≤ w) → (i = 0 ∨ a + i ≤ T) → V p l e { frames := 0, cells := 0, slots := 0, locals := 0 } s m args below meth c D B α0 ν 5 Q 0 0 ν (up4 ι 10 0 0 39 (nI (a + i))) ρ ℓ 5 [(4, sI (nI i)), (3, sI (beV (ι 78 0 0) a i)), (0, sR 10 0 0), (1, sI (nI w)), (2, sI (nI T))] [] := by
    intro f
    induction f with
    | zero => intros; omega
    | succ f ih =>
      intro i hf hi0 hin
      refine V_iload C d_Mo_take_5 rfl ?_
      refine V_iload_n C d_Mo_take_7 rfl ?_
      refine V_icmp_ge (tgt := 57) C d_Mo_take_8 (by decide) (fun h8 => ?_) (fun h8 => ?_)
      · have hi : i = w := by have := (nI_leI (a := w) (b := i) (by omega) (by omega)).mp h8; omega
        subst hi
        have hfit : a + i ≤ T := hin.resolve_left (by omega)
        refine V_iload_n C d_Mo_take_57 rfl ?_
        refine V_iret C hQ (by decide) (by decide) d_Mo_take_58 rfl ?_
        rw [if_pos hfit, if_pos hfit]
        exact ⟨rfl, rfl, rfl, rfl, rfl⟩
      · have hi : i < w := Nat.lt_of_not_le fun z => h8 ((nI_leI (by omega) (by omega)).mpr z)
        refine V_aload_n C d_Mo_take_11 rfl ?_
        refine V_getI (kx := 39) C d_Mo_take_12 cf_Mo (by decide) k_Mo_262 hM.al rfl ?_
        refine V_iload_n C d_Mo_take_15 rfl ?_
        rw [show up4 ι 10 0 0 39 (nI (a + i)) 10 0 0 39 = nI (a + i) from up4_s]
        refine V_icmp_lt (tgt := 26) C d_Mo_take_16 (by decide) (fun h16 => ?_) (fun h16 => ?_)
        · have hlt : a + i < T := (nI_ltI (by omega) (by omega)).mp h16
          refine V_iload_n C d_Mo_take_26 rfl ?_
          refine V_bipush (v := 8) C d_Mo_take_27 (by decide) ?_
          refine V_ishl C d_Mo_take_29 ?_
          refine V_aload_n C d_Mo_take_30 rfl ?_
          refine V_getR (kx := 38) C d_Mo_take_31 cf_Mo (by decide) k_Mo_90 hM.al rfl hM.r38 ?_
          refine V_aload_n C d_Mo_take_34 rfl ?_
          refine V_getI (kx := 39) C d_Mo_take_35 cf_Mo (by decide) k_Mo_262 hM.al rfl ?_
          refine V_iald C d_Mo_take_38 (by decide) rfl hM.n38 up4_s (by omega) rfl ?_
          refine V_ior C d_Mo_take_39 ?_
          refine V_istore_n (lv' := [(3, _), (4, _), (0, _), (1, _), (2, _)]) C d_Mo_take_40 (by decide) rfl ?_
          refine V_aload_n C d_Mo_take_41 rfl ?_
          refine V_dup C d_Mo_take_42 rfl ?_
          refine V_getI (kx := 39) C d_Mo_take_43 cf_Mo (by decide) k_Mo_262 hM.al rfl ?_
          refine V_iconst (v := 1) C d_Mo_take_46 (by decide) ?_
          rw [up4_s]
          refine V_iadd C d_Mo_take_47 ?_
          refine V_eqi (nI_1 (a + i)) ?_
          refine V_putI (kx := 39) C d_Mo_take_48 cf_Mo (by decide) k_Mo_262 hM.al rfl rfl rfl rfl ?_
          refine V_iinc (v := nI (i + 1)) (lv' := [(4, _), (3, _), (0, _), (1, _), (2, _)]) C d_Mo_take_51 rfl (nI_1 i) (by decide) rfl ?_
          refine V_goto (tgt := 5) C d_Mo_take_54 (by decide) ?_
          refine V_pick [0, 1, 2, 3, 4] rfl ?_
          rw [up4_up4]
          exact ih (i + 1) (by omega) (by omega) (by omega)
        · have hge : T ≤ a + i := Nat.le_of_not_lt fun z => h16 ((nI_ltI (by omega) (by omega)).mpr z)
          refine V_aload_n C d_Mo_take_19 rfl ?_
          refine V_iconst (v := 0) C d_Mo_take_20 (by decide) ?_
          refine V_putI (kx := 40) C d_Mo_take_21 cf_Mo (by decide) k_Mo_265 hM.al rfl rfl rfl rfl ?_
          refine V_iconst (v := 0) C d_Mo_take_24 (by decide) ?_
          refine V_iret C hQ (by decide) (by decide) d_Mo_take_25 rfl ?_
          rw [if_neg (by omega), if_neg (by omega), show max a T = a + i by omega]
          exact ⟨rfl, rfl, rfl, rfl, rfl⟩
  refine V_iconst (v := 0) C d_Mo_take_0 (by decide) ?_
  refine V_istore_n (lv' := [(3, _), (0, _), (1, _), (2, _)]) C d_Mo_take_1 (by decide) rfl ?_
  refine V_iconst (v := 0) C d_Mo_take_2 (by decide) ?_
  refine V_istore (lv' := [(4, _), (3, _), (0, _), (1, _), (2, _)]) C d_Mo_take_3 (by decide) rfl ?_
  refine V_pick [0, 1, 2, 3, 4] rfl ?_
  refine V_io (show ι = up4 ι 10 0 0 39 (nI (a + 0)) from (up4_id hc).symm) ?_
  exact loop (w + 1) 0 (by omega) (by omega) (by omega)
set_option maxHeartbeats 1000000 in
set_option maxRecDepth 10000 in
theorem c_Mo_count {ν : Nu} {ι : Io} {ρ : Ro} {ℓ : Lo} (hM : MoS ν ρ) {n : Nat} (hn : ι 10 0 0 1 = nI n) (h12 : n ≤ 12) {x : Int32} : Ct y_Mo_count (Cond.code y_Mo_count b_Mo_count 2 (some .int) :: tb_) { frames := 0, cells := 0, slots := 0, locals := 0 } [sR 10 0 0, sI x] ν ι ρ ℓ (pEq (some (sI (if x = 0 then nI n else if x = 1 then ι 10 0 0 18 else if x = 2 then ι 10 0 0 29 else if x = 3 then ι 10 0 0 30 else if x = 4 then ι 10 0 0 31 else if x = 5 then ι 10 0 0 32 else if x = 6 then ι 10 0 0 37 else if x = 7 then (if n = 0 then -1 else ι 42 0 0 (n - 1)) else if x = 8 then (if n = 0 then -1 else ι 47 0 0 (n - 1)) else if x = 9 then (if n = 0 then -1 else ι 52 0 0 (n - 1)) else -1))) ν (z0 ι) ρ ℓ) (noX) := by
  refine Ct.ofV (by decide) (Nat.le_of_ble_eq_true rfl) rfl ?_
  intro p l e s m args below meth c D B tW α0 Q C hQ
  refine V_aload_n C d_Mo_count_0 rfl ?_
  refine V_iconst (v := 0) C d_Mo_count_1 (by decide) ?_
  refine V_putI (kx := 0) C d_Mo_count_2 cf_Mo (by decide) k_Mo_93 hM.al rfl rfl rfl rfl ?_
  refine V_iload_n C d_Mo_count_5 rfl ?_
  by_cases c6_0 : x = 0
  · subst c6_0
    refine V_tswI (tgt := 60) C d_Mo_count_6 (by decide) (by decide) rfl (by decide) ?_
    refine V_aload_n C d_Mo_count_60 rfl ?_
    refine V_getI (kx := 1) C d_Mo_count_61 cf_Mo (by decide) k_Mo_96 hM.al rfl ?_
    refine V_iret C hQ (by decide) (by decide) d_Mo_count_64 rfl ?_
    exact ⟨congrArg (fun z => some (sI z)) (by clear hQ C; simp_all [up4]), rfl, rfl, rfl, rfl⟩
  by_cases c6_1 : x = 1
  · subst c6_1
    refine V_tswI (tgt := 65) C d_Mo_count_6 (by decide) (by decide) rfl (by decide) ?_
    refine V_aload_n C d_Mo_count_65 rfl ?_
    refine V_getI (kx := 18) C d_Mo_count_66 cf_Mo (by decide) k_Mo_144 hM.al rfl ?_
    refine V_iret C hQ (by decide) (by decide) d_Mo_count_69 rfl ?_
    exact ⟨congrArg (fun z => some (sI z)) (by clear hQ C; simp_all [up4]), rfl, rfl, rfl, rfl⟩
  by_cases c6_2 : x = 2
  · subst c6_2
    refine V_tswI (tgt := 70) C d_Mo_count_6 (by decide) (by decide) rfl (by decide) ?_
    refine V_aload_n C d_Mo_count_70 rfl ?_
    refine V_getI (kx := 29) C d_Mo_count_71 cf_Mo (by decide) k_Mo_192 hM.al rfl ?_
    refine V_iret C hQ (by decide) (by decide) d_Mo_count_74 rfl ?_
    exact ⟨congrArg (fun z => some (sI z)) (by clear hQ C; simp_all [up4]), rfl, rfl, rfl, rfl⟩
  by_cases c6_3 : x = 3
  · subst c6_3
    refine V_tswI (tgt := 75) C d_Mo_count_6 (by decide) (by decide) rfl (by decide) ?_
    refine V_aload_n C d_Mo_count_75 rfl ?_
    refine V_getI (kx := 30) C d_Mo_count_76 cf_Mo (by decide) k_Mo_179 hM.al rfl ?_
    refine V_iret C hQ (by decide) (by decide) d_Mo_count_79 rfl ?_
    exact ⟨congrArg (fun z => some (sI z)) (by clear hQ C; simp_all [up4]), rfl, rfl, rfl, rfl⟩
  by_cases c6_4 : x = 4
  · subst c6_4
    refine V_tswI (tgt := 80) C d_Mo_count_6 (by decide) (by decide) rfl (by decide) ?_
    refine V_aload_n C d_Mo_count_80 rfl ?_
    refine V_getI (kx := 31) C d_Mo_count_81 cf_Mo (by decide) k_Mo_173 hM.al rfl ?_
    refine V_iret C hQ (by decide) (by decide) d_Mo_count_84 rfl ?_
    exact ⟨congrArg (fun z => some (sI z)) (by clear hQ C; simp_all [up4]), rfl, rfl, rfl, rfl⟩
  by_cases c6_5 : x = 5
  · subst c6_5
    refine V_tswI (tgt := 85) C d_Mo_count_6 (by decide) (by decide) rfl (by decide) ?_
    refine V_aload_n C d_Mo_count_85 rfl ?_
    refine V_getI (kx := 32) C d_Mo_count_86 cf_Mo (by decide) k_Mo_182 hM.al rfl ?_
    refine V_iret C hQ (by decide) (by decide) d_Mo_count_89 rfl ?_
    exact ⟨congrArg (fun z => some (sI z)) (by clear hQ C; simp_all [up4]), rfl, rfl, rfl, rfl⟩
  by_cases c6_6 : x = 6
  · subst c6_6
    refine V_tswI (tgt := 90) C d_Mo_count_6 (by decide) (by decide) rfl (by decide) ?_
    refine V_aload_n C d_Mo_count_90 rfl ?_
    refine V_getI (kx := 37) C d_Mo_count_91 cf_Mo (by decide) k_Mo_252 hM.al rfl ?_
    refine V_iret C hQ (by decide) (by decide) d_Mo_count_94 rfl ?_
    exact ⟨congrArg (fun z => some (sI z)) (by clear hQ C; simp_all [up4]), rfl, rfl, rfl, rfl⟩
  by_cases c6_7 : x = 7
  · subst c6_7
    refine V_tswI (tgt := 95) C d_Mo_count_6 (by decide) (by decide) rfl (by decide) ?_
    refine V_aload_n C d_Mo_count_95 rfl ?_
    refine V_getI (kx := 1) C d_Mo_count_96 cf_Mo (by decide) k_Mo_96 hM.al rfl ?_
    rw [show up4 ι 10 0 0 0 0 10 0 0 1 = nI n from hn]
    refine V_if_ne (tgt := 106) C d_Mo_count_99 (by decide) (fun h99 => ?_) (fun h99 => ?_)
    · have hn0 : n ≠ 0 := fun z => h99 (by rw [z]; rfl)
      obtain ⟨n1, rfl⟩ : ∃ k, n = k + 1 := ⟨n - 1, by omega⟩
      refine V_aload_n C d_Mo_count_106 rfl ?_
      refine V_getR (kx := 2) C d_Mo_count_107 cf_Mo (by decide) k_Mo_7 hM.al rfl hM.r2 ?_
      refine V_aload_n C d_Mo_count_110 rfl ?_
      refine V_getI (kx := 1) C d_Mo_count_111 cf_Mo (by decide) k_Mo_96 hM.al rfl ?_
      refine V_iconst (v := 1) C d_Mo_count_114 (by decide) ?_
      refine V_isub C d_Mo_count_115 ?_
      rw [show up4 ι 10 0 0 0 0 10 0 0 1 = nI (n1 + 1) from hn, nI_pred]
      refine V_iald C d_Mo_count_116 (by decide) rfl hM.n2 rfl (by omega) rfl ?_
      refine V_iret C hQ (by decide) (by decide) d_Mo_count_117 rfl ?_
      exact ⟨congrArg (fun z => some (sI z)) (by clear hQ C; simp_all [up4]), rfl, rfl, rfl, rfl⟩
    · have hn0 : n = 0 := (nI_eq (by omega) (by decide)).mp h99
      refine V_iconst (v := (-1)) C d_Mo_count_102 (by decide) ?_
      refine V_goto (tgt := 117) C d_Mo_count_103 (by decide) ?_
      refine V_iret C hQ (by decide) (by decide) d_Mo_count_117 rfl ?_
      exact ⟨congrArg (fun z => some (sI z)) (by clear hQ C; simp_all [up4]), rfl, rfl, rfl, rfl⟩
  by_cases c6_8 : x = 8
  · subst c6_8
    refine V_tswI (tgt := 118) C d_Mo_count_6 (by decide) (by decide) rfl (by decide) ?_
    refine V_aload_n C d_Mo_count_118 rfl ?_
    refine V_getI (kx := 1) C d_Mo_count_119 cf_Mo (by decide) k_Mo_96 hM.al rfl ?_
    rw [show up4 ι 10 0 0 0 0 10 0 0 1 = nI n from hn]
    refine V_if_ne (tgt := 129) C d_Mo_count_122 (by decide) (fun h122 => ?_) (fun h122 => ?_)
    · have hn0 : n ≠ 0 := fun z => h122 (by rw [z]; rfl)
      obtain ⟨n1, rfl⟩ : ∃ k, n = k + 1 := ⟨n - 1, by omega⟩
      refine V_aload_n C d_Mo_count_129 rfl ?_
      refine V_getR (kx := 7) C d_Mo_count_130 cf_Mo (by decide) k_Mo_25 hM.al rfl hM.r7 ?_
      refine V_aload_n C d_Mo_count_133 rfl ?_
      refine V_getI (kx := 1) C d_Mo_count_134 cf_Mo (by decide) k_Mo_96 hM.al rfl ?_
      refine V_iconst (v := 1) C d_Mo_count_137 (by decide) ?_
      refine V_isub C d_Mo_count_138 ?_
      rw [show up4 ι 10 0 0 0 0 10 0 0 1 = nI (n1 + 1) from hn, nI_pred]
      refine V_iald C d_Mo_count_139 (by decide) rfl hM.n7 rfl (by omega) rfl ?_
      refine V_iret C hQ (by decide) (by decide) d_Mo_count_140 rfl ?_
      exact ⟨congrArg (fun z => some (sI z)) (by clear hQ C; simp_all [up4]), rfl, rfl, rfl, rfl⟩
    · have hn0 : n = 0 := (nI_eq (by omega) (by decide)).mp h122
      refine V_iconst (v := (-1)) C d_Mo_count_125 (by decide) ?_
      refine V_goto (tgt := 140) C d_Mo_count_126 (by decide) ?_
      refine V_iret C hQ (by decide) (by decide) d_Mo_count_140 rfl ?_
      exact ⟨congrArg (fun z => some (sI z)) (by clear hQ C; simp_all [up4]), rfl, rfl, rfl, rfl⟩
  by_cases c6_9 : x = 9
  · subst c6_9
    refine V_tswI (tgt := 141) C d_Mo_count_6 (by decide) (by decide) rfl (by decide) ?_
    refine V_aload_n C d_Mo_count_141 rfl ?_
    refine V_getI (kx := 1) C d_Mo_count_142 cf_Mo (by decide) k_Mo_96 hM.al rfl ?_
    rw [show up4 ι 10 0 0 0 0 10 0 0 1 = nI n from hn]
    refine V_if_ne (tgt := 152) C d_Mo_count_145 (by decide) (fun h145 => ?_) (fun h145 => ?_)
    · have hn0 : n ≠ 0 := fun z => h145 (by rw [z]; rfl)
      obtain ⟨n1, rfl⟩ : ∃ k, n = k + 1 := ⟨n - 1, by omega⟩
      refine V_aload_n C d_Mo_count_152 rfl ?_
      refine V_getR (kx := 12) C d_Mo_count_153 cf_Mo (by decide) k_Mo_40 hM.al rfl hM.r12 ?_
      refine V_aload_n C d_Mo_count_156 rfl ?_
      refine V_getI (kx := 1) C d_Mo_count_157 cf_Mo (by decide) k_Mo_96 hM.al rfl ?_
      refine V_iconst (v := 1) C d_Mo_count_160 (by decide) ?_
      refine V_isub C d_Mo_count_161 ?_
      rw [show up4 ι 10 0 0 0 0 10 0 0 1 = nI (n1 + 1) from hn, nI_pred]
      refine V_iald C d_Mo_count_162 (by decide) rfl hM.n12 rfl (by omega) rfl ?_
      refine V_iret C hQ (by decide) (by decide) d_Mo_count_163 rfl ?_
      exact ⟨congrArg (fun z => some (sI z)) (by clear hQ C; simp_all [up4]), rfl, rfl, rfl, rfl⟩
    · have hn0 : n = 0 := (nI_eq (by omega) (by decide)).mp h145
      refine V_iconst (v := (-1)) C d_Mo_count_148 (by decide) ?_
      refine V_goto (tgt := 163) C d_Mo_count_149 (by decide) ?_
      refine V_iret C hQ (by decide) (by decide) d_Mo_count_163 rfl ?_
      exact ⟨congrArg (fun z => some (sI z)) (by clear hQ C; simp_all [up4]), rfl, rfl, rfl, rfl⟩
  refine V_tswO (tgt := 164) C d_Mo_count_6 (tsw_out (lo := 0) 10 (by decide) (fun t ht => ?_)) (by decide) ?_
  · rcases (show t = 0 ∨ t = 1 ∨ t = 2 ∨ t = 3 ∨ t = 4 ∨ t = 5 ∨ t = 6 ∨ t = 7 ∨ t = 8 ∨ t = 9 by omega) with rfl | rfl | rfl | rfl | rfl | rfl | rfl | rfl | rfl | rfl <;> assumption
  refine V_iconst (v := (-1)) C d_Mo_count_164 (by decide) ?_
  refine V_iret C hQ (by decide) (by decide) d_Mo_count_165 rfl ?_
  exact ⟨congrArg (fun z => some (sI z)) (by clear hQ C; simp_all [up4]), rfl, rfl, rfl, rfl⟩
