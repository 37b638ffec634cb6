abbrev isOb (ι : Io) (o : Int32) : Prop := 0 ≤ o ∧ o ≤ ι 10 0 0 1 - 1
theorem isOb_of {ι : Io} {o : Int32} {n : Nat} (hn : ι 10 0 0 1 = nI n) (h12 : n ≤ 12) (h : isOb ι o) : ∃ t, t < n ∧ o = nI t := by
  obtain ⟨h1, h2⟩ := h
  rw [hn] at h2
  have e : (nI n - 1).toInt = (n : Int) - 1 := pk_sub_toInt (a := n) (b := 1) (by omega) (by decide)
  have h3 := Int32.le_iff_toInt_le.mp h2
  have h4 := Int32.le_iff_toInt_le.mp h1
  rw [e] at h3
  have z : (0 : Int32).toInt = 0 := rfl
  rw [z] at h4
  refine ⟨o.toInt.toNat, by omega, ?_⟩
  apply Int32.toInt_inj.mp
  rw [nI_toInt (by omega)]
  omega
theorem isOb_to {ι : Io} {t n : Nat} (hn : ι 10 0 0 1 = nI n) (h12 : n ≤ 12) (h : t < n) : isOb ι (nI t) := by
  unfold isOb
  rw [hn]
  refine ⟨nI_pos' (by omega), Int32.le_iff_toInt_le.mpr ?_⟩
  rw [show (nI n - 1).toInt = (n : Int) - 1 from pk_sub_toInt (a := n) (b := 1) (by omega) (by decide), nI_toInt (by omega)]
  omega
def mEmpty (ι : Io) (t : Nat) : Io := up4 (up4 (up4 ι 42 0 0 t 0) 47 0 0 t 0) 52 0 0 t 0
def mAddSec (ι : Io) (t : Nat) (k q n : Int32) : Io := up4 (fil (up4 (up4 (up4 ι 43 0 0 (8 * t + mn ι 42 t) k) 44 0 0 (8 * t + mn ι 42 t) q) 45 0 0 (8 * t + mn ι 42 t) n) 46 (128 * (8 * t + mn ι 42 t)) 128 0) 42 0 0 t (ι 42 0 0 t + 1)
set_option maxHeartbeats 1000000 in
set_option maxRecDepth 10000 in
theorem c_Mo_isObject {ν : Nu} {ι : Io} {ρ : Ro} {ℓ : Lo} (hM : MoS ν ρ) {o : Int32} : Ct y_Mo_isObject (Cond.code y_Mo_isObject b_Mo_isObject 2 (some .boolean) :: tb_) { frames := 1, cells := 0, slots := 0, locals := 22 } [sR 10 0 0, sI o] ν ι ρ ℓ (pEq (some (sI (b2 (isOb ι o)))) ν (up4 ι 10 0 0 0 (if isOb ι o then 0 else 1)) ρ ℓ) (noX) := by
  refine Ct.ofV (by decide) (Nat.le_of_ble_eq_true rfl) rfl ?_
  intro p l e s m args below meth c D B tW α0 Q C hQ
  refine V_aload_n C d_Mo_isObject_0 rfl ?_
  refine V_iload_n C d_Mo_isObject_1 rfl ?_
  refine V_iconst (v := 0) C d_Mo_isObject_2 (by decide) ?_
  refine V_aload_n C d_Mo_isObject_3 rfl ?_
  refine V_getI (kx := 1) C d_Mo_isObject_4 cf_Mo (by decide) k_Mo_96 hM.al rfl ?_
  refine V_iconst (v := 1) C d_Mo_isObject_7 (by decide) ?_
  refine V_isub C d_Mo_isObject_8 ?_
  refine V_callS (as := [_, _, _]) C d_Mo_isObject_9 c_Mo_within m_Mo_within k_Mo_99 ⟨by decide, by decide⟩ (Nat.le_of_ble_eq_true rfl) ⟨by decide, by decide⟩ rfl ?_
  rintro _ _ _ _ _ ⟨rfl, rfl, rfl, rfl, rfl⟩
  dsimp only [Option.toList, List.cons_append, List.nil_append]
  refine V_if_eq (tgt := 19) C d_Mo_isObject_12 (by decide) (fun h12 => ?_) (fun h12 => ?_)
  · refine V_iconst (v := 1) C d_Mo_isObject_19 (by decide) ?_
    refine V_putI (kx := 0) C d_Mo_isObject_20 cf_Mo (by decide) k_Mo_93 hM.al rfl rfl rfl rfl ?_
    refine V_aload_n C d_Mo_isObject_23 rfl ?_
    refine V_getI (kx := 0) C d_Mo_isObject_24 cf_Mo (by decide) k_Mo_93 hM.al rfl ?_
    refine V_if_ne (tgt := 34) C d_Mo_isObject_27 (by decide) (fun h27 => ?_) (fun h27 => ?_)
    · refine V_iconst (v := 0) C d_Mo_isObject_34 (by decide) ?_
      refine V_zret C hQ (by decide) (by decide) d_Mo_isObject_35 rfl rfl ?_
      refine ⟨congrArg (fun z => some (sI z)) ?_, rfl, congrArg (up4 ι 10 0 0 0) ?_, rfl, rfl⟩ <;> (clear hQ C; simp only [up4_s] at *; unfold b2 at *; grind)
    · refine V_iconst (v := 1) C d_Mo_isObject_30 (by decide) ?_
      refine V_goto (tgt := 35) C d_Mo_isObject_31 (by decide) ?_
      refine V_zret C hQ (by decide) (by decide) d_Mo_isObject_35 rfl rfl ?_
      refine ⟨congrArg (fun z => some (sI z)) ?_, rfl, congrArg (up4 ι 10 0 0 0) ?_, rfl, rfl⟩ <;> (clear hQ C; simp only [up4_s] at *; unfold b2 at *; grind)
  · refine V_iconst (v := 0) C d_Mo_isObject_15 (by decide) ?_
    refine V_goto (tgt := 20) C d_Mo_isObject_16 (by decide) ?_
    refine V_putI (kx := 0) C d_Mo_isObject_20 cf_Mo (by decide) k_Mo_93 hM.al rfl rfl rfl rfl ?_
    refine V_aload_n C d_Mo_isObject_23 rfl ?_
    refine V_getI (kx := 0) C d_Mo_isObject_24 cf_Mo (by decide) k_Mo_93 hM.al rfl ?_
    refine V_if_ne (tgt := 34) C d_Mo_isObject_27 (by decide) (fun h27 => ?_) (fun h27 => ?_)
    · refine V_iconst (v := 0) C d_Mo_isObject_34 (by decide) ?_
      refine V_zret C hQ (by decide) (by decide) d_Mo_isObject_35 rfl rfl ?_
      refine ⟨congrArg (fun z => some (sI z)) ?_, rfl, congrArg (up4 ι 10 0 0 0) ?_, rfl, rfl⟩ <;> (clear hQ C; simp only [up4_s] at *; unfold b2 at *; grind)
    · refine V_iconst (v := 1) C d_Mo_isObject_30 (by decide) ?_
      refine V_goto (tgt := 35) C d_Mo_isObject_31 (by decide) ?_
      refine V_zret C hQ (by decide) (by decide) d_Mo_isObject_35 rfl rfl ?_
      refine ⟨congrArg (fun z => some (sI z)) ?_, rfl, congrArg (up4 ι 10 0 0 0) ?_, rfl, rfl⟩ <;> (clear hQ C; simp only [up4_s] at *; unfold b2 at *; grind)
set_option maxHeartbeats 1000000 in
set_option maxRecDepth 10000 in
theorem c_Mo_emptyObject {ν : Nu} {ι : Io} {ρ : Ro} {ℓ : Lo} (hM : MoS ν ρ) {t : Nat} (ht : t < 13) : Ct y_Mo_emptyObject (Cond.code y_Mo_emptyObject b_Mo_emptyObject 2 none :: tb_) { frames := 0, cells := 0, slots := 0, locals := 0 } [sR 10 0 0, sI (nI t)] ν ι ρ ℓ (pEq none ν (mEmpty ι t) ρ ℓ) (noX) := by
  refine Ct.ofV (by decide) (Nat.le_of_ble_eq_true rfl) rfl ?_
  intro p l e s m args below meth c D B tW α0 Q C hQ
  refine V_aload_n C d_Mo_emptyObject_0 rfl ?_
  refine V_getR (kx := 2) C d_Mo_emptyObject_1 cf_Mo (by decide) k_Mo_7 hM.al rfl hM.r2 ?_
  refine V_iload_n C d_Mo_emptyObject_4 rfl ?_
  refine V_iconst (v := 0) C d_Mo_emptyObject_5 (by decide) ?_
  refine V_iast C d_Mo_emptyObject_6 (by decide) rfl hM.n2 rfl (by assumption) rfl ?_
  refine V_aload_n C d_Mo_emptyObject_7 rfl ?_
  refine V_getR (kx := 7) C d_Mo_emptyObject_8 cf_Mo (by decide) k_Mo_25 hM.al rfl hM.r7 ?_
  refine V_iload_n C d_Mo_emptyObject_11 rfl ?_
  refine V_iconst (v := 0) C d_Mo_emptyObject_12 (by decide) ?_
  refine V_iast C d_Mo_emptyObject_13 (by decide) rfl hM.n7 rfl (by assumption) rfl ?_
  refine V_aload_n C d_Mo_emptyObject_14 rfl ?_
  refine V_getR (kx := 12) C d_Mo_emptyObject_15 cf_Mo (by decide) k_Mo_40 hM.al rfl hM.r12 ?_
  refine V_iload_n C d_Mo_emptyObject_18 rfl ?_
  refine V_iconst (v := 0) C d_Mo_emptyObject_19 (by decide) ?_
  refine V_iast C d_Mo_emptyObject_20 (by decide) rfl hM.n12 rfl (by assumption) rfl ?_
  refine V_vret C hQ (by decide) (by decide) d_Mo_emptyObject_21 rfl ?_
  exact ⟨rfl, rfl, rfl, rfl, rfl⟩
set_option maxHeartbeats 1000000 in
set_option maxRecDepth 10000 in
theorem c_Mo_object {ν : Nu} {ι : Io} {ρ : Ro} {ℓ : Lo} (hM : MoS ν ρ) {n : Nat} (hn : ι 10 0 0 1 = nI n) (h12 : n ≤ 12) : Ct y_Mo_object (Cond.code y_Mo_object b_Mo_object 1 (some .int) :: tb_) { frames := 1, cells := 0, slots := 0, locals := 21 } [sR 10 0 0] ν ι ρ ℓ (pEq (some (sI (if n = 12 then 0 else nI n))) ν (if n = 12 then up4 (up4 ι 10 0 0 0 0) 10 0 0 0 1 else up4 (mEmpty (up4 ι 10 0 0 0 0) n) 10 0 0 1 (nI (n + 1))) ρ ℓ) (noX) := by
  refine Ct.ofV (by decide) (Nat.le_of_ble_eq_true rfl) rfl ?_
  intro p l e s m args below meth c D B tW α0 Q C hQ
  refine V_aload_n C d_Mo_object_0 rfl ?_
  refine V_iconst (v := 0) C d_Mo_object_1 (by decide) ?_
  refine V_putI (kx := 0) C d_Mo_object_2 cf_Mo (by decide) k_Mo_93 hM.al rfl rfl rfl rfl ?_
  refine V_aload_n C d_Mo_object_5 rfl ?_
  refine V_getI (kx := 1) C d_Mo_object_6 cf_Mo (by decide) k_Mo_96 hM.al rfl ?_
  refine V_bipush (v := 12) C d_Mo_object_9 (by decide) ?_
  rw [up4_ne (by decide), hn]
  refine V_icmp_ne (tgt := 20) C d_Mo_object_11 (by decide) (fun h11 => ?_) (fun h11 => ?_)
  · refine V_aload_n C d_Mo_object_20 rfl ?_
    refine V_aload_n C d_Mo_object_21 rfl ?_
    refine V_getI (kx := 1) C d_Mo_object_22 cf_Mo (by decide) k_Mo_96 hM.al rfl ?_
    rw [up4_ne (by decide), hn]
    refine V_callV (as := [_]) C d_Mo_object_25 (c_Mo_emptyObject hM (t := n) (by have : n ≠ 12 := fun z => h11 (by rw [z]; rfl); omega)) m_Mo_emptyObject cf_Mo k_Mo_107 hM.al ⟨by decide, by decide⟩ (Nat.le_of_ble_eq_true rfl) ⟨by decide, by decide⟩ rfl ?_
    rintro _ _ _ _ _ ⟨rfl, rfl, rfl, rfl, rfl⟩
    dsimp only [Option.toList, List.cons_append, List.nil_append]
    refine V_aload_n C d_Mo_object_28 rfl ?_
    refine V_dup C d_Mo_object_29 rfl ?_
    refine V_getI (kx := 1) C d_Mo_object_30 cf_Mo (by decide) k_Mo_96 hM.al rfl ?_
    refine V_iconst (v := 1) C d_Mo_object_33 (by decide) ?_
    rw [show mEmpty (up4 ι 10 0 0 0 0) n 10 0 0 1 = nI n from hn]
    refine V_iadd C d_Mo_object_34 ?_
    refine V_eqi (nI_1 n) ?_
    refine V_putI (kx := 1) C d_Mo_object_35 cf_Mo (by decide) k_Mo_96 hM.al rfl rfl rfl rfl ?_
    refine V_aload_n C d_Mo_object_38 rfl ?_
    refine V_getI (kx := 1) C d_Mo_object_39 cf_Mo (by decide) k_Mo_96 hM.al rfl ?_
    rw [up4_s]
    refine V_iconst (v := 1) C d_Mo_object_42 (by decide) ?_
    refine V_isub C d_Mo_object_43 ?_
    refine V_iret C hQ (by decide) (by decide) d_Mo_object_44 rfl ?_
    have e12 : n ≠ 12 := fun z => h11 (by rw [z]; rfl)
    rw [if_neg e12, if_neg e12]
    exact ⟨congrArg (fun z => some (sI z)) (nI_pred n).symm, rfl, rfl, rfl, rfl⟩
  · refine V_aload_n C d_Mo_object_14 rfl ?_
    refine V_iconst (v := 1) C d_Mo_object_15 (by decide) ?_
    refine V_callV (as := [_]) C d_Mo_object_16 (c_Mo_fail hM) m_Mo_fail cf_Mo k_Mo_103 hM.al ⟨by decide, by decide⟩ (Nat.le_of_ble_eq_true rfl) ⟨by decide, by decide⟩ rfl ?_
    rintro _ _ _ _ _ ⟨rfl, rfl, rfl, rfl, rfl⟩
    dsimp only [Option.toList, List.cons_append, List.nil_append]
    refine V_iret C hQ (by decide) (by decide) d_Mo_object_19 rfl ?_
    have e12 : n = 12 := (nI_eq (by omega) (by decide)).mp h11
    rw [if_pos e12, if_pos e12]
    exact ⟨rfl, rfl, rfl, rfl, rfl⟩
set_option maxHeartbeats 1000000 in
set_option maxRecDepth 10000 in
theorem c_Mo_hasSection {ν : Nu} {ι : Io} {ρ : Ro} {ℓ : Lo} (hM : MoS ν ρ) {t : Nat} (ht : t < 13) {x : Int32} : Ct y_Mo_hasSection (Cond.code y_Mo_hasSection b_Mo_hasSection 3 (some .boolean) :: tb_) { frames := 1, cells := 0, slots := 0, locals := 22 } [sR 10 0 0, sI (nI t), sI x] ν ι ρ ℓ (pEq (some (sI (b2 (0 ≤ x ∧ x ≤ ι 42 0 0 t - 1)))) ν ι ρ ℓ) (noX) := by
  refine Ct.ofV (by decide) (Nat.le_of_ble_eq_true rfl) rfl ?_
  intro p l e s m args below meth c D B tW α0 Q C hQ
  refine V_iload_n C d_Mo_hasSection_0 rfl ?_
  refine V_iconst (v := 0) C d_Mo_hasSection_1 (by decide) ?_
  refine V_aload_n C d_Mo_hasSection_2 rfl ?_
  refine V_getR (kx := 2) C d_Mo_hasSection_3 cf_Mo (by decide) k_Mo_7 hM.al rfl hM.r2 ?_
  refine V_iload_n C d_Mo_hasSection_6 rfl ?_
  refine V_iald C d_Mo_hasSection_7 (by decide) rfl hM.n2 rfl (by assumption) rfl ?_
  refine V_iconst (v := 1) C d_Mo_hasSection_8 (by decide) ?_
  refine V_isub C d_Mo_hasSection_9 ?_
  refine V_callS (as := [_, _, _]) C d_Mo_hasSection_10 c_Mo_within m_Mo_within k_Mo_99 ⟨by decide, by decide⟩ (Nat.le_of_ble_eq_true rfl) ⟨by decide, by decide⟩ rfl ?_
  rintro _ _ _ _ _ ⟨rfl, rfl, rfl, rfl, rfl⟩
  dsimp only [Option.toList, List.cons_append, List.nil_append]
  refine V_zret C hQ (by decide) (by decide) d_Mo_hasSection_13 rfl (b2_nar _) ?_
  exact ⟨rfl, rfl, rfl, rfl, rfl⟩
set_option maxHeartbeats 1000000 in
set_option maxRecDepth 10000 in
theorem c_Mo_addSection {ν : Nu} {ι : Io} {ρ : Ro} {ℓ : Lo} (hM : MoS ν ρ) (hb : bd ι 42 13 8) {t : Nat} (ht : t < 13) (h7 : mn ι 42 t < 8) {k q n : Int32} : Ct y_Mo_addSection (Cond.code y_Mo_addSection b_Mo_addSection 7 none :: tb_) { frames := 0, cells := 0, slots := 0, locals := 0 } [sR 10 0 0, sI (nI t), sI k, sI q, sI n] ν ι ρ ℓ (pEq none ν (mAddSec ι t k q n) ρ ℓ) (noX) := by
  refine Ct.ofV (by decide) (Nat.le_of_ble_eq_true rfl) rfl ?_
  intro p l e s m args below meth c D B tW α0 Q C hQ
  have hle := hb.le ht
  have loop : ∀ (f : Nat) (i : Nat), 128 - i < f → (i ≤ 128) → V p l e { frames := 0, cells := 0, slots := 0, locals := 0 } s m args below meth c D B α0 ν 7 Q 0 0 ν (fil (up4 (up4 (up4 ι 43 0 0 (8 * t + mn ι 42 t) k) 44 0 0 (8 * t + mn ι 42 t) q) 45 0 0 (8 * t + mn ι 42 t) n) 46 (128 * (8 * t + mn ι 42 t)) i 0) ρ ℓ 41 [(6, sI (nI i)), (5, sI (nI (8 * t + mn ι 42 t))), (0, sR 10 0 0), (1, sI (nI t)), (2, sI k), (3, sI q), (4, sI n)] [] := by
    intro f
    induction f with
    | zero => intros; omega
    | succ f ih =>
      intro i hf hi0
      refine V_iload C d_Mo_addSection_41 rfl ?_
      refine V_sipush (v := 128) C d_Mo_addSection_43 (by decide) ?_
      refine V_icmp_ge (tgt := 70) C d_Mo_addSection_46 (by decide) (fun h46 => ?_) (fun h46 => ?_)
      · have hi : i = 128 := by have := (nI_leI (a := 128) (b := i) (by decide) (by omega)).mp h46; omega
        subst hi
        refine V_aload_n C d_Mo_addSection_70 rfl ?_
        refine V_getR (kx := 2) C d_Mo_addSection_71 cf_Mo (by decide) k_Mo_7 hM.al rfl hM.r2 ?_
        refine V_iload_n C d_Mo_addSection_74 rfl ?_
        refine V_dup2 C d_Mo_addSection_75 rfl rfl ?_
        refine V_iald C d_Mo_addSection_76 (by decide) rfl hM.n2 rfl ht rfl ?_
        refine V_iconst (v := 1) C d_Mo_addSection_77 (by decide) ?_
        refine V_iadd C d_Mo_addSection_78 ?_
        refine V_iast C d_Mo_addSection_79 (by decide) rfl hM.n2 rfl ht rfl ?_
        refine V_vret C hQ (by decide) (by decide) d_Mo_addSection_80 rfl ?_
        exact ⟨rfl, rfl, rfl, rfl, rfl⟩
      · have hi : i < 128 := Nat.lt_of_not_le fun z => h46 ((nI_leI (a := 128) (b := i) (by decide) (by omega)).mpr z)
        refine V_aload_n C d_Mo_addSection_49 rfl ?_
        refine V_getR (kx := 6) C d_Mo_addSection_50 cf_Mo (by decide) k_Mo_22 hM.al rfl hM.r6 ?_
        refine V_sipush (v := 128) C d_Mo_addSection_53 (by decide) ?_
        refine V_iload C d_Mo_addSection_56 rfl ?_
        refine V_imul C d_Mo_addSection_58 ?_
        refine V_iload C d_Mo_addSection_59 rfl ?_
        refine V_iadd C d_Mo_addSection_61 ?_
        refine V_iconst (v := 0) C d_Mo_addSection_62 (by decide) ?_
        refine V_iast C d_Mo_addSection_63 (by decide) rfl hM.n6 (show nI 128 * nI (8 * t + mn ι 42 t) + nI i = nI (128 * (8 * t + mn ι 42 t) + i) from ixa ..) (by omega) rfl ?_
        refine V_iinc (v := nI (i + 1)) (lv' := [(6, _), (5, _), (0, _), (1, _), (2, _), (3, _), (4, _)]) C d_Mo_addSection_64 rfl (nI_1 i) (by decide) rfl ?_
        refine V_goto (tgt := 41) C d_Mo_addSection_67 (by decide) ?_
        refine V_pick [0, 1, 2, 3, 4, 5, 6] rfl ?_
        rw [fil_s]
        exact ih (i + 1) (by omega) (by omega)
  refine V_bipush (v := 8) C d_Mo_addSection_0 (by decide) ?_
  refine V_iload_n C d_Mo_addSection_2 rfl ?_
  refine V_imul C d_Mo_addSection_3 ?_
  refine V_aload_n C d_Mo_addSection_4 rfl ?_
  refine V_getR (kx := 2) C d_Mo_addSection_5 cf_Mo (by decide) k_Mo_7 hM.al rfl hM.r2 ?_
  refine V_iload_n C d_Mo_addSection_8 rfl ?_
  refine V_iald C d_Mo_addSection_9 (by decide) rfl hM.n2 rfl ht rfl ?_
  refine V_iadd C d_Mo_addSection_10 ?_
  rw [hb.eq ht]
  refine V_eqi (ixa 8 t (mn ι 42 t)) ?_
  refine V_istore (lv' := [(5, _), (0, _), (1, _), (2, _), (3, _), (4, _)]) C d_Mo_addSection_11 (by decide) rfl ?_
  refine V_aload_n C d_Mo_addSection_13 rfl ?_
  refine V_getR (kx := 3) C d_Mo_addSection_14 cf_Mo (by decide) k_Mo_13 hM.al rfl hM.r3 ?_
  refine V_iload C d_Mo_addSection_17 rfl ?_
  refine V_iload_n C d_Mo_addSection_19 rfl ?_
  refine V_iast C d_Mo_addSection_20 (by decide) rfl hM.n3 rfl (show 8 * t + mn ι 42 t < 104 by omega) rfl ?_
  refine V_aload_n C d_Mo_addSection_21 rfl ?_
  refine V_getR (kx := 4) C d_Mo_addSection_22 cf_Mo (by decide) k_Mo_16 hM.al rfl hM.r4 ?_
  refine V_iload C d_Mo_addSection_25 rfl ?_
  refine V_iload_n C d_Mo_addSection_27 rfl ?_
  refine V_iast C d_Mo_addSection_28 (by decide) rfl hM.n4 rfl (show 8 * t + mn ι 42 t < 104 by omega) rfl ?_
  refine V_aload_n C d_Mo_addSection_29 rfl ?_
  refine V_getR (kx := 5) C d_Mo_addSection_30 cf_Mo (by decide) k_Mo_19 hM.al rfl hM.r5 ?_
  refine V_iload C d_Mo_addSection_33 rfl ?_
  refine V_iload C d_Mo_addSection_35 rfl ?_
  refine V_iast C d_Mo_addSection_37 (by decide) rfl hM.n5 rfl (show 8 * t + mn ι 42 t < 104 by omega) rfl ?_
  refine V_iconst (v := 0) C d_Mo_addSection_38 (by decide) ?_
  refine V_istore (lv' := [(6, _), (5, _), (0, _), (1, _), (2, _), (3, _), (4, _)]) C d_Mo_addSection_39 (by decide) rfl ?_
  refine V_pick [0, 1, 2, 3, 4, 5, 6] rfl ?_
  rw [← fil_0 (ι := up4 (up4 (up4 ι 43 0 0 (8 * t + mn ι 42 t) k) 44 0 0 (8 * t + mn ι 42 t) q) 45 0 0 (8 * t + mn ι 42 t) n) (r := 46) (a := 128 * (8 * t + mn ι 42 t)) (x := 0)]
  exact loop 129 0 (by omega) (by omega)
