theorem rng_of {x : Int32} {a : Nat} (ha : a < 1000000) (h : 0 ≤ x ∧ x ≤ nI a - 1) : ∃ j, j < a ∧ x = nI j := by
  obtain ⟨h1, h2⟩ := h
  have e : (nI a - 1).toInt = (a : Int) - 1 := pk_sub_toInt (a := a) (b := 1) (by omega) (by decide)
  have h3 := Int32.le_iff_toInt_le.mp h2
  have h4 := Int32.le_iff_toInt_le.mp h1
  rw [e] at h3
  have z : (0 : Int32).toInt = 0 := rfl
  rw [z] at h4
  refine ⟨x.toInt.toNat, by omega, ?_⟩
  apply Int32.toInt_inj.mp
  rw [nI_toInt (by omega)]
  omega
theorem rng_to {j a : Nat} (ha : a < 1000000) (h : j < a) : 0 ≤ nI j ∧ nI j ≤ nI a - 1 := by
  refine ⟨nI_pos' (by omega), Int32.le_iff_toInt_le.mpr ?_⟩
  rw [show (nI a - 1).toInt = (a : Int) - 1 from pk_sub_toInt (a := a) (b := 1) (by omega) (by decide), nI_toInt (by omega)]
  omega
def hasNk (ι : Io) (t : Nat) (x : Int32) (c : Nat) : Bool := (List.range c).any (fun k => ι 48 0 0 (12 * t + k) == x)
theorem hasNk_s (ι : Io) (t : Nat) (x : Int32) (c : Nat) : hasNk ι t x (c + 1) = (hasNk ι t x c || ι 48 0 0 (12 * t + c) == x) := by
  unfold hasNk
  rw [List.range_succ, List.any_append]
  simp
theorem hasNk_0 (ι : Io) (t : Nat) (x : Int32) : hasNk ι t x 0 = false := rfl
abbrev isSc (k q n : Int32) : Prop := (0 ≤ k ∧ k ≤ 3) ∧ (0 ≤ q ∧ q ≤ 6) ∧ (0 ≤ n ∧ n ≤ 128)
abbrev isNm (ι : Io) (t : Nat) (n k s q : Int32) : Prop := (0 ≤ k ∧ k ≤ 3) ∧ hasNk ι t n (mn ι 47 t) = false ∧ ((k = 3 ∧ s = 0 ∧ q = 0) ∨ (k = 2 ∧ (0 ≤ s ∧ s ≤ 6) ∧ (1 ≤ q ∧ q ≤ 1024)) ∨ (¬ k = 3 ∧ ¬ k = 2 ∧ (0 ≤ s ∧ s ≤ ι 42 0 0 t - 1) ∧ (0 ≤ q ∧ q ≤ ι 45 0 0 (8 * t + s.toNatClampNeg))))
abbrev isRf (ι : Io) (t : Nat) (s q w n : Int32) : Prop := (0 ≤ s ∧ s ≤ ι 42 0 0 t - 1) ∧ ¬ ι 43 0 0 (8 * t + s.toNatClampNeg) = 3 ∧ (0 ≤ q ∧ q ≤ ι 45 0 0 (8 * t + s.toNatClampNeg)) ∧ (0 ≤ w ∧ w ≤ 4) ∧ (0 ≤ n ∧ n ≤ ι 47 0 0 t - 1)
def mAddName (ι : Io) (t : Nat) (n k s q : Int32) : Io := up4 (up4 (up4 (up4 (up4 ι 48 0 0 (12 * t + mn ι 47 t) n) 49 0 0 (12 * t + mn ι 47 t) k) 50 0 0 (12 * t + mn ι 47 t) s) 51 0 0 (12 * t + mn ι 47 t) q) 47 0 0 t (ι 47 0 0 t + 1)
def mAddRef (ι : Io) (t : Nat) (s q w n a : Int32) : Io := up4 (up4 (up4 (up4 (up4 (up4 ι 53 0 0 (16 * t + mn ι 52 t) s) 54 0 0 (16 * t + mn ι 52 t) q) 55 0 0 (16 * t + mn ι 52 t) w) 56 0 0 (16 * t + mn ι 52 t) n) 57 0 0 (16 * t + mn ι 52 t) a) 52 0 0 t (ι 52 0 0 t + 1)
abbrev z0 (ι : Io) : Io := up4 ι 10 0 0 0 0
set_option maxHeartbeats 1000000 in
set_option maxRecDepth 10000 in
theorem c_Mo_section_no {ν : Nu} {ι : Io} {ρ : Ro} {ℓ : Lo} (hM : MoS ν ρ) {o v0 v1 v2 : Int32} (hno : ¬ isOb ι o) : Ct y_Mo_section (Cond.code y_Mo_section b_Mo_section 5 (some .int) :: tb_) { frames := 2, cells := 0, slots := 0, locals := 44 } [sR 10 0 0, sI o, sI v0, sI v1, sI v2] ν ι ρ ℓ (pEq (some (sI 0)) ν (up4 ι 10 0 0 0 1) ρ ℓ) (noX) := by
  refine Ct.ofV (by decide) (Nat.le_of_ble_eq_true rfl) rfl ?_
  intro p l e s m args below meth c D B tW α0 Q C hQ
  refine V_aload_n C d_Mo_section_0 rfl ?_
  refine V_iload_n C d_Mo_section_1 rfl ?_
  refine V_callV (as := [_]) C d_Mo_section_2 (c_Mo_isObject hM) m_Mo_isObject cf_Mo k_Mo_111 hM.al ⟨by decide, by decide⟩ (Nat.le_of_ble_eq_true rfl) ⟨by decide, by decide⟩ rfl ?_
  rintro _ _ _ _ _ ⟨rfl, rfl, rfl, rfl, rfl⟩
  rw [if_neg hno]
  dsimp only [Option.toList, List.cons_append, List.nil_append]
  refine V_if_ne (tgt := 10) C d_Mo_section_5 (by decide) (fun h5 => absurd (b2_f hno) h5) (fun h5 => ?_)
  refine V_iconst (v := 0) C d_Mo_section_8 (by decide) ?_
  refine V_iret C hQ (by decide) (by decide) d_Mo_section_9 rfl ?_
  exact ⟨rfl, rfl, rfl, rfl, rfl⟩
set_option maxHeartbeats 1000000 in
set_option maxRecDepth 10000 in
theorem c_Mo_bytes_no {ν : Nu} {ι : Io} {ρ : Ro} {ℓ : Lo} (hM : MoS ν ρ) {o v0 v1 v2 : Int32} (hno : ¬ isOb ι o) : Ct y_Mo_bytes (Cond.code y_Mo_bytes b_Mo_bytes 8 (some .int) :: tb_) { frames := 2, cells := 0, slots := 0, locals := 44 } [sR 10 0 0, sI o, sI v0, sI v1, sI v2] ν ι ρ ℓ (pEq (some (sI 0)) ν (up4 ι 10 0 0 0 1) ρ ℓ) (noX) := by
  refine Ct.ofV (by decide) (Nat.le_of_ble_eq_true rfl) rfl ?_
  intro p l e s m args below meth c D B tW α0 Q C hQ
  refine V_aload_n C d_Mo_bytes_0 rfl ?_
  refine V_iload_n C d_Mo_bytes_1 rfl ?_
  refine V_callV (as := [_]) C d_Mo_bytes_2 (c_Mo_isObject hM) m_Mo_isObject cf_Mo k_Mo_111 hM.al ⟨by decide, by decide⟩ (Nat.le_of_ble_eq_true rfl) ⟨by decide, by decide⟩ rfl ?_
  rintro _ _ _ _ _ ⟨rfl, rfl, rfl, rfl, rfl⟩
  rw [if_neg hno]
  dsimp only [Option.toList, List.cons_append, List.nil_append]
  refine V_if_ne (tgt := 10) C d_Mo_bytes_5 (by decide) (fun h5 => absurd (b2_f hno) h5) (fun h5 => ?_)
  refine V_iconst (v := 0) C d_Mo_bytes_8 (by decide) ?_
  refine V_iret C hQ (by decide) (by decide) d_Mo_bytes_9 rfl ?_
  exact ⟨rfl, rfl, rfl, rfl, rfl⟩
set_option maxHeartbeats 1000000 in
set_option maxRecDepth 10000 in
theorem c_Mo_name_no {ν : Nu} {ι : Io} {ρ : Ro} {ℓ : Lo} (hM : MoS ν ρ) {o v0 v1 v2 v3 : Int32} (hno : ¬ isOb ι o) : Ct y_Mo_name (Cond.code y_Mo_name b_Mo_name 6 (some .int) :: tb_) { frames := 3, cells := 0, slots := 0, locals := 69 } [sR 10 0 0, sI o, sI v0, sI v1, sI v2, sI v3] ν ι ρ ℓ (pEq (some (sI 0)) ν (up4 ι 10 0 0 0 1) ρ ℓ) (noX) := by
  refine Ct.ofV (by decide) (Nat.le_of_ble_eq_true rfl) rfl ?_
  intro p l e s m args below meth c D B tW α0 Q C hQ
  refine V_aload_n C d_Mo_name_0 rfl ?_
  refine V_iload_n C d_Mo_name_1 rfl ?_
  refine V_callV (as := [_]) C d_Mo_name_2 (c_Mo_isObject hM) m_Mo_isObject cf_Mo k_Mo_111 hM.al ⟨by decide, by decide⟩ (Nat.le_of_ble_eq_true rfl) ⟨by decide, by decide⟩ rfl ?_
  rintro _ _ _ _ _ ⟨rfl, rfl, rfl, rfl, rfl⟩
  rw [if_neg hno]
  dsimp only [Option.toList, List.cons_append, List.nil_append]
  refine V_if_ne (tgt := 10) C d_Mo_name_5 (by decide) (fun h5 => absurd (b2_f hno) h5) (fun h5 => ?_)
  refine V_iconst (v := 0) C d_Mo_name_8 (by decide) ?_
  refine V_iret C hQ (by decide) (by decide) d_Mo_name_9 rfl ?_
  exact ⟨rfl, rfl, rfl, rfl, rfl⟩
set_option maxHeartbeats 1000000 in
set_option maxRecDepth 10000 in
theorem c_Mo_reference_no {ν : Nu} {ι : Io} {ρ : Ro} {ℓ : Lo} (hM : MoS ν ρ) {o v0 v1 v2 v3 v4 : Int32} (hno : ¬ isOb ι o) : Ct y_Mo_reference (Cond.code y_Mo_reference b_Mo_reference 7 (some .int) :: tb_) { frames := 3, cells := 0, slots := 0, locals := 69 } [sR 10 0 0, sI o, sI v0, sI v1, sI v2, sI v3, sI v4] ν ι ρ ℓ (pEq (some (sI 0)) ν (up4 ι 10 0 0 0 1) ρ ℓ) (noX) := by
  refine Ct.ofV (by decide) (Nat.le_of_ble_eq_true rfl) rfl ?_
  intro p l e s m args below meth c D B tW α0 Q C hQ
  refine V_aload_n C d_Mo_reference_0 rfl ?_
  refine V_iload_n C d_Mo_reference_1 rfl ?_
  refine V_callV (as := [_]) C d_Mo_reference_2 (c_Mo_isObject hM) m_Mo_isObject cf_Mo k_Mo_111 hM.al ⟨by decide, by decide⟩ (Nat.le_of_ble_eq_true rfl) ⟨by decide, by decide⟩ rfl ?_
  rintro _ _ _ _ _ ⟨rfl, rfl, rfl, rfl, rfl⟩
  rw [if_neg hno]
  dsimp only [Option.toList, List.cons_append, List.nil_append]
  refine V_if_ne (tgt := 10) C d_Mo_reference_5 (by decide) (fun h5 => absurd (b2_f hno) h5) (fun h5 => ?_)
  refine V_iconst (v := 0) C d_Mo_reference_8 (by decide) ?_
  refine V_iret C hQ (by decide) (by decide) d_Mo_reference_9 rfl ?_
  exact ⟨rfl, rfl, rfl, rfl, rfl⟩
set_option maxHeartbeats 1000000 in
set_option maxRecDepth 10000 in
theorem c_Mo_choose_no {ν : Nu} {ι : Io} {ρ : Ro} {ℓ : Lo} (hM : MoS ν ρ) {o  : Int32} (hno : ¬ isOb ι o) : Ct y_Mo_choose (Cond.code y_Mo_choose b_Mo_choose 3 (some .int) :: tb_) { frames := 2, cells := 0, slots := 0, locals := 43 } [sR 10 0 0, sI o] ν ι ρ ℓ (pEq (some (sI 0)) ν (up4 ι 10 0 0 0 1) ρ ℓ) (noX) := by
  refine Ct.ofV (by decide) (Nat.le_of_ble_eq_true rfl) rfl ?_
  intro p l e s m args below meth c D B tW α0 Q C hQ
  refine V_aload_n C d_Mo_choose_0 rfl ?_
  refine V_iload_n C d_Mo_choose_1 rfl ?_
  refine V_callV (as := [_]) C d_Mo_choose_2 (c_Mo_isObject hM) m_Mo_isObject cf_Mo k_Mo_111 hM.al ⟨by decide, by decide⟩ (Nat.le_of_ble_eq_true rfl) ⟨by decide, by decide⟩ rfl ?_
  rintro _ _ _ _ _ ⟨rfl, rfl, rfl, rfl, rfl⟩
  rw [if_neg hno]
  dsimp only [Option.toList, List.cons_append, List.nil_append]
  refine V_if_ne (tgt := 10) C d_Mo_choose_5 (by decide) (fun h5 => absurd (b2_f hno) h5) (fun h5 => ?_)
  refine V_iconst (v := 0) C d_Mo_choose_8 (by decide) ?_
  refine V_iret C hQ (by decide) (by decide) d_Mo_choose_9 rfl ?_
  exact ⟨rfl, rfl, rfl, rfl, rfl⟩
set_option maxHeartbeats 1000000 in
set_option maxRecDepth 10000 in
theorem c_Mo_placeOf_no {ν : Nu} {ι : Io} {ρ : Ro} {ℓ : Lo} (hM : MoS ν ρ) {o v0 : Int32} (hno : ¬ isOb ι o) : Ct y_Mo_placeOf (Cond.code y_Mo_placeOf b_Mo_placeOf 4 (some .int) :: tb_) { frames := 2, cells := 0, slots := 0, locals := 44 } [sR 10 0 0, sI o, sI v0] ν ι ρ ℓ (pEq (some (sI 0)) ν (up4 ι 10 0 0 0 1) ρ ℓ) (noX) := by
  refine Ct.ofV (by decide) (Nat.le_of_ble_eq_true rfl) rfl ?_
  intro p l e s m args below meth c D B tW α0 Q C hQ
  refine V_aload_n C d_Mo_placeOf_0 rfl ?_
  refine V_iload_n C d_Mo_placeOf_1 rfl ?_
  refine V_callV (as := [_]) C d_Mo_placeOf_2 (c_Mo_isObject hM) m_Mo_isObject cf_Mo k_Mo_111 hM.al ⟨by decide, by decide⟩ (Nat.le_of_ble_eq_true rfl) ⟨by decide, by decide⟩ rfl ?_
  rintro _ _ _ _ _ ⟨rfl, rfl, rfl, rfl, rfl⟩
  rw [if_neg hno]
  dsimp only [Option.toList, List.cons_append, List.nil_append]
  refine V_if_ne (tgt := 10) C d_Mo_placeOf_5 (by decide) (fun h5 => absurd (b2_f hno) h5) (fun h5 => ?_)
  refine V_iconst (v := 0) C d_Mo_placeOf_8 (by decide) ?_
  refine V_iret C hQ (by decide) (by decide) d_Mo_placeOf_9 rfl ?_
  exact ⟨rfl, rfl, rfl, rfl, rfl⟩
set_option maxHeartbeats 1000000 in
set_option maxRecDepth 10000 in
theorem c_Mo_write_no {ν : Nu} {ι : Io} {ρ : Ro} {ℓ : Lo} (hM : MoS ν ρ) {o  : Int32} (hno : ¬ isOb ι o) : Ct y_Mo_write (Cond.code y_Mo_write b_Mo_write 4 (some .int) :: tb_) { frames := 2, cells := 0, slots := 0, locals := 43 } [sR 10 0 0, sI o] ν ι ρ ℓ (pEq (some (sI 0)) ν (up4 ι 10 0 0 0 1) ρ ℓ) (noX) := by
  refine Ct.ofV (by decide) (Nat.le_of_ble_eq_true rfl) rfl ?_
  intro p l e s m args below meth c D B tW α0 Q C hQ
  refine V_aload_n C d_Mo_write_0 rfl ?_
  refine V_iload_n C d_Mo_write_1 rfl ?_
  refine V_callV (as := [_]) C d_Mo_write_2 (c_Mo_isObject hM) m_Mo_isObject cf_Mo k_Mo_111 hM.al ⟨by decide, by decide⟩ (Nat.le_of_ble_eq_true rfl) ⟨by decide, by decide⟩ rfl ?_
  rintro _ _ _ _ _ ⟨rfl, rfl, rfl, rfl, rfl⟩
  rw [if_neg hno]
  dsimp only [Option.toList, List.cons_append, List.nil_append]
  refine V_if_ne (tgt := 10) C d_Mo_write_5 (by decide) (fun h5 => absurd (b2_f hno) h5) (fun h5 => ?_)
  refine V_iconst (v := 0) C d_Mo_write_8 (by decide) ?_
  refine V_iret C hQ (by decide) (by decide) d_Mo_write_9 rfl ?_
  exact ⟨rfl, rfl, rfl, rfl, rfl⟩
set_option maxHeartbeats 1000000 in
set_option maxRecDepth 10000 in
theorem c_Mo_section {ν : Nu} {ι : Io} {ρ : Ro} {ℓ : Lo} (hM : MoS ν ρ) {t : Nat} (ht : t < 13) (hob : isOb ι (nI t)) (hb : bd ι 42 13 8) {k q n : Int32} : Ct y_Mo_section (Cond.code y_Mo_section b_Mo_section 5 (some .int) :: tb_) { frames := 2, cells := 0, slots := 0, locals := 44 } [sR 10 0 0, sI (nI t), sI k, sI q, sI n] ν ι ρ ℓ (pEq (some (sI (if isSc k q n then if mn ι 42 t = 8 then 0 else nI (mn ι 42 t) else 0))) ν (if isSc k q n then if mn ι 42 t = 8 then up4 (z0 ι) 10 0 0 0 3 else mAddSec (z0 ι) t k q n else up4 (z0 ι) 10 0 0 0 2) ρ ℓ) (noX) := by
  refine Ct.ofV (by decide) (Nat.le_of_ble_eq_true rfl) rfl ?_
  intro p l e s m args below meth c D B tW α0 Q C hQ
  refine V_aload_n C d_Mo_section_0 rfl ?_
  refine V_iload_n C d_Mo_section_1 rfl ?_
  refine V_callV (as := [_]) C d_Mo_section_2 (c_Mo_isObject hM) m_Mo_isObject cf_Mo k_Mo_111 hM.al ⟨by decide, by decide⟩ (Nat.le_of_ble_eq_true rfl) ⟨by decide, by decide⟩ rfl ?_
  rintro _ _ _ _ _ ⟨rfl, rfl, rfl, rfl, rfl⟩
  rw [if_pos hob]
  dsimp only [Option.toList, List.cons_append, List.nil_append]
  refine V_if_ne (tgt := 10) C d_Mo_section_5 (by decide) (fun h5 => ?_) (fun h5 => absurd h5 (by rw [b2_t hob]; decide))
  refine V_iload_n C d_Mo_section_10 rfl ?_
  refine V_iload_n C d_Mo_section_11 rfl ?_
  refine V_iload C d_Mo_section_12 rfl ?_
  refine V_callS (as := [_, _, _]) C d_Mo_section_14 c_Mo_isSection m_Mo_isSection k_Mo_115 ⟨by decide, by decide⟩ (Nat.le_of_ble_eq_true rfl) ⟨by decide, by decide⟩ rfl ?_
  rintro _ _ _ _ _ ⟨rfl, rfl, rfl, rfl, rfl⟩
  dsimp only [Option.toList, List.cons_append, List.nil_append]
  refine V_if_ne (tgt := 26) C d_Mo_section_17 (by decide) (fun h17 => ?_) (fun h17 => ?_)
  · have hsc := b2_n0.mp h17
    refine V_aload_n C d_Mo_section_26 rfl ?_
    refine V_getR (kx := 2) C d_Mo_section_27 cf_Mo (by decide) k_Mo_7 hM.al rfl hM.r2 ?_
    refine V_iload_n C d_Mo_section_30 rfl ?_
    refine V_iald C d_Mo_section_31 (by decide) rfl hM.n2 rfl ht rfl ?_
    refine V_bipush (v := 8) C d_Mo_section_32 (by decide) ?_
    rw [show up4 ι 10 0 0 0 0 42 0 0 t = nI (mn ι 42 t) from hb.eq ht]
    refine V_icmp_ne (tgt := 43) C d_Mo_section_34 (by decide) (fun h34 => ?_) (fun h34 => ?_)
    · have h8 : mn ι 42 t ≠ 8 := fun z => h34 (by rw [z]; rfl)
      have hle := hb.le ht
      refine V_aload_n C d_Mo_section_43 rfl ?_
      refine V_iload_n C d_Mo_section_44 rfl ?_
      refine V_iload_n C d_Mo_section_45 rfl ?_
      refine V_iload_n C d_Mo_section_46 rfl ?_
      refine V_iload C d_Mo_section_47 rfl ?_
      refine V_callV (as := [_, _, _, _]) C d_Mo_section_49 (c_Mo_addSection (ι := up4 ι 10 0 0 0 0) hM (fun z hz => hb z hz) ht (show mn ι 42 t < 8 by omega)) m_Mo_addSection cf_Mo k_Mo_118 hM.al ⟨by decide, by decide⟩ (Nat.le_of_ble_eq_true rfl) ⟨by decide, by decide⟩ rfl ?_
      rintro _ _ _ _ _ ⟨rfl, rfl, rfl, rfl, rfl⟩
      dsimp only [Option.toList, List.cons_append, List.nil_append]
      refine V_aload_n C d_Mo_section_52 rfl ?_
      refine V_getR (kx := 2) C d_Mo_section_53 cf_Mo (by decide) k_Mo_7 hM.al rfl hM.r2 ?_
      refine V_iload_n C d_Mo_section_56 rfl ?_
      refine V_iald C d_Mo_section_57 (by decide) rfl hM.n2 rfl ht rfl ?_
      rw [show mAddSec (up4 ι 10 0 0 0 0) t k q n 42 0 0 t = nI (mn ι 42 t + 1) from by rw [← nI_1, ← hb.eq ht]; exact up4_s]
      refine V_iconst (v := 1) C d_Mo_section_58 (by decide) ?_
      refine V_isub C d_Mo_section_59 ?_
      refine V_iret C hQ (by decide) (by decide) d_Mo_section_60 rfl ?_
      rw [if_pos hsc, if_pos hsc, if_neg h8, if_neg h8]
      exact ⟨congrArg (fun z => some (sI z)) (nI_pred _).symm, rfl, rfl, rfl, rfl⟩
    · have h8 : mn ι 42 t = 8 := (nI_eq (by have := hb.le ht; omega) (by decide)).mp h34
      refine V_aload_n C d_Mo_section_37 rfl ?_
      refine V_iconst (v := 3) C d_Mo_section_38 (by decide) ?_
      refine V_callV (as := [_]) C d_Mo_section_39 (c_Mo_fail hM) m_Mo_fail cf_Mo k_Mo_103 hM.al ⟨by decide, by decide⟩ (Nat.le_of_ble_eq_true rfl) ⟨by decide, by decide⟩ rfl ?_
      rintro _ _ _ _ _ ⟨rfl, rfl, rfl, rfl, rfl⟩
      dsimp only [Option.toList, List.cons_append, List.nil_append]
      refine V_iret C hQ (by decide) (by decide) d_Mo_section_42 rfl ?_
      rw [if_pos hsc, if_pos hsc, if_pos h8, if_pos h8]
      exact ⟨rfl, rfl, rfl, rfl, rfl⟩
  · have hsc := b2_0.mp h17
    refine V_aload_n C d_Mo_section_20 rfl ?_
    refine V_iconst (v := 2) C d_Mo_section_21 (by decide) ?_
    refine V_callV (as := [_]) C d_Mo_section_22 (c_Mo_fail hM) m_Mo_fail cf_Mo k_Mo_103 hM.al ⟨by decide, by decide⟩ (Nat.le_of_ble_eq_true rfl) ⟨by decide, by decide⟩ rfl ?_
    rintro _ _ _ _ _ ⟨rfl, rfl, rfl, rfl, rfl⟩
    dsimp only [Option.toList, List.cons_append, List.nil_append]
    refine V_iret C hQ (by decide) (by decide) d_Mo_section_25 rfl ?_
    rw [if_neg hsc, if_neg hsc]
    exact ⟨rfl, rfl, rfl, rfl, rfl⟩
set_option maxHeartbeats 1000000 in
set_option maxRecDepth 10000 in
theorem c_Mo_hasName {ν : Nu} {ι : Io} {ρ : Ro} {ℓ : Lo} (hM : MoS ν ρ) {t : Nat} (ht : t < 13) (hb : bd ι 47 13 12) {x : Int32} : Ct y_Mo_hasName (Cond.code y_Mo_hasName b_Mo_hasName 5 (some .boolean) :: tb_) { frames := 0, cells := 0, slots := 0, locals := 0 } [sR 10 0 0, sI (nI t), sI x] ν ι ρ ℓ (pEq (some (sI (b2 (hasNk ι t x (mn ι 47 t) = true)))) ν ι ρ ℓ) (noX) := by
  refine Ct.ofV (by decide) (Nat.le_of_ble_eq_true rfl) rfl ?_
  intro p l e s m args below meth c D B tW α0 Q C hQ
  have hle := hb.le ht
  have loop : ∀ (f : Nat) (i : Nat), mn ι 47 t - i < f → (i ≤ mn ι 47 t) → V p l e { frames := 0, cells := 0, slots := 0, locals := 0 } s m args below meth c D B α0 ν 5 Q 0 0 ν ι ρ ℓ 5 [(4, sI (nI i)), (3, sI (b2 (hasNk ι t x i = true))), (0, sR 10 0 0), (1, sI (nI t)), (2, sI x)] [] := by
    intro f
    induction f with
    | zero => intros; omega
    | succ f ih =>
      intro i hf hi0
      refine V_iload C d_Mo_hasName_5 rfl ?_
      refine V_aload_n C d_Mo_hasName_7 rfl ?_
      refine V_getR (kx := 7) C d_Mo_hasName_8 cf_Mo (by decide) k_Mo_25 hM.al rfl hM.r7 ?_
      refine V_iload_n C d_Mo_hasName_11 rfl ?_
      refine V_iald C d_Mo_hasName_12 (by decide) rfl hM.n7 rfl ht rfl ?_
      rw [hb.eq ht]
      refine V_icmp_ge (tgt := 48) C d_Mo_hasName_13 (by decide) (fun h13 => ?_) (fun h13 => ?_)
      · have hi : i = mn ι 47 t := by have := (nI_leI (a := mn ι 47 t) (b := i) (by omega) (by omega)).mp h13; omega
        subst hi
        refine V_iload_n C d_Mo_hasName_48 rfl ?_
        refine V_zret C hQ (by decide) (by decide) d_Mo_hasName_49 rfl (b2_nar _) ?_
        exact ⟨rfl, rfl, rfl, rfl, rfl⟩
      · have hi : i < mn ι 47 t := Nat.lt_of_not_le fun z => h13 ((nI_leI (by omega) (by omega)).mpr z)
        refine V_iload_n C d_Mo_hasName_16 rfl ?_
        refine V_if_ne (tgt := 36) C d_Mo_hasName_17 (by decide) (fun h17 => ?_) (fun h17 => ?_)
        · refine V_iconst (v := 1) C d_Mo_hasName_36 (by decide) ?_
          refine V_goto (tgt := 41) C d_Mo_hasName_37 (by decide) ?_
          refine V_eqi (y := b2 (hasNk ι t x (i + 1) = true)) (by clear hQ C ih; rw [hasNk_s]; unfold b2 at *; grind) ?_
          refine V_istore_n (lv' := [(3, _), (4, _), (0, _), (1, _), (2, _)]) C d_Mo_hasName_41 (by decide) rfl ?_
          refine V_iinc (v := nI (i + 1)) (lv' := [(4, _), (3, _), (0, _), (1, _), (2, _)]) C d_Mo_hasName_42 rfl (nI_1 i) (by decide) rfl ?_
          refine V_goto (tgt := 5) C d_Mo_hasName_45 (by decide) ?_
          refine V_pick [0, 1, 2, 3, 4] rfl ?_
          exact ih (i + 1) (by omega) (by omega)
        · refine V_aload_n C d_Mo_hasName_20 rfl ?_
          refine V_getR (kx := 8) C d_Mo_hasName_21 cf_Mo (by decide) k_Mo_28 hM.al rfl hM.r8 ?_
          refine V_bipush (v := 12) C d_Mo_hasName_24 (by decide) ?_
          refine V_iload_n C d_Mo_hasName_26 rfl ?_
          refine V_imul C d_Mo_hasName_27 ?_
          refine V_iload C d_Mo_hasName_28 rfl ?_
          refine V_iadd C d_Mo_hasName_30 ?_
          refine V_iald C d_Mo_hasName_31 (by decide) rfl hM.n8 (ixa 12 t i) (by omega) rfl ?_
          refine V_iload_n C d_Mo_hasName_32 rfl ?_
          refine V_icmp_ne (tgt := 40) C d_Mo_hasName_33 (by decide) (fun h33 => ?_) (fun h33 => ?_)
          · refine V_iconst (v := 0) C d_Mo_hasName_40 (by decide) ?_
            refine V_eqi (y := b2 (hasNk ι t x (i + 1) = true)) (by clear hQ C ih; rw [hasNk_s]; unfold b2 at *; grind) ?_
            refine V_istore_n (lv' := [(3, _), (4, _), (0, _), (1, _), (2, _)]) C d_Mo_hasName_41 (by decide) rfl ?_
            refine V_iinc (v := nI (i + 1)) (lv' := [(4, _), (3, _), (0, _), (1, _), (2, _)]) C d_Mo_hasName_42 rfl (nI_1 i) (by decide) rfl ?_
            refine V_goto (tgt := 5) C d_Mo_hasName_45 (by decide) ?_
            refine V_pick [0, 1, 2, 3, 4] rfl ?_
            exact ih (i + 1) (by omega) (by omega)
          · refine V_iconst (v := 1) C d_Mo_hasName_36 (by decide) ?_
            refine V_goto (tgt := 41) C d_Mo_hasName_37 (by decide) ?_
            refine V_eqi (y := b2 (hasNk ι t x (i + 1) = true)) (by clear hQ C ih; rw [hasNk_s]; unfold b2 at *; grind) ?_
            refine V_istore_n (lv' := [(3, _), (4, _), (0, _), (1, _), (2, _)]) C d_Mo_hasName_41 (by decide) rfl ?_
            refine V_iinc (v := nI (i + 1)) (lv' := [(4, _), (3, _), (0, _), (1, _), (2, _)]) C d_Mo_hasName_42 rfl (nI_1 i) (by decide) rfl ?_
            refine V_goto (tgt := 5) C d_Mo_hasName_45 (by decide) ?_
            refine V_pick [0, 1, 2, 3, 4] rfl ?_
            exact ih (i + 1) (by omega) (by omega)
  refine V_iconst (v := 0) C d_Mo_hasName_0 (by decide) ?_
  refine V_istore_n (lv' := [(3, _), (0, _), (1, _), (2, _)]) C d_Mo_hasName_1 (by decide) rfl ?_
  refine V_iconst (v := 0) C d_Mo_hasName_2 (by decide) ?_
  refine V_istore (lv' := [(4, _), (3, _), (0, _), (1, _), (2, _)]) C d_Mo_hasName_3 (by decide) rfl ?_
  refine V_pick [0, 1, 2, 3, 4] rfl ?_
  exact loop (mn ι 47 t + 1) 0 (by omega) (by omega)
set_option maxHeartbeats 1000000 in
set_option maxRecDepth 10000 in
theorem c_Mo_isName {ν : Nu} {ι : Io} {ρ : Ro} {ℓ : Lo} (hM : MoS ν ρ) {t : Nat} (ht : t < 13) (hb : bd ι 47 13 12) (hs : bd ι 42 13 8) {n k s9 q : Int32} : Ct y_Mo_isName (Cond.code y_Mo_isName b_Mo_isName 6 (some .boolean) :: tb_) { frames := 2, cells := 0, slots := 0, locals := 44 } [sR 10 0 0, sI (nI t), sI n, sI k, sI s9, sI q] ν ι ρ ℓ (pEq (some (sI (b2 (isNm ι t n k s9 q)))) ν ι ρ ℓ) (noX) := by
  refine Ct.ofV (by decide) (Nat.le_of_ble_eq_true rfl) rfl ?_
  intro p l e s m args below meth c D B tW α0 Q C hQ
  refine V_iload_n C d_Mo_isName_0 rfl ?_
  refine V_iconst (v := 0) C d_Mo_isName_1 (by decide) ?_
  refine V_iconst (v := 3) C d_Mo_isName_2 (by decide) ?_
  refine V_callS (as := [_, _, _]) C d_Mo_isName_3 c_Mo_within m_Mo_within k_Mo_99 ⟨by decide, by decide⟩ (Nat.le_of_ble_eq_true rfl) ⟨by decide, by decide⟩ rfl ?_
  rintro _ _ _ _ _ ⟨rfl, rfl, rfl, rfl, rfl⟩
  dsimp only [Option.toList, List.cons_append, List.nil_append]
  refine V_if_eq (tgt := 18) C d_Mo_isName_6 (by decide) (fun h6 => ?_) (fun h6 => ?_)
  · refine V_iconst (v := 0) C d_Mo_isName_18 (by decide) ?_
    refine V_zret C hQ (by decide) (by decide) d_Mo_isName_19 rfl rfl ?_
    refine ⟨congrArg (fun z => some (sI z)) ?_, rfl, rfl, rfl, rfl⟩
    clear hQ C; simp only [b2_n0, b2_0, b2_1] at *; grind
  · refine V_aload_n C d_Mo_isName_9 rfl ?_
    refine V_iload_n C d_Mo_isName_10 rfl ?_
    refine V_iload_n C d_Mo_isName_11 rfl ?_
    refine V_callV (as := [_, _]) C d_Mo_isName_12 (c_Mo_hasName hM ht hb) m_Mo_hasName cf_Mo k_Mo_126 hM.al ⟨by decide, by decide⟩ (Nat.le_of_ble_eq_true rfl) ⟨by decide, by decide⟩ rfl ?_
    rintro _ _ _ _ _ ⟨rfl, rfl, rfl, rfl, rfl⟩
    dsimp only [Option.toList, List.cons_append, List.nil_append]
    refine V_if_eq (tgt := 20) C d_Mo_isName_15 (by decide) (fun h15 => ?_) (fun h15 => ?_)
    · refine V_iload_n C d_Mo_isName_20 rfl ?_
      refine V_iconst (v := 3) C d_Mo_isName_21 (by decide) ?_
      refine V_icmp_ne (tgt := 41) C d_Mo_isName_22 (by decide) (fun h22 => ?_) (fun h22 => ?_)
      · refine V_iload_n C d_Mo_isName_41 rfl ?_
        refine V_iconst (v := 2) C d_Mo_isName_42 (by decide) ?_
        refine V_icmp_ne (tgt := 75) C d_Mo_isName_43 (by decide) (fun h43 => ?_) (fun h43 => ?_)
        · refine V_aload_n C d_Mo_isName_75 rfl ?_
          refine V_iload_n C d_Mo_isName_76 rfl ?_
          refine V_iload C d_Mo_isName_77 rfl ?_
          refine V_callV (as := [_, _]) C d_Mo_isName_79 (c_Mo_hasSection hM ht) m_Mo_hasSection cf_Mo k_Mo_122 hM.al ⟨by decide, by decide⟩ (Nat.le_of_ble_eq_true rfl) ⟨by decide, by decide⟩ rfl ?_
          rintro _ _ _ _ _ ⟨rfl, rfl, rfl, rfl, rfl⟩
          dsimp only [Option.toList, List.cons_append, List.nil_append]
          refine V_if_eq (tgt := 110) C d_Mo_isName_82 (by decide) (fun h82 => ?_) (fun h82 => ?_)
          · refine V_iconst (v := 0) C d_Mo_isName_110 (by decide) ?_
            refine V_zret C hQ (by decide) (by decide) d_Mo_isName_111 rfl rfl ?_
            refine ⟨congrArg (fun z => some (sI z)) ?_, rfl, rfl, rfl, rfl⟩
            clear hQ C; simp only [b2_n0, b2_0, b2_1] at *; grind
          · have h82' := b2_n0.mp h82
            rw [hs.eq ht] at h82'
            obtain ⟨j, hj, hs9⟩ := rng_of (by have := hs.le ht; omega) h82'
            subst hs9
            have hcl : (nI j).toNatClampNeg = j := nI_clamp (by have := hs.le ht; omega)
            refine V_iload C d_Mo_isName_85 rfl ?_
            refine V_iconst (v := 0) C d_Mo_isName_87 (by decide) ?_
            refine V_aload_n C d_Mo_isName_88 rfl ?_
            refine V_getR (kx := 5) C d_Mo_isName_89 cf_Mo (by decide) k_Mo_19 hM.al rfl hM.r5 ?_
            refine V_bipush (v := 8) C d_Mo_isName_92 (by decide) ?_
            refine V_iload_n C d_Mo_isName_94 rfl ?_
            refine V_imul C d_Mo_isName_95 ?_
            refine V_iload C d_Mo_isName_96 rfl ?_
            refine V_iadd C d_Mo_isName_98 ?_
            refine V_iald C d_Mo_isName_99 (by decide) rfl hM.n5 (ixa 8 t j) (by have := hs.le ht; omega) rfl ?_
            refine V_callS (as := [_, _, _]) C d_Mo_isName_100 c_Mo_within m_Mo_within k_Mo_99 ⟨by decide, by decide⟩ (Nat.le_of_ble_eq_true rfl) ⟨by decide, by decide⟩ rfl ?_
            rintro _ _ _ _ _ ⟨rfl, rfl, rfl, rfl, rfl⟩
            dsimp only [Option.toList, List.cons_append, List.nil_append]
            refine V_if_eq (tgt := 110) C d_Mo_isName_103 (by decide) (fun h103 => ?_) (fun h103 => ?_)
            · refine V_iconst (v := 0) C d_Mo_isName_110 (by decide) ?_
              refine V_zret C hQ (by decide) (by decide) d_Mo_isName_111 rfl rfl ?_
              refine ⟨congrArg (fun z => some (sI z)) ?_, rfl, rfl, rfl, rfl⟩
              clear hQ C; simp only [b2_n0, b2_0, b2_1] at *; grind
            · refine V_iconst (v := 1) C d_Mo_isName_106 (by decide) ?_
              refine V_goto (tgt := 111) C d_Mo_isName_107 (by decide) ?_
              refine V_zret C hQ (by decide) (by decide) d_Mo_isName_111 rfl rfl ?_
              refine ⟨congrArg (fun z => some (sI z)) ?_, rfl, rfl, rfl, rfl⟩
              clear hQ C; simp only [b2_n0, b2_0, b2_1] at *; grind
        · refine V_iload C d_Mo_isName_46 rfl ?_
          refine V_iconst (v := 0) C d_Mo_isName_48 (by decide) ?_
          refine V_bipush (v := 6) C d_Mo_isName_49 (by decide) ?_
          refine V_callS (as := [_, _, _]) C d_Mo_isName_51 c_Mo_within m_Mo_within k_Mo_99 ⟨by decide, by decide⟩ (Nat.le_of_ble_eq_true rfl) ⟨by decide, by decide⟩ rfl ?_
          rintro _ _ _ _ _ ⟨rfl, rfl, rfl, rfl, rfl⟩
          dsimp only [Option.toList, List.cons_append, List.nil_append]
          refine V_if_eq (tgt := 73) C d_Mo_isName_54 (by decide) (fun h54 => ?_) (fun h54 => ?_)
          · refine V_iconst (v := 0) C d_Mo_isName_73 (by decide) ?_
            refine V_zret C hQ (by decide) (by decide) d_Mo_isName_74 rfl rfl ?_
            refine ⟨congrArg (fun z => some (sI z)) ?_, rfl, rfl, rfl, rfl⟩
            clear hQ C; simp only [b2_n0, b2_0, b2_1] at *; grind
          · refine V_iload C d_Mo_isName_57 rfl ?_
            refine V_iconst (v := 1) C d_Mo_isName_59 (by decide) ?_
            refine V_sipush (v := 1024) C d_Mo_isName_60 (by decide) ?_
            refine V_callS (as := [_, _, _]) C d_Mo_isName_63 c_Mo_within m_Mo_within k_Mo_99 ⟨by decide, by decide⟩ (Nat.le_of_ble_eq_true rfl) ⟨by decide, by decide⟩ rfl ?_
            rintro _ _ _ _ _ ⟨rfl, rfl, rfl, rfl, rfl⟩
            dsimp only [Option.toList, List.cons_append, List.nil_append]
            refine V_if_eq (tgt := 73) C d_Mo_isName_66 (by decide) (fun h66 => ?_) (fun h66 => ?_)
            · refine V_iconst (v := 0) C d_Mo_isName_73 (by decide) ?_
              refine V_zret C hQ (by decide) (by decide) d_Mo_isName_74 rfl rfl ?_
              refine ⟨congrArg (fun z => some (sI z)) ?_, rfl, rfl, rfl, rfl⟩
              clear hQ C; simp only [b2_n0, b2_0, b2_1] at *; grind
            · refine V_iconst (v := 1) C d_Mo_isName_69 (by decide) ?_
              refine V_goto (tgt := 74) C d_Mo_isName_70 (by decide) ?_
              refine V_zret C hQ (by decide) (by decide) d_Mo_isName_74 rfl rfl ?_
              refine ⟨congrArg (fun z => some (sI z)) ?_, rfl, rfl, rfl, rfl⟩
              clear hQ C; simp only [b2_n0, b2_0, b2_1] at *; grind
      · refine V_iload C d_Mo_isName_25 rfl ?_
        refine V_if_ne (tgt := 39) C d_Mo_isName_27 (by decide) (fun h27 => ?_) (fun h27 => ?_)
        · refine V_iconst (v := 0) C d_Mo_isName_39 (by decide) ?_
          refine V_zret C hQ (by decide) (by decide) d_Mo_isName_40 rfl rfl ?_
          refine ⟨congrArg (fun z => some (sI z)) ?_, rfl, rfl, rfl, rfl⟩
          clear hQ C; simp only [b2_n0, b2_0, b2_1] at *; grind
        · refine V_iload C d_Mo_isName_30 rfl ?_
          refine V_if_ne (tgt := 39) C d_Mo_isName_32 (by decide) (fun h32 => ?_) (fun h32 => ?_)
          · refine V_iconst (v := 0) C d_Mo_isName_39 (by decide) ?_
            refine V_zret C hQ (by decide) (by decide) d_Mo_isName_40 rfl rfl ?_
            refine ⟨congrArg (fun z => some (sI z)) ?_, rfl, rfl, rfl, rfl⟩
            clear hQ C; simp only [b2_n0, b2_0, b2_1] at *; grind
          · refine V_iconst (v := 1) C d_Mo_isName_35 (by decide) ?_
            refine V_goto (tgt := 40) C d_Mo_isName_36 (by decide) ?_
            refine V_zret C hQ (by decide) (by decide) d_Mo_isName_40 rfl rfl ?_
            refine ⟨congrArg (fun z => some (sI z)) ?_, rfl, rfl, rfl, rfl⟩
            clear hQ C; simp only [b2_n0, b2_0, b2_1] at *; grind
    · refine V_iconst (v := 0) C d_Mo_isName_18 (by decide) ?_
      refine V_zret C hQ (by decide) (by decide) d_Mo_isName_19 rfl rfl ?_
      refine ⟨congrArg (fun z => some (sI z)) ?_, rfl, rfl, rfl, rfl⟩
      clear hQ C; simp only [b2_n0, b2_0, b2_1] at *; grind
set_option maxHeartbeats 1000000 in
set_option maxRecDepth 10000 in
theorem c_Mo_addName {ν : Nu} {ι : Io} {ρ : Ro} {ℓ : Lo} (hM : MoS ν ρ) (hb : bd ι 47 13 12) {t : Nat} (ht : t < 13) (h7 : mn ι 47 t < 12) {n k s9 q : Int32} : Ct y_Mo_addName (Cond.code y_Mo_addName b_Mo_addName 7 none :: tb_) { frames := 0, cells := 0, slots := 0, locals := 0 } [sR 10 0 0, sI (nI t), sI n, sI k, sI s9, sI q] ν ι ρ ℓ (pEq none ν (mAddName ι t n k s9 q) ρ ℓ) (noX) := by
  refine Ct.ofV (by decide) (Nat.le_of_ble_eq_true rfl) rfl ?_
  intro p l e s m args below meth c D B tW α0 Q C hQ
  refine V_bipush (v := 12) C d_Mo_addName_0 (by decide) ?_
  refine V_iload_n C d_Mo_addName_2 rfl ?_
  refine V_imul C d_Mo_addName_3 ?_
  refine V_aload_n C d_Mo_addName_4 rfl ?_
  refine V_getR (kx := 7) C d_Mo_addName_5 cf_Mo (by decide) k_Mo_25 hM.al rfl hM.r7 ?_
  refine V_iload_n C d_Mo_addName_8 rfl ?_
  refine V_iald C d_Mo_addName_9 (by decide) rfl hM.n7 rfl ht rfl ?_
  refine V_iadd C d_Mo_addName_10 ?_
  rw [hb.eq ht]
  refine V_eqi (ixa 12 t (mn ι 47 t)) ?_
  refine V_istore (lv' := [(6, _), (0, _), (1, _), (2, _), (3, _), (4, _), (5, _)]) C d_Mo_addName_11 (by decide) rfl ?_
  refine V_aload_n C d_Mo_addName_13 rfl ?_
  refine V_getR (kx := 8) C d_Mo_addName_14 cf_Mo (by decide) k_Mo_28 hM.al rfl hM.r8 ?_
  refine V_iload C d_Mo_addName_17 rfl ?_
  refine V_iload_n C d_Mo_addName_19 rfl ?_
  refine V_iast C d_Mo_addName_20 (by decide) rfl hM.n8 rfl (show 12 * t + mn ι 47 t < 156 by omega) rfl ?_
  refine V_aload_n C d_Mo_addName_21 rfl ?_
  refine V_getR (kx := 9) C d_Mo_addName_22 cf_Mo (by decide) k_Mo_31 hM.al rfl hM.r9 ?_
  refine V_iload C d_Mo_addName_25 rfl ?_
  refine V_iload_n C d_Mo_addName_27 rfl ?_
  refine V_iast C d_Mo_addName_28 (by decide) rfl hM.n9 rfl (show 12 * t + mn ι 47 t < 156 by omega) rfl ?_
  refine V_aload_n C d_Mo_addName_29 rfl ?_
  refine V_getR (kx := 10) C d_Mo_addName_30 cf_Mo (by decide) k_Mo_34 hM.al rfl hM.r10 ?_
  refine V_iload C d_Mo_addName_33 rfl ?_
  refine V_iload C d_Mo_addName_35 rfl ?_
  refine V_iast C d_Mo_addName_37 (by decide) rfl hM.n10 rfl (show 12 * t + mn ι 47 t < 156 by omega) rfl ?_
  refine V_aload_n C d_Mo_addName_38 rfl ?_
  refine V_getR (kx := 11) C d_Mo_addName_39 cf_Mo (by decide) k_Mo_37 hM.al rfl hM.r11 ?_
  refine V_iload C d_Mo_addName_42 rfl ?_
  refine V_iload C d_Mo_addName_44 rfl ?_
  refine V_iast C d_Mo_addName_46 (by decide) rfl hM.n11 rfl (show 12 * t + mn ι 47 t < 156 by omega) rfl ?_
  refine V_aload_n C d_Mo_addName_47 rfl ?_
  refine V_getR (kx := 7) C d_Mo_addName_48 cf_Mo (by decide) k_Mo_25 hM.al rfl hM.r7 ?_
  refine V_iload_n C d_Mo_addName_51 rfl ?_
  refine V_dup2 C d_Mo_addName_52 rfl rfl ?_
  refine V_iald C d_Mo_addName_53 (by decide) rfl hM.n7 rfl ht rfl ?_
  refine V_iconst (v := 1) C d_Mo_addName_54 (by decide) ?_
  refine V_iadd C d_Mo_addName_55 ?_
  refine V_iast C d_Mo_addName_56 (by decide) rfl hM.n7 rfl ht rfl ?_
  refine V_vret C hQ (by decide) (by decide) d_Mo_addName_57 rfl ?_
  exact ⟨rfl, rfl, rfl, rfl, rfl⟩
set_option maxHeartbeats 1000000 in
set_option maxRecDepth 10000 in
theorem c_Mo_addReference {ν : Nu} {ι : Io} {ρ : Ro} {ℓ : Lo} (hM : MoS ν ρ) (hb : bd ι 52 13 16) {t : Nat} (ht : t < 13) (h7 : mn ι 52 t < 16) {s9 q w n a : Int32} : Ct y_Mo_addReference (Cond.code y_Mo_addReference b_Mo_addReference 8 none :: tb_) { frames := 0, cells := 0, slots := 0, locals := 0 } [sR 10 0 0, sI (nI t), sI s9, sI q, sI w, sI n, sI a] ν ι ρ ℓ (pEq none ν (mAddRef ι t s9 q w n a) ρ ℓ) (noX) := by
  refine Ct.ofV (by decide) (Nat.le_of_ble_eq_true rfl) rfl ?_
  intro p l e s m args below meth c D B tW α0 Q C hQ
  refine V_bipush (v := 16) C d_Mo_addReference_0 (by decide) ?_
  refine V_iload_n C d_Mo_addReference_2 rfl ?_
  refine V_imul C d_Mo_addReference_3 ?_
  refine V_aload_n C d_Mo_addReference_4 rfl ?_
  refine V_getR (kx := 12) C d_Mo_addReference_5 cf_Mo (by decide) k_Mo_40 hM.al rfl hM.r12 ?_
  refine V_iload_n C d_Mo_addReference_8 rfl ?_
  refine V_iald C d_Mo_addReference_9 (by decide) rfl hM.n12 rfl ht rfl ?_
  refine V_iadd C d_Mo_addReference_10 ?_
  rw [hb.eq ht]
  refine V_eqi (ixa 16 t (mn ι 52 t)) ?_
  refine V_istore (lv' := [(7, _), (0, _), (1, _), (2, _), (3, _), (4, _), (5, _), (6, _)]) C d_Mo_addReference_11 (by decide) rfl ?_
  refine V_aload_n C d_Mo_addReference_13 rfl ?_
  refine V_getR (kx := 13) C d_Mo_addReference_14 cf_Mo (by decide) k_Mo_43 hM.al rfl hM.r13 ?_
  refine V_iload C d_Mo_addReference_17 rfl ?_
  refine V_iload_n C d_Mo_addReference_19 rfl ?_
  refine V_iast C d_Mo_addReference_20 (by decide) rfl hM.n13 rfl (show 16 * t + mn ι 52 t < 208 by omega) rfl ?_
  refine V_aload_n C d_Mo_addReference_21 rfl ?_
  refine V_getR (kx := 14) C d_Mo_addReference_22 cf_Mo (by decide) k_Mo_46 hM.al rfl hM.r14 ?_
  refine V_iload C d_Mo_addReference_25 rfl ?_
  refine V_iload_n C d_Mo_addReference_27 rfl ?_
  refine V_iast C d_Mo_addReference_28 (by decide) rfl hM.n14 rfl (show 16 * t + mn ι 52 t < 208 by omega) rfl ?_
  refine V_aload_n C d_Mo_addReference_29 rfl ?_
  refine V_getR (kx := 15) C d_Mo_addReference_30 cf_Mo (by decide) k_Mo_49 hM.al rfl hM.r15 ?_
  refine V_iload C d_Mo_addReference_33 rfl ?_
  refine V_iload C d_Mo_addReference_35 rfl ?_
  refine V_iast C d_Mo_addReference_37 (by decide) rfl hM.n15 rfl (show 16 * t + mn ι 52 t < 208 by omega) rfl ?_
  refine V_aload_n C d_Mo_addReference_38 rfl ?_
  refine V_getR (kx := 16) C d_Mo_addReference_39 cf_Mo (by decide) k_Mo_52 hM.al rfl hM.r16 ?_
  refine V_iload C d_Mo_addReference_42 rfl ?_
  refine V_iload C d_Mo_addReference_44 rfl ?_
  refine V_iast C d_Mo_addReference_46 (by decide) rfl hM.n16 rfl (show 16 * t + mn ι 52 t < 208 by omega) rfl ?_
  refine V_aload_n C d_Mo_addReference_47 rfl ?_
  refine V_getR (kx := 17) C d_Mo_addReference_48 cf_Mo (by decide) k_Mo_55 hM.al rfl hM.r17 ?_
  refine V_iload C d_Mo_addReference_51 rfl ?_
  refine V_iload C d_Mo_addReference_53 rfl ?_
  refine V_iast C d_Mo_addReference_55 (by decide) rfl hM.n17 rfl (show 16 * t + mn ι 52 t < 208 by omega) rfl ?_
  refine V_aload_n C d_Mo_addReference_56 rfl ?_
  refine V_getR (kx := 12) C d_Mo_addReference_57 cf_Mo (by decide) k_Mo_40 hM.al rfl hM.r12 ?_
  refine V_iload_n C d_Mo_addReference_60 rfl ?_
  refine V_dup2 C d_Mo_addReference_61 rfl rfl ?_
  refine V_iald C d_Mo_addReference_62 (by decide) rfl hM.n12 rfl ht rfl ?_
  refine V_iconst (v := 1) C d_Mo_addReference_63 (by decide) ?_
  refine V_iadd C d_Mo_addReference_64 ?_
  refine V_iast C d_Mo_addReference_65 (by decide) rfl hM.n12 rfl ht rfl ?_
  refine V_vret C hQ (by decide) (by decide) d_Mo_addReference_66 rfl ?_
  exact ⟨rfl, rfl, rfl, rfl, rfl⟩
set_option maxHeartbeats 1000000 in
set_option maxRecDepth 10000 in
theorem c_Mo_isReference {ν : Nu} {ι : Io} {ρ : Ro} {ℓ : Lo} (hM : MoS ν ρ) {t : Nat} (ht : t < 13) (hs : bd ι 42 13 8) {s9 q w n : Int32} : Ct y_Mo_isReference (Cond.code y_Mo_isReference b_Mo_isReference 6 (some .boolean) :: tb_) { frames := 2, cells := 0, slots := 0, locals := 44 } [sR 10 0 0, sI (nI t), sI s9, sI q, sI w, sI n] ν ι ρ ℓ (pEq (some (sI (b2 (isRf ι t s9 q w n)))) ν ι ρ ℓ) (noX) := by
  refine Ct.ofV (by decide) (Nat.le_of_ble_eq_true rfl) rfl ?_
  intro p l e s m args below meth c D B tW α0 Q C hQ
  refine V_aload_n C d_Mo_isReference_0 rfl ?_
  refine V_iload_n C d_Mo_isReference_1 rfl ?_
  refine V_iload_n C d_Mo_isReference_2 rfl ?_
  refine V_callV (as := [_, _]) C d_Mo_isReference_3 (c_Mo_hasSection hM ht) m_Mo_hasSection cf_Mo k_Mo_122 hM.al ⟨by decide, by decide⟩ (Nat.le_of_ble_eq_true rfl) ⟨by decide, by decide⟩ rfl ?_
  rintro _ _ _ _ _ ⟨rfl, rfl, rfl, rfl, rfl⟩
  dsimp only [Option.toList, List.cons_append, List.nil_append]
  refine V_if_eq (tgt := 74) C d_Mo_isReference_6 (by decide) (fun h6 => ?_) (fun h6 => ?_)
  · refine V_iconst (v := 0) C d_Mo_isReference_74 (by decide) ?_
    refine V_zret C hQ (by decide) (by decide) d_Mo_isReference_75 rfl rfl ?_
    refine ⟨congrArg (fun z => some (sI z)) ?_, rfl, rfl, rfl, rfl⟩
    clear hQ C; simp only [b2_n0, b2_0, b2_1] at *; grind
  · have h6' := b2_n0.mp h6
    rw [hs.eq ht] at h6'
    obtain ⟨j, hj, hs9⟩ := rng_of (by have := hs.le ht; omega) h6'
    subst hs9
    have hcl : (nI j).toNatClampNeg = j := nI_clamp (by have := hs.le ht; omega)
    refine V_aload_n C d_Mo_isReference_9 rfl ?_
    refine V_getR (kx := 3) C d_Mo_isReference_10 cf_Mo (by decide) k_Mo_13 hM.al rfl hM.r3 ?_
    refine V_bipush (v := 8) C d_Mo_isReference_13 (by decide) ?_
    refine V_iload_n C d_Mo_isReference_15 rfl ?_
    refine V_imul C d_Mo_isReference_16 ?_
    refine V_iload_n C d_Mo_isReference_17 rfl ?_
    refine V_iadd C d_Mo_isReference_18 ?_
    refine V_iald C d_Mo_isReference_19 (by decide) rfl hM.n3 (ixa 8 t j) (by have := hs.le ht; omega) rfl ?_
    refine V_iconst (v := 3) C d_Mo_isReference_20 (by decide) ?_
    refine V_icmp_eq (tgt := 74) C d_Mo_isReference_21 (by decide) (fun h21 => ?_) (fun h21 => ?_)
    · refine V_iconst (v := 0) C d_Mo_isReference_74 (by decide) ?_
      refine V_zret C hQ (by decide) (by decide) d_Mo_isReference_75 rfl rfl ?_
      refine ⟨congrArg (fun z => some (sI z)) ?_, rfl, rfl, rfl, rfl⟩
      clear hQ C; simp only [b2_n0, b2_0, b2_1] at *; grind
    · refine V_iload_n C d_Mo_isReference_24 rfl ?_
      refine V_iconst (v := 0) C d_Mo_isReference_25 (by decide) ?_
      refine V_aload_n C d_Mo_isReference_26 rfl ?_
      refine V_getR (kx := 5) C d_Mo_isReference_27 cf_Mo (by decide) k_Mo_19 hM.al rfl hM.r5 ?_
      refine V_bipush (v := 8) C d_Mo_isReference_30 (by decide) ?_
      refine V_iload_n C d_Mo_isReference_32 rfl ?_
      refine V_imul C d_Mo_isReference_33 ?_
      refine V_iload_n C d_Mo_isReference_34 rfl ?_
      refine V_iadd C d_Mo_isReference_35 ?_
      refine V_iald C d_Mo_isReference_36 (by decide) rfl hM.n5 (ixa 8 t j) (by have := hs.le ht; omega) rfl ?_
      refine V_callS (as := [_, _, _]) C d_Mo_isReference_37 c_Mo_within m_Mo_within k_Mo_99 ⟨by decide, by decide⟩ (Nat.le_of_ble_eq_true rfl) ⟨by decide, by decide⟩ rfl ?_
      rintro _ _ _ _ _ ⟨rfl, rfl, rfl, rfl, rfl⟩
      dsimp only [Option.toList, List.cons_append, List.nil_append]
      refine V_if_eq (tgt := 74) C d_Mo_isReference_40 (by decide) (fun h40 => ?_) (fun h40 => ?_)
      · refine V_iconst (v := 0) C d_Mo_isReference_74 (by decide) ?_
        refine V_zret C hQ (by decide) (by decide) d_Mo_isReference_75 rfl rfl ?_
        refine ⟨congrArg (fun z => some (sI z)) ?_, rfl, rfl, rfl, rfl⟩
        clear hQ C; simp only [b2_n0, b2_0, b2_1] at *; grind
      · refine V_iload C d_Mo_isReference_43 rfl ?_
        refine V_iconst (v := 0) C d_Mo_isReference_45 (by decide) ?_
        refine V_iconst (v := 4) C d_Mo_isReference_46 (by decide) ?_
        refine V_callS (as := [_, _, _]) C d_Mo_isReference_47 c_Mo_within m_Mo_within k_Mo_99 ⟨by decide, by decide⟩ (Nat.le_of_ble_eq_true rfl) ⟨by decide, by decide⟩ rfl ?_
        rintro _ _ _ _ _ ⟨rfl, rfl, rfl, rfl, rfl⟩
        dsimp only [Option.toList, List.cons_append, List.nil_append]
        refine V_if_eq (tgt := 74) C d_Mo_isReference_50 (by decide) (fun h50 => ?_) (fun h50 => ?_)
        · refine V_iconst (v := 0) C d_Mo_isReference_74 (by decide) ?_
          refine V_zret C hQ (by decide) (by decide) d_Mo_isReference_75 rfl rfl ?_
          refine ⟨congrArg (fun z => some (sI z)) ?_, rfl, rfl, rfl, rfl⟩
          clear hQ C; simp only [b2_n0, b2_0, b2_1] at *; grind
        · refine V_iload C d_Mo_isReference_53 rfl ?_
          refine V_iconst (v := 0) C d_Mo_isReference_55 (by decide) ?_
          refine V_aload_n C d_Mo_isReference_56 rfl ?_
          refine V_getR (kx := 7) C d_Mo_isReference_57 cf_Mo (by decide) k_Mo_25 hM.al rfl hM.r7 ?_
          refine V_iload_n C d_Mo_isReference_60 rfl ?_
          refine V_iald C d_Mo_isReference_61 (by decide) rfl hM.n7 rfl ht rfl ?_
          refine V_iconst (v := 1) C d_Mo_isReference_62 (by decide) ?_
          refine V_isub C d_Mo_isReference_63 ?_
          refine V_callS (as := [_, _, _]) C d_Mo_isReference_64 c_Mo_within m_Mo_within k_Mo_99 ⟨by decide, by decide⟩ (Nat.le_of_ble_eq_true rfl) ⟨by decide, by decide⟩ rfl ?_
          rintro _ _ _ _ _ ⟨rfl, rfl, rfl, rfl, rfl⟩
          dsimp only [Option.toList, List.cons_append, List.nil_append]
          refine V_if_eq (tgt := 74) C d_Mo_isReference_67 (by decide) (fun h67 => ?_) (fun h67 => ?_)
          · refine V_iconst (v := 0) C d_Mo_isReference_74 (by decide) ?_
            refine V_zret C hQ (by decide) (by decide) d_Mo_isReference_75 rfl rfl ?_
            refine ⟨congrArg (fun z => some (sI z)) ?_, rfl, rfl, rfl, rfl⟩
            clear hQ C; simp only [b2_n0, b2_0, b2_1] at *; grind
          · refine V_iconst (v := 1) C d_Mo_isReference_70 (by decide) ?_
            refine V_goto (tgt := 75) C d_Mo_isReference_71 (by decide) ?_
            refine V_zret C hQ (by decide) (by decide) d_Mo_isReference_75 rfl rfl ?_
            refine ⟨congrArg (fun z => some (sI z)) ?_, rfl, rfl, rfl, rfl⟩
            clear hQ C; simp only [b2_n0, b2_0, b2_1] at *; grind
