/-- n places from a on of the array r become g 0, g 1 .. -/
def filF (ι : Io) (r a n : Nat) (g : Nat → Int32) : Io := fun r' i j k => if r' = r ∧ i = 0 ∧ j = 0 ∧ a ≤ k ∧ k < a + n then g (k - a) else ι r' i j k
theorem filF_0 {ι : Io} {r a : Nat} {g : Nat → Int32} : filF ι r a 0 g = ι := by
  funext r' i j k
  unfold filF
  exact if_neg (by omega)
theorem filF_s {ι : Io} {r a n : Nat} {g : Nat → Int32} {x : Int32} (h : x = g n) : up4 (filF ι r a n g) r 0 0 (a + n) x = filF ι r a (n + 1) g := by
  subst h
  funext r' i j k
  unfold up4 filF
  by_cases h1 : r' = r ∧ i = 0 ∧ j = 0 ∧ k = a + n
  · obtain ⟨rfl, rfl, rfl, rfl⟩ := h1
    rw [if_pos ⟨rfl, rfl, rfl, rfl⟩, if_pos ⟨rfl, rfl, rfl, by omega, by omega⟩, Nat.add_sub_cancel_left]
  · rw [if_neg h1]
    by_cases h2 : r' = r ∧ i = 0 ∧ j = 0 ∧ a ≤ k ∧ k < a + n
    · rw [if_pos h2, if_pos ⟨h2.1, h2.2.1, h2.2.2.1, h2.2.2.2.1, by omega⟩]
    · rw [if_neg h2, if_neg fun z => h2 ⟨z.1, z.2.1, z.2.2.1, z.2.2.2.1, by
        have : k ≠ a + n := fun e => h1 ⟨z.1, z.2.1, z.2.2.1, e⟩
        omega⟩]
theorem up4_id {ι : Io} {r i j k : Nat} {x : Int32} (h : ι r i j k = x) : up4 ι r i j k x = ι := by
  funext r' i' j' k'
  unfold up4
  split
  · rename_i h1
    obtain ⟨rfl, rfl, rfl, rfl⟩ := h1
    exact h.symm
  · rfl
theorem filF_o {ι : Io} {r a n : Nat} {g : Nat → Int32} {r' i j k : Nat} (h : ¬ r' = r) : filF ι r a n g r' i j k = ι r' i j k := if_neg fun z => h z.1
theorem up4_up4 {ι : Io} {r i j k : Nat} {x y : Int32} : up4 (up4 ι r i j k x) r i j k y = up4 ι r i j k y := by
  funext r' i' j' k'
  unfold up4
  split <;> rfl
theorem up4_cm {ι : Io} {r i j k r2 i2 j2 k2 : Nat} {x y : Int32} (h : ¬ r = r2) : up4 (up4 ι r i j k x) r2 i2 j2 k2 y = up4 (up4 ι r2 i2 j2 k2 y) r i j k x := by
  funext r' i' j' k'
  unfold up4
  by_cases h1 : r' = r2 ∧ i' = i2 ∧ j' = j2 ∧ k' = k2
  · rw [if_pos h1, if_neg (fun z => h (z.1.symm.trans h1.1)), if_pos h1]
  · rw [if_neg h1, if_neg h1]
def by8 (v : Int32) (d : Nat) : Int32 := (v >>> ((24 - 8 * nI d) &&& 31)) &&& 255
abbrev isBy (ι : Io) (t : Nat) (x f : Int32) : Prop := (0 ≤ x ∧ x ≤ ι 42 0 0 t - 1) ∧ ¬ ι 43 0 0 (8 * t + x.toNatClampNeg) = 3 ∧ (0 ≤ f ∧ f ≤ ι 45 0 0 (8 * t + x.toNatClampNeg) - 1)
def inCh (ι : Io) (x : Int32) (c : Nat) : Bool := (List.range c).any (fun k => ι 59 0 0 k == x)
theorem inCh_f {ι : Io} {x : Int32} {c : Nat} : inCh ι x c = false ↔ ∀ k, k < c → ¬ ι 59 0 0 k = x := by
  unfold inCh
  simp
theorem inCh_t {ι : Io} {x : Int32} {c k : Nat} (hk : k < c) (h : ι 59 0 0 k = x) : inCh ι x c = true := by
  unfold inCh
  simp only [List.any_eq_true, List.mem_range, beq_iff_eq]
  exact ⟨k, hk, h⟩
def naM (ι : Io) (x : Int32) (c : Nat) : Int32 := match (List.range c).find? (fun k => ι 75 0 0 k == x) with
  | some k => ι 76 0 0 k
  | none => -1
def sumR (f : Nat → Int32) : Nat → Int32
  | 0 => 0
  | n + 1 => sumR f n + f n * (nI n + 1)
def beV (f : Nat → Int32) (a : Nat) : Nat → Int32
  | 0 => 0
  | n + 1 => (beV f a n <<< ((8 : Int32) &&& 31)) ||| f (a + n)
set_option maxHeartbeats 1000000 in
set_option maxRecDepth 10000 in
theorem c_Mo_name {ν : Nu} {ι : Io} {ρ : Ro} {ℓ : Lo} (hM : MoS ν ρ) {t : Nat} (ht : t < 13) (hob : isOb ι (nI t)) (hb : bd ι 47 13 12) (hs : bd ι 42 13 8) {n k s9 q : Int32} : Ct y_Mo_name (Cond.code y_Mo_name b_Mo_name 6 (some .int) :: tb_) { frames := 3, cells := 0, slots := 0, locals := 69 } [sR 10 0 0, sI (nI t), sI n, sI k, sI s9, sI q] ν ι ρ ℓ (pEq (some (sI (if isNm (z0 ι) t n k s9 q then if mn ι 47 t = 12 then 0 else nI (mn ι 47 t) else 0))) ν (if isNm (z0 ι) t n k s9 q then if mn ι 47 t = 12 then up4 (z0 ι) 10 0 0 0 3 else mAddName (z0 ι) t n k s9 q else up4 (z0 ι) 10 0 0 0 2) ρ ℓ) (noX) := by
  refine Ct.ofV (by decide) (Nat.le_of_ble_eq_true rfl) rfl ?_
  intro p l e s m args below meth c D B tW α0 Q C hQ
  refine V_aload_n C d_Mo_name_0 rfl ?_
  refine V_iload_n C d_Mo_name_1 rfl ?_
  refine V_callV (as := [_]) C d_Mo_name_2 (c_Mo_isObject hM) m_Mo_isObject cf_Mo k_Mo_111 hM.al ⟨by decide, by decide⟩ (Nat.le_of_ble_eq_true rfl) ⟨by decide, by decide⟩ rfl ?_
  rintro _ _ _ _ _ ⟨rfl, rfl, rfl, rfl, rfl⟩
  rw [if_pos hob]
  dsimp only [Option.toList, List.cons_append, List.nil_append]
  refine V_if_ne (tgt := 10) C d_Mo_name_5 (by decide) (fun h5 => ?_) (fun h5 => absurd h5 (by rw [b2_t hob]; decide))
  refine V_aload_n C d_Mo_name_10 rfl ?_
  refine V_iload_n C d_Mo_name_11 rfl ?_
  refine V_iload_n C d_Mo_name_12 rfl ?_
  refine V_iload_n C d_Mo_name_13 rfl ?_
  refine V_iload C d_Mo_name_14 rfl ?_
  refine V_iload C d_Mo_name_16 rfl ?_
  refine V_callV (as := [_, _, _, _, _]) C d_Mo_name_18 (c_Mo_isName (ι := up4 ι 10 0 0 0 0) hM ht (fun z hz => hb z hz) (fun z hz => hs z hz)) m_Mo_isName cf_Mo k_Mo_129 hM.al ⟨by decide, by decide⟩ (Nat.le_of_ble_eq_true rfl) ⟨by decide, by decide⟩ rfl ?_
  rintro _ _ _ _ _ ⟨rfl, rfl, rfl, rfl, rfl⟩
  dsimp only [Option.toList, List.cons_append, List.nil_append]
  refine V_if_ne (tgt := 30) C d_Mo_name_21 (by decide) (fun h21 => ?_) (fun h21 => ?_)
  · have hsc := b2_n0.mp h21
    refine V_aload_n C d_Mo_name_30 rfl ?_
    refine V_getR (kx := 7) C d_Mo_name_31 cf_Mo (by decide) k_Mo_25 hM.al rfl hM.r7 ?_
    refine V_iload_n C d_Mo_name_34 rfl ?_
    refine V_iald C d_Mo_name_35 (by decide) rfl hM.n7 rfl ht rfl ?_
    refine V_bipush (v := 12) C d_Mo_name_36 (by decide) ?_
    rw [show up4 ι 10 0 0 0 0 47 0 0 t = nI (mn ι 47 t) from hb.eq ht]
    refine V_icmp_ne (tgt := 47) C d_Mo_name_38 (by decide) (fun h38 => ?_) (fun h38 => ?_)
    · have h8 : mn ι 47 t ≠ 12 := fun z => h38 (by rw [z]; rfl)
      have hle := hb.le ht
      refine V_aload_n C d_Mo_name_47 rfl ?_
      refine V_iload_n C d_Mo_name_48 rfl ?_
      refine V_iload_n C d_Mo_name_49 rfl ?_
      refine V_iload_n C d_Mo_name_50 rfl ?_
      refine V_iload C d_Mo_name_51 rfl ?_
      refine V_iload C d_Mo_name_53 rfl ?_
      refine V_callV (as := [_, _, _, _, _]) C d_Mo_name_55 (c_Mo_addName (ι := up4 ι 10 0 0 0 0) hM (fun z hz => hb z hz) ht (show mn ι 47 t < 12 by omega)) m_Mo_addName cf_Mo k_Mo_133 hM.al ⟨by decide, by decide⟩ (Nat.le_of_ble_eq_true rfl) ⟨by decide, by decide⟩ rfl ?_
      rintro _ _ _ _ _ ⟨rfl, rfl, rfl, rfl, rfl⟩
      dsimp only [Option.toList, List.cons_append, List.nil_append]
      refine V_aload_n C d_Mo_name_58 rfl ?_
      refine V_getR (kx := 7) C d_Mo_name_59 cf_Mo (by decide) k_Mo_25 hM.al rfl hM.r7 ?_
      refine V_iload_n C d_Mo_name_62 rfl ?_
      refine V_iald C d_Mo_name_63 (by decide) rfl hM.n7 rfl ht rfl ?_
      rw [show mAddName (up4 ι 10 0 0 0 0) t n k s9 q 47 0 0 t = nI (mn ι 47 t + 1) from by rw [← nI_1, ← hb.eq ht]; exact up4_s]
      refine V_iconst (v := 1) C d_Mo_name_64 (by decide) ?_
      refine V_isub C d_Mo_name_65 ?_
      refine V_iret C hQ (by decide) (by decide) d_Mo_name_66 rfl ?_
      rw [if_pos hsc, if_pos hsc, if_neg h8, if_neg h8]
      exact ⟨congrArg (fun z => some (sI z)) (nI_pred _).symm, rfl, rfl, rfl, rfl⟩
    · have h8 : mn ι 47 t = 12 := (nI_eq (by have := hb.le ht; omega) (by decide)).mp h38
      refine V_aload_n C d_Mo_name_41 rfl ?_
      refine V_iconst (v := 3) C d_Mo_name_42 (by decide) ?_
      refine V_callV (as := [_]) C d_Mo_name_43 (c_Mo_fail hM) m_Mo_fail cf_Mo k_Mo_103 hM.al ⟨by decide, by decide⟩ (Nat.le_of_ble_eq_true rfl) ⟨by decide, by decide⟩ rfl ?_
      rintro _ _ _ _ _ ⟨rfl, rfl, rfl, rfl, rfl⟩
      dsimp only [Option.toList, List.cons_append, List.nil_append]
      refine V_iret C hQ (by decide) (by decide) d_Mo_name_46 rfl ?_
      rw [if_pos hsc, if_pos hsc, if_pos h8, if_pos h8]
      exact ⟨rfl, rfl, rfl, rfl, rfl⟩
  · have hsc := b2_0.mp h21
    refine V_aload_n C d_Mo_name_24 rfl ?_
    refine V_iconst (v := 2) C d_Mo_name_25 (by decide) ?_
    refine V_callV (as := [_]) C d_Mo_name_26 (c_Mo_fail hM) m_Mo_fail cf_Mo k_Mo_103 hM.al ⟨by decide, by decide⟩ (Nat.le_of_ble_eq_true rfl) ⟨by decide, by decide⟩ rfl ?_
    rintro _ _ _ _ _ ⟨rfl, rfl, rfl, rfl, rfl⟩
    dsimp only [Option.toList, List.cons_append, List.nil_append]
    refine V_iret C hQ (by decide) (by decide) d_Mo_name_29 rfl ?_
    rw [if_neg hsc, if_neg hsc]
    exact ⟨rfl, rfl, rfl, rfl, rfl⟩
set_option maxHeartbeats 1000000 in
set_option maxRecDepth 10000 in
theorem c_Mo_reference {ν : Nu} {ι : Io} {ρ : Ro} {ℓ : Lo} (hM : MoS ν ρ) {t : Nat} (ht : t < 13) (hob : isOb ι (nI t)) (hb : bd ι 52 13 16) (hs : bd ι 42 13 8) {s9 q w n a : Int32} : Ct y_Mo_reference (Cond.code y_Mo_reference b_Mo_reference 7 (some .int) :: tb_) { frames := 3, cells := 0, slots := 0, locals := 69 } [sR 10 0 0, sI (nI t), sI s9, sI q, sI w, sI n, sI a] ν ι ρ ℓ (pEq (some (sI (if isRf (z0 ι) t s9 q w n then if mn ι 52 t = 16 then 0 else nI (mn ι 52 t) else 0))) ν (if isRf (z0 ι) t s9 q w n then if mn ι 52 t = 16 then up4 (z0 ι) 10 0 0 0 3 else mAddRef (z0 ι) t s9 q w n a else up4 (z0 ι) 10 0 0 0 2) ρ ℓ) (noX) := by
  refine Ct.ofV (by decide) (Nat.le_of_ble_eq_true rfl) rfl ?_
  intro p l e s m args below meth c D B tW α0 Q C hQ
  refine V_aload_n C d_Mo_reference_0 rfl ?_
  refine V_iload_n C d_Mo_reference_1 rfl ?_
  refine V_callV (as := [_]) C d_Mo_reference_2 (c_Mo_isObject hM) m_Mo_isObject cf_Mo k_Mo_111 hM.al ⟨by decide, by decide⟩ (Nat.le_of_ble_eq_true rfl) ⟨by decide, by decide⟩ rfl ?_
  rintro _ _ _ _ _ ⟨rfl, rfl, rfl, rfl, rfl⟩
  rw [if_pos hob]
  dsimp only [Option.toList, List.cons_append, List.nil_append]
  refine V_if_ne (tgt := 10) C d_Mo_reference_5 (by decide) (fun h5 => ?_) (fun h5 => absurd h5 (by rw [b2_t hob]; decide))
  refine V_aload_n C d_Mo_reference_10 rfl ?_
  refine V_iload_n C d_Mo_reference_11 rfl ?_
  refine V_iload_n C d_Mo_reference_12 rfl ?_
  refine V_iload_n C d_Mo_reference_13 rfl ?_
  refine V_iload C d_Mo_reference_14 rfl ?_
  refine V_iload C d_Mo_reference_16 rfl ?_
  refine V_callV (as := [_, _, _, _, _]) C d_Mo_reference_18 (c_Mo_isReference (ι := up4 ι 10 0 0 0 0) hM ht (fun z hz => hs z hz)) m_Mo_isReference cf_Mo k_Mo_137 hM.al ⟨by decide, by decide⟩ (Nat.le_of_ble_eq_true rfl) ⟨by decide, by decide⟩ rfl ?_
  rintro _ _ _ _ _ ⟨rfl, rfl, rfl, rfl, rfl⟩
  dsimp only [Option.toList, List.cons_append, List.nil_append]
  refine V_if_ne (tgt := 30) C d_Mo_reference_21 (by decide) (fun h21 => ?_) (fun h21 => ?_)
  · have hsc := b2_n0.mp h21
    refine V_aload_n C d_Mo_reference_30 rfl ?_
    refine V_getR (kx := 12) C d_Mo_reference_31 cf_Mo (by decide) k_Mo_40 hM.al rfl hM.r12 ?_
    refine V_iload_n C d_Mo_reference_34 rfl ?_
    refine V_iald C d_Mo_reference_35 (by decide) rfl hM.n12 rfl ht rfl ?_
    refine V_bipush (v := 16) C d_Mo_reference_36 (by decide) ?_
    rw [show up4 ι 10 0 0 0 0 52 0 0 t = nI (mn ι 52 t) from hb.eq ht]
    refine V_icmp_ne (tgt := 47) C d_Mo_reference_38 (by decide) (fun h38 => ?_) (fun h38 => ?_)
    · have h8 : mn ι 52 t ≠ 16 := fun z => h38 (by rw [z]; rfl)
      have hle := hb.le ht
      refine V_aload_n C d_Mo_reference_47 rfl ?_
      refine V_iload_n C d_Mo_reference_48 rfl ?_
      refine V_iload_n C d_Mo_reference_49 rfl ?_
      refine V_iload_n C d_Mo_reference_50 rfl ?_
      refine V_iload C d_Mo_reference_51 rfl ?_
      refine V_iload C d_Mo_reference_53 rfl ?_
      refine V_iload C d_Mo_reference_55 rfl ?_
      refine V_callV (as := [_, _, _, _, _, _]) C d_Mo_reference_57 (c_Mo_addReference (ι := up4 ι 10 0 0 0 0) hM (fun z hz => hb z hz) ht (show mn ι 52 t < 16 by omega)) m_Mo_addReference cf_Mo k_Mo_140 hM.al ⟨by decide, by decide⟩ (Nat.le_of_ble_eq_true rfl) ⟨by decide, by decide⟩ rfl ?_
      rintro _ _ _ _ _ ⟨rfl, rfl, rfl, rfl, rfl⟩
      dsimp only [Option.toList, List.cons_append, List.nil_append]
      refine V_aload_n C d_Mo_reference_60 rfl ?_
      refine V_getR (kx := 12) C d_Mo_reference_61 cf_Mo (by decide) k_Mo_40 hM.al rfl hM.r12 ?_
      refine V_iload_n C d_Mo_reference_64 rfl ?_
      refine V_iald C d_Mo_reference_65 (by decide) rfl hM.n12 rfl ht rfl ?_
      rw [show mAddRef (up4 ι 10 0 0 0 0) t s9 q w n a 52 0 0 t = nI (mn ι 52 t + 1) from by rw [← nI_1, ← hb.eq ht]; exact up4_s]
      refine V_iconst (v := 1) C d_Mo_reference_66 (by decide) ?_
      refine V_isub C d_Mo_reference_67 ?_
      refine V_iret C hQ (by decide) (by decide) d_Mo_reference_68 rfl ?_
      rw [if_pos hsc, if_pos hsc, if_neg h8, if_neg h8]
      exact ⟨congrArg (fun z => some (sI z)) (nI_pred _).symm, rfl, rfl, rfl, rfl⟩
    · have h8 : mn ι 52 t = 16 := (nI_eq (by have := hb.le ht; omega) (by decide)).mp h38
      refine V_aload_n C d_Mo_reference_41 rfl ?_
      refine V_iconst (v := 3) C d_Mo_reference_42 (by decide) ?_
      refine V_callV (as := [_]) C d_Mo_reference_43 (c_Mo_fail hM) m_Mo_fail cf_Mo k_Mo_103 hM.al ⟨by decide, by decide⟩ (Nat.le_of_ble_eq_true rfl) ⟨by decide, by decide⟩ rfl ?_
      rintro _ _ _ _ _ ⟨rfl, rfl, rfl, rfl, rfl⟩
      dsimp only [Option.toList, List.cons_append, List.nil_append]
      refine V_iret C hQ (by decide) (by decide) d_Mo_reference_46 rfl ?_
      rw [if_pos hsc, if_pos hsc, if_pos h8, if_pos h8]
      exact ⟨rfl, rfl, rfl, rfl, rfl⟩
  · have hsc := b2_0.mp h21
    refine V_aload_n C d_Mo_reference_24 rfl ?_
    refine V_iconst (v := 2) C d_Mo_reference_25 (by decide) ?_
    refine V_callV (as := [_]) C d_Mo_reference_26 (c_Mo_fail hM) m_Mo_fail cf_Mo k_Mo_103 hM.al ⟨by decide, by decide⟩ (Nat.le_of_ble_eq_true rfl) ⟨by decide, by decide⟩ rfl ?_
    rintro _ _ _ _ _ ⟨rfl, rfl, rfl, rfl, rfl⟩
    dsimp only [Option.toList, List.cons_append, List.nil_append]
    refine V_iret C hQ (by decide) (by decide) d_Mo_reference_29 rfl ?_
    rw [if_neg hsc, if_neg hsc]
    exact ⟨rfl, rfl, rfl, rfl, rfl⟩
set_option maxHeartbeats 1000000 in
set_option maxRecDepth 10000 in
theorem c_Mo_choose {ν : Nu} {ι : Io} {ρ : Ro} {ℓ : Lo} (hM : MoS ν ρ) {t : Nat} (ht : t < 13) (hob : isOb ι (nI t)) {c9 : Nat} (hc : ι 10 0 0 18 = nI c9) (h12 : c9 < 12 ∨ inCh (z0 ι) (nI t) c9 = true) (h12b : c9 ≤ 12) : Ct y_Mo_choose (Cond.code y_Mo_choose b_Mo_choose 3 (some .int) :: tb_) { frames := 2, cells := 0, slots := 0, locals := 43 } [sR 10 0 0, sI (nI t)] ν ι ρ ℓ (pEq (some (sI (if inCh (z0 ι) (nI t) c9 = true then 0 else nI (c9 + 1)))) ν (if inCh (z0 ι) (nI t) c9 = true then up4 (z0 ι) 10 0 0 0 2 else up4 (up4 (z0 ι) 59 0 0 c9 (nI t)) 10 0 0 18 (nI (c9 + 1))) ρ ℓ) (noX) := by
  refine Ct.ofV (by decide) (Nat.le_of_ble_eq_true rfl) rfl ?_
  intro p l e s m args below meth c D B tW α0 Q C hQ
  have loop : ∀ (f : Nat) (i : Nat), c9 - i < f → (i ≤ c9) → (∀ k, k < i → ¬ (z0 ι) 59 0 0 k = nI t) → V p l e { frames := 2, cells := 0, slots := 0, locals := 43 } s m args below meth c D B α0 ν 3 Q 0 0 ν (up4 ι 10 0 0 0 0) ρ ℓ 12 [(2, sI (nI i)), (0, sR 10 0 0), (1, sI (nI t))] [] := by
    intro f
    induction f with
    | zero => intros; omega
    | succ f ih =>
      intro i hf hi0 hno
      refine V_iload_n C d_Mo_choose_12 rfl ?_
      refine V_aload_n C d_Mo_choose_13 rfl ?_
      refine V_getI (kx := 18) C d_Mo_choose_14 cf_Mo (by decide) k_Mo_144 hM.al rfl ?_
      rw [show up4 ι 10 0 0 0 0 10 0 0 18 = nI c9 from hc]
      refine V_icmp_ge (tgt := 42) C d_Mo_choose_17 (by decide) (fun h17 => ?_) (fun h17 => ?_)
      · have hi : i = c9 := by have := (nI_leI (a := c9) (b := i) (by omega) (by omega)).mp h17; omega
        subst hi
        have hin : inCh (z0 ι) (nI t) i = false := inCh_f.mpr hno
        refine V_aload_n C d_Mo_choose_42 rfl ?_
        refine V_getR (kx := 19) C d_Mo_choose_43 cf_Mo (by decide) k_Mo_58 hM.al rfl hM.r19 ?_
        refine V_aload_n C d_Mo_choose_46 rfl ?_
        refine V_getI (kx := 18) C d_Mo_choose_47 cf_Mo (by decide) k_Mo_144 hM.al rfl ?_
        refine V_iload_n C d_Mo_choose_50 rfl ?_
        refine V_iast C d_Mo_choose_51 (by decide) rfl hM.n19 hc (show i < 12 from h12.resolve_right (by rw [hin]; decide)) rfl ?_
        refine V_aload_n C d_Mo_choose_52 rfl ?_
        refine V_dup C d_Mo_choose_53 rfl ?_
        refine V_getI (kx := 18) C d_Mo_choose_54 cf_Mo (by decide) k_Mo_144 hM.al rfl ?_
        refine V_iconst (v := 1) C d_Mo_choose_57 (by decide) ?_
        rw [show up4 (up4 ι 10 0 0 0 0) 59 0 0 i (nI t) 10 0 0 18 = nI i from hc]
        refine V_iadd C d_Mo_choose_58 ?_
        refine V_eqi (nI_1 i) ?_
        refine V_putI (kx := 18) C d_Mo_choose_59 cf_Mo (by decide) k_Mo_144 hM.al rfl rfl rfl rfl ?_
        refine V_aload_n C d_Mo_choose_62 rfl ?_
        refine V_getI (kx := 18) C d_Mo_choose_63 cf_Mo (by decide) k_Mo_144 hM.al rfl ?_
        rw [up4_s]
        refine V_iret C hQ (by decide) (by decide) d_Mo_choose_66 rfl ?_
        rw [hin]
        exact ⟨rfl, rfl, rfl, rfl, rfl⟩
      · have hi : i < c9 := Nat.lt_of_not_le fun z => h17 ((nI_leI (by omega) (by omega)).mpr z)
        refine V_aload_n C d_Mo_choose_20 rfl ?_
        refine V_getR (kx := 19) C d_Mo_choose_21 cf_Mo (by decide) k_Mo_58 hM.al rfl hM.r19 ?_
        refine V_iload_n C d_Mo_choose_24 rfl ?_
        refine V_iald C d_Mo_choose_25 (by decide) rfl hM.n19 rfl (by omega) rfl ?_
        refine V_iload_n C d_Mo_choose_26 rfl ?_
        refine V_icmp_ne (tgt := 36) C d_Mo_choose_27 (by decide) (fun h27 => ?_) (fun h27 => ?_)
        · refine V_iinc (v := nI (i + 1)) (lv' := [(2, _), (0, _), (1, _)]) C d_Mo_choose_36 rfl (nI_1 i) (by decide) rfl ?_
          refine V_goto (tgt := 12) C d_Mo_choose_39 (by decide) ?_
          refine V_pick [0, 1, 2] rfl ?_
          exact ih (i + 1) (by omega) (by omega) (lt_s (p := fun k => ¬ (z0 ι) 59 0 0 k = nI t) hno h27)
        · have hin : inCh (z0 ι) (nI t) c9 = true := inCh_t hi h27
          refine V_aload_n C d_Mo_choose_30 rfl ?_
          refine V_iconst (v := 2) C d_Mo_choose_31 (by decide) ?_
          refine V_callV (as := [_]) C d_Mo_choose_32 (c_Mo_fail hM) m_Mo_fail cf_Mo k_Mo_103 hM.al ⟨by decide, by decide⟩ (Nat.le_of_ble_eq_true rfl) ⟨by decide, by decide⟩ rfl ?_
          rintro _ _ _ _ _ ⟨rfl, rfl, rfl, rfl, rfl⟩
          dsimp only [Option.toList, List.cons_append, List.nil_append]
          refine V_iret C hQ (by decide) (by decide) d_Mo_choose_35 rfl ?_
          rw [hin]
          exact ⟨rfl, rfl, rfl, rfl, rfl⟩
  refine V_aload_n C d_Mo_choose_0 rfl ?_
  refine V_iload_n C d_Mo_choose_1 rfl ?_
  refine V_callV (as := [_]) C d_Mo_choose_2 (c_Mo_isObject hM) m_Mo_isObject cf_Mo k_Mo_111 hM.al ⟨by decide, by decide⟩ (Nat.le_of_ble_eq_true rfl) ⟨by decide, by decide⟩ rfl ?_
  rintro _ _ _ _ _ ⟨rfl, rfl, rfl, rfl, rfl⟩
  rw [if_pos hob]
  dsimp only [Option.toList, List.cons_append, List.nil_append]
  refine V_if_ne (tgt := 10) C d_Mo_choose_5 (by decide) (fun h5 => ?_) (fun h5 => absurd h5 (by rw [b2_t hob]; decide))
  refine V_iconst (v := 0) C d_Mo_choose_10 (by decide) ?_
  refine V_istore_n (lv' := [(2, _), (0, _), (1, _)]) C d_Mo_choose_11 (by decide) rfl ?_
  refine V_pick [0, 1, 2] rfl ?_
  exact loop (c9 + 1) 0 (by omega) (by omega) (fun k hk => absurd hk (Nat.not_lt_zero k))
set_option maxHeartbeats 1000000 in
set_option maxRecDepth 10000 in
theorem c_Mo_fault {ν : Nu} {ι : Io} {ρ : Ro} {ℓ : Lo} (hM : MoS ν ρ) {x : Int32} : Ct y_Mo_fault (Cond.code y_Mo_fault b_Mo_fault 2 (some .int) :: tb_) { frames := 1, cells := 0, slots := 0, locals := 21 } [sR 10 0 0, sI x] ν ι ρ ℓ (pEq (some (sI (if x = 0 then ι 10 0 0 25 else if x = 1 then ι 10 0 0 26 else if x = 2 then ι 10 0 0 27 else 0))) ν (if x = 0 ∨ x = 1 ∨ x = 2 then z0 ι else up4 (z0 ι) 10 0 0 0 1) ρ ℓ) (noX) := by
  refine Ct.ofV (by decide) (Nat.le_of_ble_eq_true rfl) rfl ?_
  intro p l e s m args below meth c D B tW α0 Q C hQ
  refine V_aload_n C d_Mo_fault_0 rfl ?_
  refine V_iconst (v := 0) C d_Mo_fault_1 (by decide) ?_
  refine V_putI (kx := 0) C d_Mo_fault_2 cf_Mo (by decide) k_Mo_93 hM.al rfl rfl rfl rfl ?_
  refine V_iload_n C d_Mo_fault_5 rfl ?_
  refine V_if_ne (tgt := 16) C d_Mo_fault_6 (by decide) (fun h6 => ?_) (fun h6 => ?_)
  · refine V_iload_n C d_Mo_fault_16 rfl ?_
    refine V_iconst (v := 1) C d_Mo_fault_17 (by decide) ?_
    refine V_icmp_ne (tgt := 28) C d_Mo_fault_18 (by decide) (fun h18 => ?_) (fun h18 => ?_)
    · refine V_iload_n C d_Mo_fault_28 rfl ?_
      refine V_iconst (v := 2) C d_Mo_fault_29 (by decide) ?_
      refine V_icmp_ne (tgt := 40) C d_Mo_fault_30 (by decide) (fun h30 => ?_) (fun h30 => ?_)
      · refine V_aload_n C d_Mo_fault_40 rfl ?_
        refine V_iconst (v := 1) C d_Mo_fault_41 (by decide) ?_
        refine V_callV (as := [_]) C d_Mo_fault_42 (c_Mo_fail hM) m_Mo_fail cf_Mo k_Mo_103 hM.al ⟨by decide, by decide⟩ (Nat.le_of_ble_eq_true rfl) ⟨by decide, by decide⟩ rfl ?_
        rintro _ _ _ _ _ ⟨rfl, rfl, rfl, rfl, rfl⟩
        dsimp only [Option.toList, List.cons_append, List.nil_append]
        refine V_iret C hQ (by decide) (by decide) d_Mo_fault_45 rfl ?_
        refine ⟨congrArg (fun z => some (sI z)) ?_, rfl, ?_, rfl, rfl⟩ <;> (clear hQ C; simp [*, up4])
      · refine V_aload_n C d_Mo_fault_33 rfl ?_
        refine V_getI (kx := 27) C d_Mo_fault_34 cf_Mo (by decide) k_Mo_78 hM.al rfl ?_
        refine V_goto (tgt := 45) C d_Mo_fault_37 (by decide) ?_
        refine V_iret C hQ (by decide) (by decide) d_Mo_fault_45 rfl ?_
        refine ⟨congrArg (fun z => some (sI z)) ?_, rfl, ?_, rfl, rfl⟩ <;> (clear hQ C; simp [*, up4])
    · refine V_aload_n C d_Mo_fault_21 rfl ?_
      refine V_getI (kx := 26) C d_Mo_fault_22 cf_Mo (by decide) k_Mo_74 hM.al rfl ?_
      refine V_goto (tgt := 45) C d_Mo_fault_25 (by decide) ?_
      refine V_iret C hQ (by decide) (by decide) d_Mo_fault_45 rfl ?_
      refine ⟨congrArg (fun z => some (sI z)) ?_, rfl, ?_, rfl, rfl⟩ <;> (clear hQ C; simp [*, up4])
  · refine V_aload_n C d_Mo_fault_9 rfl ?_
    refine V_getI (kx := 25) C d_Mo_fault_10 cf_Mo (by decide) k_Mo_154 hM.al rfl ?_
    refine V_goto (tgt := 45) C d_Mo_fault_13 (by decide) ?_
    refine V_iret C hQ (by decide) (by decide) d_Mo_fault_45 rfl ?_
    refine ⟨congrArg (fun z => some (sI z)) ?_, rfl, ?_, rfl, rfl⟩ <;> (clear hQ C; simp [*, up4])
set_option maxHeartbeats 1000000 in
set_option maxRecDepth 10000 in
theorem c_Mo_image {ν : Nu} {ι : Io} {ρ : Ro} {ℓ : Lo} (hM : MoS ν ρ) {c9 : Nat} (hc : ι 10 0 0 29 = nI c9) (h9 : c9 ≤ 4096) {x : Int32} : Ct y_Mo_image (Cond.code y_Mo_image b_Mo_image 2 (some .int) :: tb_) { frames := 1, cells := 0, slots := 0, locals := 22 } [sR 10 0 0, sI x] ν ι ρ ℓ (pEq (some (sI (if 0 ≤ x ∧ x ≤ nI c9 - 1 then ι 73 0 0 x.toNatClampNeg else 0))) ν (if 0 ≤ x ∧ x ≤ nI c9 - 1 then z0 ι else up4 (z0 ι) 10 0 0 0 1) ρ ℓ) (noX) := by
  refine Ct.ofV (by decide) (Nat.le_of_ble_eq_true rfl) rfl ?_
  intro p l e s m args below meth c D B tW α0 Q C hQ
  refine V_aload_n C d_Mo_image_0 rfl ?_
  refine V_iconst (v := 0) C d_Mo_image_1 (by decide) ?_
  refine V_putI (kx := 0) C d_Mo_image_2 cf_Mo (by decide) k_Mo_93 hM.al rfl rfl rfl rfl ?_
  refine V_iload_n C d_Mo_image_5 rfl ?_
  refine V_iconst (v := 0) C d_Mo_image_6 (by decide) ?_
  refine V_aload_n C d_Mo_image_7 rfl ?_
  refine V_getI (kx := 29) C d_Mo_image_8 cf_Mo (by decide) k_Mo_192 hM.al rfl ?_
  rw [show up4 ι 10 0 0 0 0 10 0 0 29 = nI c9 from hc]
  refine V_iconst (v := 1) C d_Mo_image_11 (by decide) ?_
  refine V_isub C d_Mo_image_12 ?_
  refine V_callS (as := [_, _, _]) C d_Mo_image_13 c_Mo_within m_Mo_within k_Mo_99 ⟨by decide, by decide⟩ (Nat.le_of_ble_eq_true rfl) ⟨by decide, by decide⟩ rfl ?_
  rintro _ _ _ _ _ ⟨rfl, rfl, rfl, rfl, rfl⟩
  dsimp only [Option.toList, List.cons_append, List.nil_append]
  refine V_if_eq (tgt := 28) C d_Mo_image_16 (by decide) (fun h16 => ?_) (fun h16 => ?_)
  · have hsc := b2_0.mp h16
    refine V_aload_n C d_Mo_image_28 rfl ?_
    refine V_iconst (v := 1) C d_Mo_image_29 (by decide) ?_
    refine V_callV (as := [_]) C d_Mo_image_30 (c_Mo_fail hM) m_Mo_fail cf_Mo k_Mo_103 hM.al ⟨by decide, by decide⟩ (Nat.le_of_ble_eq_true rfl) ⟨by decide, by decide⟩ rfl ?_
    rintro _ _ _ _ _ ⟨rfl, rfl, rfl, rfl, rfl⟩
    dsimp only [Option.toList, List.cons_append, List.nil_append]
    refine V_iret C hQ (by decide) (by decide) d_Mo_image_33 rfl ?_
    first
    | (rw [if_pos hsc, if_pos hsc, hx, nI_clamp (by omega)]; exact ⟨rfl, rfl, rfl, rfl, rfl⟩)
    | (rw [if_neg hsc, if_neg hsc]; exact ⟨rfl, rfl, rfl, rfl, rfl⟩)
  · have hsc := b2_n0.mp h16
    obtain ⟨j, hj, hx⟩ := rng_of (by omega) hsc
    refine V_aload_n C d_Mo_image_19 rfl ?_
    refine V_getR (kx := 33) C d_Mo_image_20 cf_Mo (by decide) k_Mo_81 hM.al rfl hM.r33 ?_
    refine V_iload_n C d_Mo_image_23 rfl ?_
    refine V_iald C d_Mo_image_24 (by decide) rfl hM.n33 hx (by omega) rfl ?_
    refine V_goto (tgt := 33) C d_Mo_image_25 (by decide) ?_
    refine V_iret C hQ (by decide) (by decide) d_Mo_image_33 rfl ?_
    first
    | (rw [if_pos hsc, if_pos hsc, hx, nI_clamp (by omega)]; exact ⟨rfl, rfl, rfl, rfl, rfl⟩)
    | (rw [if_neg hsc, if_neg hsc]; exact ⟨rfl, rfl, rfl, rfl, rfl⟩)
set_option maxHeartbeats 1000000 in
set_option maxRecDepth 10000 in
theorem c_Mo_written {ν : Nu} {ι : Io} {ρ : Ro} {ℓ : Lo} (hM : MoS ν ρ) {c9 : Nat} (hc : ι 10 0 0 37 = nI c9) (h9 : c9 ≤ 1400) {x : Int32} : Ct y_Mo_written (Cond.code y_Mo_written b_Mo_written 2 (some .int) :: tb_) { frames := 1, cells := 0, slots := 0, locals := 22 } [sR 10 0 0, sI x] ν ι ρ ℓ (pEq (some (sI (if 0 ≤ x ∧ x ≤ nI c9 - 1 then ι 78 0 0 x.toNatClampNeg else 0))) ν (if 0 ≤ x ∧ x ≤ nI c9 - 1 then z0 ι else up4 (z0 ι) 10 0 0 0 1) ρ ℓ) (noX) := by
  refine Ct.ofV (by decide) (Nat.le_of_ble_eq_true rfl) rfl ?_
  intro p l e s m args below meth c D B tW α0 Q C hQ
  refine V_aload_n C d_Mo_written_0 rfl ?_
  refine V_iconst (v := 0) C d_Mo_written_1 (by decide) ?_
  refine V_putI (kx := 0) C d_Mo_written_2 cf_Mo (by decide) k_Mo_93 hM.al rfl rfl rfl rfl ?_
  refine V_iload_n C d_Mo_written_5 rfl ?_
  refine V_iconst (v := 0) C d_Mo_written_6 (by decide) ?_
  refine V_aload_n C d_Mo_written_7 rfl ?_
  refine V_getI (kx := 37) C d_Mo_written_8 cf_Mo (by decide) k_Mo_252 hM.al rfl ?_
  rw [show up4 ι 10 0 0 0 0 10 0 0 37 = nI c9 from hc]
  refine V_iconst (v := 1) C d_Mo_written_11 (by decide) ?_
  refine V_isub C d_Mo_written_12 ?_
  refine V_callS (as := [_, _, _]) C d_Mo_written_13 c_Mo_within m_Mo_within k_Mo_99 ⟨by decide, by decide⟩ (Nat.le_of_ble_eq_true rfl) ⟨by decide, by decide⟩ rfl ?_
  rintro _ _ _ _ _ ⟨rfl, rfl, rfl, rfl, rfl⟩
  dsimp only [Option.toList, List.cons_append, List.nil_append]
  refine V_if_eq (tgt := 28) C d_Mo_written_16 (by decide) (fun h16 => ?_) (fun h16 => ?_)
  · have hsc := b2_0.mp h16
    refine V_aload_n C d_Mo_written_28 rfl ?_
    refine V_iconst (v := 1) C d_Mo_written_29 (by decide) ?_
    refine V_callV (as := [_]) C d_Mo_written_30 (c_Mo_fail hM) m_Mo_fail cf_Mo k_Mo_103 hM.al ⟨by decide, by decide⟩ (Nat.le_of_ble_eq_true rfl) ⟨by decide, by decide⟩ rfl ?_
    rintro _ _ _ _ _ ⟨rfl, rfl, rfl, rfl, rfl⟩
    dsimp only [Option.toList, List.cons_append, List.nil_append]
    refine V_iret C hQ (by decide) (by decide) d_Mo_written_33 rfl ?_
    first
    | (rw [if_pos hsc, if_pos hsc, hx, nI_clamp (by omega)]; exact ⟨rfl, rfl, rfl, rfl, rfl⟩)
    | (rw [if_neg hsc, if_neg hsc]; exact ⟨rfl, rfl, rfl, rfl, rfl⟩)
  · have hsc := b2_n0.mp h16
    obtain ⟨j, hj, hx⟩ := rng_of (by omega) hsc
    refine V_aload_n C d_Mo_written_19 rfl ?_
    refine V_getR (kx := 38) C d_Mo_written_20 cf_Mo (by decide) k_Mo_90 hM.al rfl hM.r38 ?_
    refine V_iload_n C d_Mo_written_23 rfl ?_
    refine V_iald C d_Mo_written_24 (by decide) rfl hM.n38 hx (by omega) rfl ?_
    refine V_goto (tgt := 33) C d_Mo_written_25 (by decide) ?_
    refine V_iret C hQ (by decide) (by decide) d_Mo_written_33 rfl ?_
    first
    | (rw [if_pos hsc, if_pos hsc, hx, nI_clamp (by omega)]; exact ⟨rfl, rfl, rfl, rfl, rfl⟩)
    | (rw [if_neg hsc, if_neg hsc]; exact ⟨rfl, rfl, rfl, rfl, rfl⟩)
set_option maxHeartbeats 1000000 in
set_option maxRecDepth 10000 in
theorem c_Mo_alter {ν : Nu} {ι : Io} {ρ : Ro} {ℓ : Lo} (hM : MoS ν ρ) {c9 : Nat} (hc : ι 10 0 0 37 = nI c9) (h9 : c9 ≤ 1400) {x v : Int32} : Ct y_Mo_alter (Cond.code y_Mo_alter b_Mo_alter 4 (some .int) :: tb_) { frames := 1, cells := 0, slots := 0, locals := 22 } [sR 10 0 0, sI x, sI v] ν ι ρ ℓ (pEq (some (sI (if 0 ≤ x ∧ x ≤ nI c9 - 1 then if 0 ≤ v ∧ v ≤ 255 then ι 78 0 0 x.toNatClampNeg else 0 else 0))) ν (if 0 ≤ x ∧ x ≤ nI c9 - 1 then if 0 ≤ v ∧ v ≤ 255 then up4 (z0 ι) 78 0 0 x.toNatClampNeg v else up4 (z0 ι) 10 0 0 0 2 else up4 (z0 ι) 10 0 0 0 1) ρ ℓ) (noX) := by
  refine Ct.ofV (by decide) (Nat.le_of_ble_eq_true rfl) rfl ?_
  intro p l e s m args below meth c D B tW α0 Q C hQ
  refine V_aload_n C d_Mo_alter_0 rfl ?_
  refine V_iconst (v := 0) C d_Mo_alter_1 (by decide) ?_
  refine V_putI (kx := 0) C d_Mo_alter_2 cf_Mo (by decide) k_Mo_93 hM.al rfl rfl rfl rfl ?_
  refine V_iload_n C d_Mo_alter_5 rfl ?_
  refine V_iconst (v := 0) C d_Mo_alter_6 (by decide) ?_
  refine V_aload_n C d_Mo_alter_7 rfl ?_
  refine V_getI (kx := 37) C d_Mo_alter_8 cf_Mo (by decide) k_Mo_252 hM.al rfl ?_
  rw [show up4 ι 10 0 0 0 0 10 0 0 37 = nI c9 from hc]
  refine V_iconst (v := 1) C d_Mo_alter_11 (by decide) ?_
  refine V_isub C d_Mo_alter_12 ?_
  refine V_callS (as := [_, _, _]) C d_Mo_alter_13 c_Mo_within m_Mo_within k_Mo_99 ⟨by decide, by decide⟩ (Nat.le_of_ble_eq_true rfl) ⟨by decide, by decide⟩ rfl ?_
  rintro _ _ _ _ _ ⟨rfl, rfl, rfl, rfl, rfl⟩
  dsimp only [Option.toList, List.cons_append, List.nil_append]
  refine V_if_ne (tgt := 25) C d_Mo_alter_16 (by decide) (fun h16 => ?_) (fun h16 => ?_)
  · have hsc := b2_n0.mp h16
    obtain ⟨j, hj, hx⟩ := rng_of (by omega) hsc
    refine V_iload_n C d_Mo_alter_25 rfl ?_
    refine V_iconst (v := 0) C d_Mo_alter_26 (by decide) ?_
    refine V_sipush (v := 255) C d_Mo_alter_27 (by decide) ?_
    refine V_callS (as := [_, _, _]) C d_Mo_alter_30 c_Mo_within m_Mo_within k_Mo_99 ⟨by decide, by decide⟩ (Nat.le_of_ble_eq_true rfl) ⟨by decide, by decide⟩ rfl ?_
    rintro _ _ _ _ _ ⟨rfl, rfl, rfl, rfl, rfl⟩
    dsimp only [Option.toList, List.cons_append, List.nil_append]
    refine V_if_ne (tgt := 42) C d_Mo_alter_33 (by decide) (fun h33 => ?_) (fun h33 => ?_)
    · have hv := b2_n0.mp h33
      refine V_aload_n C d_Mo_alter_42 rfl ?_
      refine V_getR (kx := 38) C d_Mo_alter_43 cf_Mo (by decide) k_Mo_90 hM.al rfl hM.r38 ?_
      refine V_iload_n C d_Mo_alter_46 rfl ?_
      refine V_iald C d_Mo_alter_47 (by decide) rfl hM.n38 hx (show j < 1400 by omega) rfl ?_
      refine V_istore_n (lv' := [(3, _), (0, _), (1, _), (2, _)]) C d_Mo_alter_48 (by decide) rfl ?_
      refine V_aload_n C d_Mo_alter_49 rfl ?_
      refine V_getR (kx := 38) C d_Mo_alter_50 cf_Mo (by decide) k_Mo_90 hM.al rfl hM.r38 ?_
      refine V_iload_n C d_Mo_alter_53 rfl ?_
      refine V_iload_n C d_Mo_alter_54 rfl ?_
      refine V_iast C d_Mo_alter_55 (by decide) rfl hM.n38 hx (show j < 1400 by omega) rfl ?_
      refine V_iload_n C d_Mo_alter_56 rfl ?_
      refine V_iret C hQ (by decide) (by decide) d_Mo_alter_57 rfl ?_
      rw [if_pos hsc, if_pos hsc, if_pos hv, if_pos hv, show x.toNatClampNeg = j by rw [hx]; exact nI_clamp (by omega)]
      exact ⟨rfl, rfl, rfl, rfl, rfl⟩
    · have hv := b2_0.mp h33
      refine V_aload_n C d_Mo_alter_36 rfl ?_
      refine V_iconst (v := 2) C d_Mo_alter_37 (by decide) ?_
      refine V_callV (as := [_]) C d_Mo_alter_38 (c_Mo_fail hM) m_Mo_fail cf_Mo k_Mo_103 hM.al ⟨by decide, by decide⟩ (Nat.le_of_ble_eq_true rfl) ⟨by decide, by decide⟩ rfl ?_
      rintro _ _ _ _ _ ⟨rfl, rfl, rfl, rfl, rfl⟩
      dsimp only [Option.toList, List.cons_append, List.nil_append]
      refine V_iret C hQ (by decide) (by decide) d_Mo_alter_41 rfl ?_
      rw [if_pos hsc, if_pos hsc, if_neg hv, if_neg hv]
      exact ⟨rfl, rfl, rfl, rfl, rfl⟩
  · have hsc := b2_0.mp h16
    refine V_aload_n C d_Mo_alter_19 rfl ?_
    refine V_iconst (v := 1) C d_Mo_alter_20 (by decide) ?_
    refine V_callV (as := [_]) C d_Mo_alter_21 (c_Mo_fail hM) m_Mo_fail cf_Mo k_Mo_103 hM.al ⟨by decide, by decide⟩ (Nat.le_of_ble_eq_true rfl) ⟨by decide, by decide⟩ rfl ?_
    rintro _ _ _ _ _ ⟨rfl, rfl, rfl, rfl, rfl⟩
    dsimp only [Option.toList, List.cons_append, List.nil_append]
    refine V_iret C hQ (by decide) (by decide) d_Mo_alter_24 rfl ?_
    rw [if_neg hsc, if_neg hsc]
    exact ⟨rfl, rfl, rfl, rfl, rfl⟩
