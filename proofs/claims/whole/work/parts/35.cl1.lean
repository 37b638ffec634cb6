theorem nn {α : Type} {x : Option α} {n : α} (h : x = some n) : x ≠ none := fun z => by rw [h] at z; cases z
theorem lt_pd {x : Int32} {n : Nat} (hn : n < 1000000) : x < nI n ↔ x ≤ nI n - 1 := by
  rw [Int32.lt_iff_toInt_lt, Int32.le_iff_toInt_le, show (nI n - 1).toInt = (n : Int) - (1 : Nat) from pk_sub_toInt (a := n) (b := 1) (by omega) (by decide), nI_toInt (by omega)]
  omega
theorem min4 {a : Nat} (h : a < 1000) : (if nI a < 4 then nI a else 4) = nI (min 4 a) := by
  by_cases hc : a < 4
  · rw [if_pos (show nI a < 4 from (nI_ltI (b := 4) (by omega) (by decide)).mpr hc), show min 4 a = a by omega]
  · rw [if_neg (show ¬ nI a < 4 from fun z => hc ((nI_ltI (b := 4) (by omega) (by decide)).mp z)), show min 4 a = 4 by omega]
    rfl
theorem lt_pd4 {x : Int32} : x < 4 ↔ x ≤ 3 := lt_pd (n := 4) (by decide)
theorem lt_pd5 {x : Int32} : x < 5 ↔ x ≤ 4 := lt_pd (n := 5) (by decide)
def UnS (ν : Nu) (ρ : Ro) (o : Nat) : Prop := ν 8 o 0 = some 6 ∧ ρ 8 o 0 0 = some (21, o, 0) ∧ ν 21 o 0 = some 8 ∧ ρ 8 o 0 2 = some (22, o, 0) ∧ ν 22 o 0 = some 12 ∧ ρ 8 o 0 4 = some (23, o, 0) ∧ ν 23 o 0 = some 16
def SeS (ν : Nu) (ι : Io) (ρ : Ro) (o s : Nat) : Prop := ν 7 o s = some 4 ∧ ρ 21 o 0 s = some (7, o, s) ∧ ρ 7 o s 3 = some (24, o, s) ∧ ∃ n, n ≤ 128 ∧ ι 7 o s 2 = nI n ∧ ν 24 o s = some (if ι 7 o s 0 = 3 then 0 else n)
def NaS (ν : Nu) (ρ : Ro) (o i : Nat) : Prop := ν 2 o i = some 4 ∧ ρ 22 o 0 i = some (2, o, i)
def RfS (ν : Nu) (ρ : Ro) (o j : Nat) : Prop := ν 6 o j = some 5 ∧ ρ 23 o 0 j = some (6, o, j)
/-- the unit o of the class, with c sections, n names, r references -/
def UI (ν : Nu) (ι : Io) (ρ : Ro) (o c n r : Nat) : Prop := UnS ν ρ o ∧ (ι 8 o 0 1 = nI c ∧ c ≤ 8) ∧ (ι 8 o 0 3 = nI n ∧ n ≤ 12) ∧ (ι 8 o 0 5 = nI r ∧ r ≤ 16) ∧ (∀ s, s < c → SeS ν ι ρ o s) ∧ (∀ i, i < n → NaS ν ρ o i) ∧ (∀ j, j < r → RfS ν ρ o j) ∧ (∀ s, c ≤ s → ν 7 o s = none ∧ ν 24 o s = none) ∧ (∀ i, n ≤ i → ν 2 o i = none) ∧ (∀ j, r ≤ j → ν 6 o j = none)
section Ui
variable {ν : Nu} {ι : Io} {ρ : Ro} {o c n r : Nat}
theorem UI.u (h : UI ν ι ρ o c n r) : UnS ν ρ o := h.1
theorem UI.al (h : UI ν ι ρ o c n r) : ν 8 o 0 ≠ none := nn h.1.1
theorem UI.r0 (h : UI ν ι ρ o c n r) : ρ 8 o 0 0 = some (21, o, 0) := h.1.2.1
theorem UI.n0 (h : UI ν ι ρ o c n r) : ν 21 o 0 = some 8 := h.1.2.2.1
theorem UI.r2 (h : UI ν ι ρ o c n r) : ρ 8 o 0 2 = some (22, o, 0) := h.1.2.2.2.1
theorem UI.n2 (h : UI ν ι ρ o c n r) : ν 22 o 0 = some 12 := h.1.2.2.2.2.1
theorem UI.r4 (h : UI ν ι ρ o c n r) : ρ 8 o 0 4 = some (23, o, 0) := h.1.2.2.2.2.2.1
theorem UI.n4 (h : UI ν ι ρ o c n r) : ν 23 o 0 = some 16 := h.1.2.2.2.2.2.2
theorem UI.ec (h : UI ν ι ρ o c n r) : ι 8 o 0 1 = nI c := h.2.1.1
theorem UI.c8 (h : UI ν ι ρ o c n r) : c ≤ 8 := h.2.1.2
theorem UI.en (h : UI ν ι ρ o c n r) : ι 8 o 0 3 = nI n := h.2.2.1.1
theorem UI.n12 (h : UI ν ι ρ o c n r) : n ≤ 12 := h.2.2.1.2
theorem UI.er (h : UI ν ι ρ o c n r) : ι 8 o 0 5 = nI r := h.2.2.2.1.1
theorem UI.r16 (h : UI ν ι ρ o c n r) : r ≤ 16 := h.2.2.2.1.2
theorem UI.se (h : UI ν ι ρ o c n r) {s : Nat} (hs : s < c) : SeS ν ι ρ o s := h.2.2.2.2.1 s hs
theorem UI.na (h : UI ν ι ρ o c n r) {s : Nat} (hs : s < n) : NaS ν ρ o s := h.2.2.2.2.2.1 s hs
theorem UI.rf (h : UI ν ι ρ o c n r) {s : Nat} (hs : s < r) : RfS ν ρ o s := h.2.2.2.2.2.2.1 s hs
theorem UI.fs (h : UI ν ι ρ o c n r) {s : Nat} (hs : c ≤ s) : ν 7 o s = none ∧ ν 24 o s = none := h.2.2.2.2.2.2.2.1 s hs
theorem UI.fn (h : UI ν ι ρ o c n r) {s : Nat} (hs : n ≤ s) : ν 2 o s = none := h.2.2.2.2.2.2.2.2.1 s hs
theorem UI.fr (h : UI ν ι ρ o c n r) {s : Nat} (hs : r ≤ s) : ν 6 o s = none := h.2.2.2.2.2.2.2.2.2 s hs
end Ui
def hasNc (ι : Io) (o : Nat) (x : Int32) (n : Nat) : Bool := (List.range n).any (fun i => ι 2 o i 0 == x)
theorem hasNc_s {ι : Io} {o n : Nat} {x : Int32} : hasNc ι o x (n + 1) = (hasNc ι o x n || ι 2 o n 0 == x) := by
  unfold hasNc
  rw [List.range_succ, List.any_append]
  simp
theorem hasNc_hit {ι : Io} {o n i : Nat} {x : Int32} (hi : i < n) (h : ι 2 o i 0 = x) : hasNc ι o x n = true := List.any_eq_true.mpr ⟨i, List.mem_range.mpr hi, by simp [h]⟩
abbrev sortOK (ι : Io) (o c : Nat) (k s q : Int32) : Prop := (k = 3 ∧ s = 0 ∧ q = 0) ∨ (k = 2 ∧ (0 ≤ s ∧ s ≤ 6) ∧ (1 ≤ q ∧ q ≤ 1024)) ∨ ((k = 0 ∨ k = 1) ∧ (0 ≤ s ∧ s ≤ nI c - 1) ∧ (0 ≤ q ∧ q ≤ ι 7 o (cl s) 2))
abbrev cRf (ι : Io) (o c n : Nat) (s q w m : Int32) : Prop := (0 ≤ s ∧ s ≤ nI c - 1) ∧ ¬ ι 7 o (cl s) 0 = 3 ∧ (0 ≤ q ∧ q ≤ ι 7 o (cl s) 2) ∧ (0 ≤ w ∧ w ≤ 4) ∧ (0 ≤ m ∧ m ≤ nI n - 1)
set_option maxHeartbeats 1000000 in
set_option maxRecDepth 10000 in
theorem c_Se_powerCanBe {ν : Nu} {ι : Io} {ρ : Ro} {ℓ : Lo} {q : Int32} : Ct y_Se_powerCanBe (Cond.code y_Se_powerCanBe b_Se_powerCanBe 1 (some .boolean) :: tb_) { frames := 0, cells := 0, slots := 0, locals := 0 } [sI q] ν ι ρ ℓ (pEq (some (sI (b2 (0 ≤ q ∧ q ≤ 6)))) ν ι ρ ℓ) (noX) := by
  refine Ct.ofV (by decide) (Nat.le_of_ble_eq_true rfl) rfl ?_
  intro p l e s m args below meth c D B tW α0 Q C hQ
  refine V_iload_n C d_Se_powerCanBe_0 rfl ?_
  refine V_if_lt (tgt := 14) C d_Se_powerCanBe_1 (by decide) (fun h1 => ?_) (fun h1 => ?_)
  · refine V_iconst (v := 0) C d_Se_powerCanBe_14 (by decide) ?_
    refine V_zret C hQ (by decide) (by decide) d_Se_powerCanBe_15 rfl rfl ?_
    exact ⟨congrArg (fun z => some (sI z)) (by clear hQ C; unfold b2; grind), rfl, rfl, rfl, rfl⟩
  · refine V_iload_n C d_Se_powerCanBe_4 rfl ?_
    refine V_bipush (v := 6) C d_Se_powerCanBe_5 (by decide) ?_
    refine V_icmp_gt (tgt := 14) C d_Se_powerCanBe_7 (by decide) (fun h7 => ?_) (fun h7 => ?_)
    · refine V_iconst (v := 0) C d_Se_powerCanBe_14 (by decide) ?_
      refine V_zret C hQ (by decide) (by decide) d_Se_powerCanBe_15 rfl rfl ?_
      exact ⟨congrArg (fun z => some (sI z)) (by clear hQ C; unfold b2; grind), rfl, rfl, rfl, rfl⟩
    · refine V_iconst (v := 1) C d_Se_powerCanBe_10 (by decide) ?_
      refine V_goto (tgt := 15) C d_Se_powerCanBe_11 (by decide) ?_
      refine V_zret C hQ (by decide) (by decide) d_Se_powerCanBe_15 rfl rfl ?_
      exact ⟨congrArg (fun z => some (sI z)) (by clear hQ C; unfold b2; grind), rfl, rfl, rfl, rfl⟩
set_option maxHeartbeats 1000000 in
set_option maxRecDepth 10000 in
theorem c_Se_canBe {ν : Nu} {ι : Io} {ρ : Ro} {ℓ : Lo} {k q n : Int32} : Ct y_Se_canBe (Cond.code y_Se_canBe b_Se_canBe 3 (some .boolean) :: tb_) { frames := 1, cells := 0, slots := 0, locals := 20 } [sI k, sI q, sI n] ν ι ρ ℓ (pEq (some (sI (b2 (isSc k q n)))) ν ι ρ ℓ) (noX) := by
  refine Ct.ofV (by decide) (Nat.le_of_ble_eq_true rfl) rfl ?_
  intro p l e s m args below meth c D B tW α0 Q C hQ
  have e4 : k < 4 ↔ k ≤ 3 := lt_pd4
  refine V_iload_n C d_Se_canBe_0 rfl ?_
  refine V_if_lt (tgt := 31) C d_Se_canBe_1 (by decide) (fun h1 => ?_) (fun h1 => ?_)
  · refine V_iconst (v := 0) C d_Se_canBe_31 (by decide) ?_
    refine V_zret C hQ (by decide) (by decide) d_Se_canBe_32 rfl rfl ?_
    exact ⟨congrArg (fun z => some (sI z)) (by clear hQ C; unfold b2 isSc at *; grind), rfl, rfl, rfl, rfl⟩
  · refine V_iload_n C d_Se_canBe_4 rfl ?_
    refine V_iconst (v := 4) C d_Se_canBe_5 (by decide) ?_
    refine V_icmp_ge (tgt := 31) C d_Se_canBe_6 (by decide) (fun h6 => ?_) (fun h6 => ?_)
    · refine V_iconst (v := 0) C d_Se_canBe_31 (by decide) ?_
      refine V_zret C hQ (by decide) (by decide) d_Se_canBe_32 rfl rfl ?_
      exact ⟨congrArg (fun z => some (sI z)) (by clear hQ C; unfold b2 isSc at *; grind), rfl, rfl, rfl, rfl⟩
    · refine V_iload_n C d_Se_canBe_9 rfl ?_
      refine V_callS (as := [_]) C d_Se_canBe_10 c_Se_powerCanBe m_Se_powerCanBe k_Se_25 ⟨by decide, by decide⟩ (Nat.le_of_ble_eq_true rfl) ⟨by decide, by decide⟩ rfl ?_
      rintro _ _ _ _ _ ⟨rfl, rfl, rfl, rfl, rfl⟩
      dsimp only [Option.toList, List.cons_append, List.nil_append]
      refine V_if_eq (tgt := 31) C d_Se_canBe_13 (by decide) (fun h13 => ?_) (fun h13 => ?_)
      · refine V_iconst (v := 0) C d_Se_canBe_31 (by decide) ?_
        refine V_zret C hQ (by decide) (by decide) d_Se_canBe_32 rfl rfl ?_
        exact ⟨congrArg (fun z => some (sI z)) (by clear hQ C; unfold b2 isSc at *; grind), rfl, rfl, rfl, rfl⟩
      · refine V_iload_n C d_Se_canBe_16 rfl ?_
        refine V_if_lt (tgt := 31) C d_Se_canBe_17 (by decide) (fun h17 => ?_) (fun h17 => ?_)
        · refine V_iconst (v := 0) C d_Se_canBe_31 (by decide) ?_
          refine V_zret C hQ (by decide) (by decide) d_Se_canBe_32 rfl rfl ?_
          exact ⟨congrArg (fun z => some (sI z)) (by clear hQ C; unfold b2 isSc at *; grind), rfl, rfl, rfl, rfl⟩
        · refine V_iload_n C d_Se_canBe_20 rfl ?_
          refine V_sipush (v := 128) C d_Se_canBe_21 (by decide) ?_
          refine V_icmp_gt (tgt := 31) C d_Se_canBe_24 (by decide) (fun h24 => ?_) (fun h24 => ?_)
          · refine V_iconst (v := 0) C d_Se_canBe_31 (by decide) ?_
            refine V_zret C hQ (by decide) (by decide) d_Se_canBe_32 rfl rfl ?_
            exact ⟨congrArg (fun z => some (sI z)) (by clear hQ C; unfold b2 isSc at *; grind), rfl, rfl, rfl, rfl⟩
          · refine V_iconst (v := 1) C d_Se_canBe_27 (by decide) ?_
            refine V_goto (tgt := 32) C d_Se_canBe_28 (by decide) ?_
            refine V_zret C hQ (by decide) (by decide) d_Se_canBe_32 rfl rfl ?_
            exact ⟨congrArg (fun z => some (sI z)) (by clear hQ C; unfold b2 isSc at *; grind), rfl, rfl, rfl, rfl⟩
set_option maxHeartbeats 1000000 in
set_option maxRecDepth 10000 in
theorem c_Se_hasPlace {ν : Nu} {ι : Io} {ρ : Ro} {ℓ : Lo} {o s9 : Nat} (hal : ν 7 o s9 ≠ none) {q : Int32} : Ct y_Se_hasPlace (Cond.code y_Se_hasPlace b_Se_hasPlace 2 (some .boolean) :: tb_) { frames := 0, cells := 0, slots := 0, locals := 0 } [sR 7 o s9, sI q] ν ι ρ ℓ (pEq (some (sI (b2 (0 ≤ q ∧ q ≤ ι 7 o s9 2)))) ν ι ρ ℓ) (noX) := by
  refine Ct.ofV (by decide) (Nat.le_of_ble_eq_true rfl) rfl ?_
  intro p l e s m args below meth c D B tW α0 Q C hQ
  refine V_iload_n C d_Se_hasPlace_0 rfl ?_
  refine V_if_lt (tgt := 16) C d_Se_hasPlace_1 (by decide) (fun h1 => ?_) (fun h1 => ?_)
  · refine V_iconst (v := 0) C d_Se_hasPlace_16 (by decide) ?_
    refine V_zret C hQ (by decide) (by decide) d_Se_hasPlace_17 rfl rfl ?_
    exact ⟨congrArg (fun z => some (sI z)) (by clear hQ C; unfold b2; grind), rfl, rfl, rfl, rfl⟩
  · refine V_iload_n C d_Se_hasPlace_4 rfl ?_
    refine V_aload_n C d_Se_hasPlace_5 rfl ?_
    refine V_getI (kx := 2) C d_Se_hasPlace_6 cf_Se (by decide) k_Se_18 hal rfl ?_
    refine V_icmp_gt (tgt := 16) C d_Se_hasPlace_9 (by decide) (fun h9 => ?_) (fun h9 => ?_)
    · refine V_iconst (v := 0) C d_Se_hasPlace_16 (by decide) ?_
      refine V_zret C hQ (by decide) (by decide) d_Se_hasPlace_17 rfl rfl ?_
      exact ⟨congrArg (fun z => some (sI z)) (by clear hQ C; unfold b2; grind), rfl, rfl, rfl, rfl⟩
    · refine V_iconst (v := 1) C d_Se_hasPlace_12 (by decide) ?_
      refine V_goto (tgt := 17) C d_Se_hasPlace_13 (by decide) ?_
      refine V_zret C hQ (by decide) (by decide) d_Se_hasPlace_17 rfl rfl ?_
      exact ⟨congrArg (fun z => some (sI z)) (by clear hQ C; unfold b2; grind), rfl, rfl, rfl, rfl⟩
set_option maxHeartbeats 1000000 in
set_option maxRecDepth 10000 in
theorem c_OL_slotOf {ν : Nu} {ι : Io} {ρ : Ro} {ℓ : Lo} {a b : Nat} : Ct y_OL_slotOf (Cond.code y_OL_slotOf b_OL_slotOf 2 (some .int) :: tb_) { frames := 0, cells := 0, slots := 0, locals := 0 } [sI (nI a), sI (nI b)] ν ι ρ ℓ (pEq (some (sI (nI (8 * a + b)))) ν ι ρ ℓ) (noX) := by
  refine Ct.ofV (by decide) (Nat.le_of_ble_eq_true rfl) rfl ?_
  intro p l e s m args below meth c D B tW α0 Q C hQ
  refine V_iload_n C d_OL_slotOf_0 rfl ?_
  refine V_bipush (v := 8) C d_OL_slotOf_1 (by decide) ?_
  refine V_imul C d_OL_slotOf_3 ?_
  refine V_iload_n C d_OL_slotOf_4 rfl ?_
  refine V_iadd C d_OL_slotOf_5 ?_
  refine V_iret C hQ (by decide) (by decide) d_OL_slotOf_6 rfl ?_
  exact ⟨congrArg (fun z => some (sI z)) (by rw [show (8 : Int32) = nI 8 from rfl, pk_mul, nI_add, Nat.mul_comm]), rfl, rfl, rfl, rfl⟩
set_option maxHeartbeats 1000000 in
set_option maxRecDepth 10000 in
theorem c_Na_init {ν : Nu} {ι : Io} {ρ : Ro} {ℓ : Lo} {o i9 : Nat} (hal : ν 2 o i9 ≠ none) {a b c9 d : Int32} : Ct y_Na_init (Cond.code y_Na_init b_Na_init 5 none :: tb_) { frames := 1, cells := 0, slots := 0, locals := 40 } [sR 2 o i9, sI a, sI b, sI c9, sI d] ν ι ρ ℓ (pEq none ν (up4 (up4 (up4 (up4 ι 2 o i9 0 a) 2 o i9 1 b) 2 o i9 2 c9) 2 o i9 3 d) ρ ℓ) (noX) := by
  refine Ct.ofV (by decide) (Nat.le_of_ble_eq_true rfl) rfl ?_
  intro p l e s m args below meth c D B tW α0 Q C hQ
  refine V_aload_n C d_Na_init_0 rfl ?_
  refine V_objI C d_Na_init_1 k_Na_1 k_obj (by decide) (Nat.le_of_ble_eq_true rfl) ?_
  refine V_aload_n C d_Na_init_4 rfl ?_
  refine V_iload_n C d_Na_init_5 rfl ?_
  refine V_putIF (kx := 0) C d_Na_init_6 cf_Na (by decide) k_Na_7 hal rfl rfl rfl rfl rfl rfl ?_
  refine V_aload_n C d_Na_init_9 rfl ?_
  refine V_iload_n C d_Na_init_10 rfl ?_
  refine V_putIF (kx := 1) C d_Na_init_11 cf_Na (by decide) k_Na_13 hal rfl rfl rfl rfl rfl rfl ?_
  refine V_aload_n C d_Na_init_14 rfl ?_
  refine V_iload_n C d_Na_init_15 rfl ?_
  refine V_putIF (kx := 2) C d_Na_init_16 cf_Na (by decide) k_Na_16 hal rfl rfl rfl rfl rfl rfl ?_
  refine V_aload_n C d_Na_init_19 rfl ?_
  refine V_iload C d_Na_init_20 rfl ?_
  refine V_putIF (kx := 3) C d_Na_init_22 cf_Na (by decide) k_Na_19 hal rfl rfl rfl rfl rfl rfl ?_
  refine V_vret C hQ (by decide) (by decide) d_Na_init_25 rfl ?_
  exact ⟨rfl, rfl, rfl, rfl, rfl⟩
set_option maxHeartbeats 1000000 in
set_option maxRecDepth 10000 in
theorem c_Rf_init {ν : Nu} {ι : Io} {ρ : Ro} {ℓ : Lo} {o i9 : Nat} (hal : ν 6 o i9 ≠ none) {a b c9 d f9 : Int32} : Ct y_Rf_init (Cond.code y_Rf_init b_Rf_init 6 none :: tb_) { frames := 1, cells := 0, slots := 0, locals := 40 } [sR 6 o i9, sI a, sI b, sI c9, sI d, sI f9] ν ι ρ ℓ (pEq none ν (up4 (up4 (up4 (up4 (up4 ι 6 o i9 0 a) 6 o i9 1 b) 6 o i9 2 c9) 6 o i9 3 d) 6 o i9 4 f9) ρ ℓ) (noX) := by
  refine Ct.ofV (by decide) (Nat.le_of_ble_eq_true rfl) rfl ?_
  intro p l e s m args below meth c D B tW α0 Q C hQ
  refine V_aload_n C d_Rf_init_0 rfl ?_
  refine V_objI C d_Rf_init_1 k_Rf_1 k_obj (by decide) (Nat.le_of_ble_eq_true rfl) ?_
  refine V_aload_n C d_Rf_init_4 rfl ?_
  refine V_iload_n C d_Rf_init_5 rfl ?_
  refine V_putIF (kx := 0) C d_Rf_init_6 cf_Rf (by decide) k_Rf_7 hal rfl rfl rfl rfl rfl rfl ?_
  refine V_aload_n C d_Rf_init_9 rfl ?_
  refine V_iload_n C d_Rf_init_10 rfl ?_
  refine V_putIF (kx := 1) C d_Rf_init_11 cf_Rf (by decide) k_Rf_13 hal rfl rfl rfl rfl rfl rfl ?_
  refine V_aload_n C d_Rf_init_14 rfl ?_
  refine V_iload_n C d_Rf_init_15 rfl ?_
  refine V_putIF (kx := 2) C d_Rf_init_16 cf_Rf (by decide) k_Rf_16 hal rfl rfl rfl rfl rfl rfl ?_
  refine V_aload_n C d_Rf_init_19 rfl ?_
  refine V_iload C d_Rf_init_20 rfl ?_
  refine V_putIF (kx := 3) C d_Rf_init_22 cf_Rf (by decide) k_Rf_19 hal rfl rfl rfl rfl rfl rfl ?_
  refine V_aload_n C d_Rf_init_25 rfl ?_
  refine V_iload C d_Rf_init_26 rfl ?_
  refine V_putIF (kx := 4) C d_Rf_init_28 cf_Rf (by decide) k_Rf_22 hal rfl rfl rfl rfl rfl rfl ?_
  refine V_vret C hQ (by decide) (by decide) d_Rf_init_31 rfl ?_
  exact ⟨rfl, rfl, rfl, rfl, rfl⟩
set_option maxHeartbeats 1000000 in
set_option maxRecDepth 10000 in
theorem c_Se_init {ν : Nu} {ι : Io} {ρ : Ro} {ℓ : Lo} {o s9 n : Nat} (hal : ν 7 o s9 ≠ none) (hno : ν 24 o s9 = none) (hn : n ≤ 128) {k q : Int32} : Ct y_Se_init (Cond.code y_Se_init b_Se_init 4 none :: tb_) { frames := 1, cells := 1, slots := 128, locals := 40 } [sR 7 o s9, sI k, sI q, sI (nI n)] ν ι ρ ℓ (pEq none (up3 ν 24 o s9 (some (if k = 3 then 0 else n))) (upA (up4 (up4 (up4 ι 7 o s9 0 k) 7 o s9 1 q) 7 o s9 2 (nI n)) 24 o s9 (fun _ => 0)) (up4 ρ 7 o s9 3 (some (24, o, s9))) ℓ) (noX) := by
  refine Ct.ofV (by decide) (Nat.le_of_ble_eq_true rfl) rfl ?_
  intro p l e s m args below meth c D B tW α0 Q C hQ
  by_cases h3 : k = 3
  · rw [if_pos h3] at hQ
    refine V_aload_n C d_Se_init_0 rfl ?_
    refine V_objI C d_Se_init_1 k_Se_3 k_obj (by decide) (Nat.le_of_ble_eq_true rfl) ?_
    refine V_aload_n C d_Se_init_4 rfl ?_
    refine V_iload_n C d_Se_init_5 rfl ?_
    refine V_putIF (kx := 0) C d_Se_init_6 cf_Se (by decide) k_Se_9 hal rfl rfl rfl rfl rfl rfl ?_
    refine V_aload_n C d_Se_init_9 rfl ?_
    refine V_iload_n C d_Se_init_10 rfl ?_
    refine V_putIF (kx := 1) C d_Se_init_11 cf_Se (by decide) k_Se_15 hal rfl rfl rfl rfl rfl rfl ?_
    refine V_aload_n C d_Se_init_14 rfl ?_
    refine V_iload_n C d_Se_init_15 rfl ?_
    refine V_putIF (kx := 2) C d_Se_init_16 cf_Se (by decide) k_Se_18 hal rfl rfl rfl rfl rfl rfl ?_
    refine V_aload_n C d_Se_init_19 rfl ?_
    refine V_iload_n C d_Se_init_20 rfl ?_
    refine V_iconst (v := 3) C d_Se_init_21 (by decide) ?_
    refine V_icmp_eq (tgt := 29) C d_Se_init_22 (by decide) (fun h22 => ?_) (fun h22 => absurd h3 h22)
    refine V_iconst (v := 0) C d_Se_init_29 (by decide) ?_
    refine V_goto (tgt := 34) C d_Se_init_30 (by decide) ?_
    refine V_newa (r := 24) (i := o) (j := s9) (n := 0) C d_Se_init_34 k_arr_int (by decide) (by decide) (by decide) rfl (fun _ _ => ⟨rfl, rfl⟩) hno rfl (by decide) (by decide) (by decide) (by decide) (fun _ => show (0 : Nat) ≠ 1 by decide) ?_
    refine V_putRF (kx := 3) C d_Se_init_36 cf_Se (by decide) k_Se_21 (show up3 ν 24 o s9 (some 0) 7 o s9 ≠ none from hal) rfl rfl rfl rfl (fun _ => rfl) (fun _ => rfl) ?_
    refine V_vret C hQ (by decide) (by decide) d_Se_init_39 rfl ?_
    exact ⟨rfl, rfl, rfl, rfl, rfl⟩
  · rw [if_neg h3] at hQ
    refine V_aload_n C d_Se_init_0 rfl ?_
    refine V_objI C d_Se_init_1 k_Se_3 k_obj (by decide) (Nat.le_of_ble_eq_true rfl) ?_
    refine V_aload_n C d_Se_init_4 rfl ?_
    refine V_iload_n C d_Se_init_5 rfl ?_
    refine V_putIF (kx := 0) C d_Se_init_6 cf_Se (by decide) k_Se_9 hal rfl rfl rfl rfl rfl rfl ?_
    refine V_aload_n C d_Se_init_9 rfl ?_
    refine V_iload_n C d_Se_init_10 rfl ?_
    refine V_putIF (kx := 1) C d_Se_init_11 cf_Se (by decide) k_Se_15 hal rfl rfl rfl rfl rfl rfl ?_
    refine V_aload_n C d_Se_init_14 rfl ?_
    refine V_iload_n C d_Se_init_15 rfl ?_
    refine V_putIF (kx := 2) C d_Se_init_16 cf_Se (by decide) k_Se_18 hal rfl rfl rfl rfl rfl rfl ?_
    refine V_aload_n C d_Se_init_19 rfl ?_
    refine V_iload_n C d_Se_init_20 rfl ?_
    refine V_iconst (v := 3) C d_Se_init_21 (by decide) ?_
    refine V_icmp_eq (tgt := 29) C d_Se_init_22 (by decide) (fun h22 => absurd h22 h3) (fun h22 => ?_)
    refine V_iload_n C d_Se_init_25 rfl ?_
    refine V_if_ge (tgt := 33) C d_Se_init_26 (by decide) (fun h26 => ?_) (fun h26 => absurd (nI_pos' (by omega)) h26)
    refine V_iload_n C d_Se_init_33 rfl ?_
    refine V_newa (r := 24) (i := o) (j := s9) (n := n) C d_Se_init_34 k_arr_int (by decide) (by decide) (by decide) rfl (fun _ _ => ⟨rfl, rfl⟩) hno rfl (by omega) (by decide) (by decide) (by dsimp only; omega) (fun _ => show (0 : Nat) ≠ 1 by decide) ?_
    refine V_putRF (kx := 3) C d_Se_init_36 cf_Se (by decide) k_Se_21 (show up3 ν 24 o s9 (some n) 7 o s9 ≠ none from hal) rfl rfl rfl rfl (fun _ => rfl) (fun _ => rfl) ?_
    refine V_vret C hQ (by decide) (by dsimp only; omega) d_Se_init_39 rfl ?_
    exact ⟨rfl, rfl, rfl, rfl, rfl⟩
set_option maxHeartbeats 1000000 in
set_option maxRecDepth 10000 in
theorem c_Un_init {ν : Nu} {ι : Io} {ρ : Ro} {ℓ : Lo} {o : Nat} (hal : ν 8 o 0 ≠ none) (h1 : ν 21 o 0 = none) (h2 : ν 22 o 0 = none) (h3 : ν 23 o 0 = none) : Ct y_Un_init (Cond.code y_Un_init b_Un_init 1 none :: tb_) { frames := 1, cells := 3, slots := 36, locals := 40 } [sR 8 o 0] ν ι ρ ℓ (pEq none (up3 (up3 (up3 ν 21 o 0 (some 8)) 22 o 0 (some 12)) 23 o 0 (some 16)) ι (up4 (upA (up4 (upA (up4 (upA ρ 21 o 0 (fun _ => none)) 8 o 0 0 (some (21, o, 0))) 22 o 0 (fun _ => none)) 8 o 0 2 (some (22, o, 0))) 23 o 0 (fun _ => none)) 8 o 0 4 (some (23, o, 0))) ℓ) (noX) := by
  refine Ct.ofV (by decide) (Nat.le_of_ble_eq_true rfl) rfl ?_
  intro p l e s m args below meth c D B tW α0 Q C hQ
  refine V_aload_n C d_Un_init_0 rfl ?_
  refine V_objI C d_Un_init_1 k_Un_3 k_obj (by decide) (Nat.le_of_ble_eq_true rfl) ?_
  refine V_aload_n C d_Un_init_4 rfl ?_
  refine V_bipush (v := 8) C d_Un_init_5 (by decide) ?_
  refine V_anew (r := 21) (i := o) (j := 0) (n := 8) C d_Un_init_7 k_Un_9 (by decide) (by decide) (by decide) (by decide) rfl (fun _ => rfl) h1 rfl (by decide) (by decide) (by decide) ?_
  refine V_putRF (kx := 0) C d_Un_init_10 cf_Un (by decide) k_Un_11 hal rfl rfl rfl rfl (fun _ => rfl) (fun _ => rfl) ?_
  refine V_aload_n C d_Un_init_13 rfl ?_
  refine V_bipush (v := 12) C d_Un_init_14 (by decide) ?_
  refine V_anew (r := 22) (i := o) (j := 0) (n := 12) C d_Un_init_16 k_Un_17 (by decide) (by decide) (by decide) (by decide) rfl (fun _ => rfl) h2 rfl (by decide) (by decide) (by decide) ?_
  refine V_putRF (kx := 2) C d_Un_init_19 cf_Un (by decide) k_Un_19 hal rfl rfl rfl rfl (fun _ => rfl) (fun _ => rfl) ?_
  refine V_aload_n C d_Un_init_22 rfl ?_
  refine V_bipush (v := 16) C d_Un_init_23 (by decide) ?_
  refine V_anew (r := 23) (i := o) (j := 0) (n := 16) C d_Un_init_25 k_Un_23 (by decide) (by decide) (by decide) (by decide) rfl (fun _ => rfl) h3 rfl (by decide) (by decide) (by decide) ?_
  refine V_putRF (kx := 4) C d_Un_init_28 cf_Un (by decide) k_Un_25 hal rfl rfl rfl rfl (fun _ => rfl) (fun _ => rfl) ?_
  refine V_vret C hQ (by decide) (by decide) d_Un_init_31 rfl ?_
  exact ⟨rfl, rfl, rfl, rfl, rfl⟩
set_option maxHeartbeats 1000000 in
set_option maxRecDepth 10000 in
theorem c_Un_sectionOrNull_y {ν : Nu} {ι : Io} {ρ : Ro} {ℓ : Lo} {o c9 n9 r9 : Nat} (hU : UI ν ι ρ o c9 n9 r9) {t : Nat} (ht : t < c9) : Ct y_Un_sectionOrNull (Cond.code y_Un_sectionOrNull b_Un_sectionOrNull 2 (some (.object "ObjectLinks$Section")) :: tb_) { frames := 0, cells := 0, slots := 0, locals := 0 } [sR 8 o 0, sI (nI t)] ν ι ρ ℓ (pEq (some (sR 7 o t)) ν ι ρ ℓ) (noX) := by
  refine Ct.ofV (by decide) (Nat.le_of_ble_eq_true rfl) rfl ?_
  intro p l e s m args below meth c D B tW α0 Q C hQ
  have h8 := hU.c8
  refine V_iload_n C d_Un_sectionOrNull_0 rfl ?_
  refine V_if_lt (tgt := 21) C d_Un_sectionOrNull_1 (by decide) (fun h1 => absurd h1 (nI_nneg (by omega))) (fun h1 => ?_)
  refine V_iload_n C d_Un_sectionOrNull_4 rfl ?_
  refine V_aload_n C d_Un_sectionOrNull_5 rfl ?_
  refine V_getI (kx := 1) C d_Un_sectionOrNull_6 cf_Un (by decide) k_Un_29 hU.al rfl ?_
  rw [hU.ec]
  refine V_icmp_ge (tgt := 21) C d_Un_sectionOrNull_9 (by decide) (fun h9 => absurd ((nI_leI (by omega) (by omega)).mp h9) (by omega)) (fun h9 => ?_)
  refine V_aload_n C d_Un_sectionOrNull_12 rfl ?_
  refine V_getR (kx := 0) C d_Un_sectionOrNull_13 cf_Un (by decide) k_Un_11 hU.al rfl hU.r0 ?_
  refine V_iload_n C d_Un_sectionOrNull_16 rfl ?_
  refine V_aald C d_Un_sectionOrNull_17 (by decide) (by decide) rfl hU.n0 rfl (by omega) rfl (hU.se ht).2.1 ?_
  refine V_goto (tgt := 22) C d_Un_sectionOrNull_18 (by decide) ?_
  refine V_aret C hQ (by decide) (by decide) d_Un_sectionOrNull_22 rfl ?_
  exact ⟨rfl, rfl, rfl, rfl, rfl⟩
set_option maxHeartbeats 1000000 in
set_option maxRecDepth 10000 in
theorem c_Un_sectionOrNull_n {ν : Nu} {ι : Io} {ρ : Ro} {ℓ : Lo} {o c9 n9 r9 : Nat} (hU : UI ν ι ρ o c9 n9 r9) {x : Int32} (hx : ¬ (0 ≤ x ∧ x ≤ nI c9 - 1)) : Ct y_Un_sectionOrNull (Cond.code y_Un_sectionOrNull b_Un_sectionOrNull 2 (some (.object "ObjectLinks$Section")) :: tb_) { frames := 0, cells := 0, slots := 0, locals := 0 } [sR 8 o 0, sI x] ν ι ρ ℓ (pEq (some sN) ν ι ρ ℓ) (noX) := by
  refine Ct.ofV (by decide) (Nat.le_of_ble_eq_true rfl) rfl ?_
  intro p l e s m args below meth c D B tW α0 Q C hQ
  have h8 := hU.c8
  have e9 : x < nI c9 ↔ x ≤ nI c9 - 1 := lt_pd (by omega)
  refine V_iload_n C d_Un_sectionOrNull_0 rfl ?_
  refine V_if_lt (tgt := 21) C d_Un_sectionOrNull_1 (by decide) (fun h1 => ?_) (fun h1 => ?_)
  · refine V_null C d_Un_sectionOrNull_21 ?_
    refine V_aret C hQ (by decide) (by decide) d_Un_sectionOrNull_22 rfl ?_
    exact ⟨rfl, rfl, rfl, rfl, rfl⟩
  · refine V_iload_n C d_Un_sectionOrNull_4 rfl ?_
    refine V_aload_n C d_Un_sectionOrNull_5 rfl ?_
    refine V_getI (kx := 1) C d_Un_sectionOrNull_6 cf_Un (by decide) k_Un_29 hU.al rfl ?_
    rw [hU.ec]
    refine V_icmp_ge (tgt := 21) C d_Un_sectionOrNull_9 (by decide) (fun h9 => ?_) (fun h9 => absurd ⟨Int32.not_lt.mp h1, e9.mp (Int32.not_le.mp h9)⟩ hx)
    refine V_null C d_Un_sectionOrNull_21 ?_
    refine V_aret C hQ (by decide) (by decide) d_Un_sectionOrNull_22 rfl ?_
    exact ⟨rfl, rfl, rfl, rfl, rfl⟩
set_option maxHeartbeats 1000000 in
set_option maxRecDepth 10000 in
theorem c_Un_addSection {ν : Nu} {ι : Io} {ρ : Ro} {ℓ : Lo} {o : Nat} (hU : UnS ν ρ o) {k9 : Nat} (he : ι 8 o 0 1 = nI k9) (hk : k9 < 8) {i8 j8 : Nat} (hv : ν 7 i8 j8 ≠ none) : Ct y_Un_addSection (Cond.code y_Un_addSection b_Un_addSection 2 (some .int) :: tb_) { frames := 0, cells := 0, slots := 0, locals := 0 } [sR 8 o 0, sR 7 i8 j8] ν ι ρ ℓ (pEq (some (sI (nI k9))) ν (up4 ι 8 o 0 1 (nI (k9 + 1))) (up4 ρ 21 o 0 k9 (some (7, i8, j8))) ℓ) (noX) := by
  refine Ct.ofV (by decide) (Nat.le_of_ble_eq_true rfl) rfl ?_
  intro p l e s m args below meth c D B tW α0 Q C hQ
  refine V_aload_n C d_Un_addSection_0 rfl ?_
  refine V_getR (kx := 0) C d_Un_addSection_1 cf_Un (by decide) k_Un_11 (nn hU.1) rfl hU.2.1 ?_
  refine V_aload_n C d_Un_addSection_4 rfl ?_
  refine V_getI (kx := 1) C d_Un_addSection_5 cf_Un (by decide) k_Un_29 (nn hU.1) rfl ?_
  refine V_aload_n C d_Un_addSection_8 rfl ?_
  refine V_aast C d_Un_addSection_9 (by decide) (by decide) rfl cf_Se hU.2.2.1 he hk rfl hv ?_
  refine V_aload_n C d_Un_addSection_10 rfl ?_
  refine V_dup C d_Un_addSection_11 rfl ?_
  refine V_getI (kx := 1) C d_Un_addSection_12 cf_Un (by decide) k_Un_29 (nn hU.1) rfl ?_
  refine V_iconst (v := 1) C d_Un_addSection_15 (by decide) ?_
  refine V_iadd C d_Un_addSection_16 ?_
  refine V_eqi (y := nI (k9 + 1)) (by rw [he]; exact nI_1 k9) ?_
  refine V_putI (kx := 1) C d_Un_addSection_17 cf_Un (by decide) k_Un_29 (nn hU.1) rfl rfl rfl rfl ?_
  refine V_aload_n C d_Un_addSection_20 rfl ?_
  refine V_getI (kx := 1) C d_Un_addSection_21 cf_Un (by decide) k_Un_29 (nn hU.1) rfl ?_
  refine V_iconst (v := 1) C d_Un_addSection_24 (by decide) ?_
  rw [up4_s]
  refine V_isub C d_Un_addSection_25 ?_
  rw [nI_pred]
  refine V_iret C hQ (by decide) (by decide) d_Un_addSection_26 rfl ?_
  exact ⟨rfl, rfl, rfl, rfl, rfl⟩
set_option maxHeartbeats 1000000 in
set_option maxRecDepth 10000 in
theorem c_Un_addName {ν : Nu} {ι : Io} {ρ : Ro} {ℓ : Lo} {o : Nat} (hU : UnS ν ρ o) {k9 : Nat} (he : ι 8 o 0 3 = nI k9) (hk : k9 < 12) {i8 j8 : Nat} (hv : ν 2 i8 j8 ≠ none) : Ct y_Un_addName (Cond.code y_Un_addName b_Un_addName 2 (some .int) :: tb_) { frames := 0, cells := 0, slots := 0, locals := 0 } [sR 8 o 0, sR 2 i8 j8] ν ι ρ ℓ (pEq (some (sI (nI k9))) ν (up4 ι 8 o 0 3 (nI (k9 + 1))) (up4 ρ 22 o 0 k9 (some (2, i8, j8))) ℓ) (noX) := by
  refine Ct.ofV (by decide) (Nat.le_of_ble_eq_true rfl) rfl ?_
  intro p l e s m args below meth c D B tW α0 Q C hQ
  refine V_aload_n C d_Un_addName_0 rfl ?_
  refine V_getR (kx := 2) C d_Un_addName_1 cf_Un (by decide) k_Un_19 (nn hU.1) rfl hU.2.2.2.1 ?_
  refine V_aload_n C d_Un_addName_4 rfl ?_
  refine V_getI (kx := 3) C d_Un_addName_5 cf_Un (by decide) k_Un_51 (nn hU.1) rfl ?_
  refine V_aload_n C d_Un_addName_8 rfl ?_
  refine V_aast C d_Un_addName_9 (by decide) (by decide) rfl cf_Na hU.2.2.2.2.1 he hk rfl hv ?_
  refine V_aload_n C d_Un_addName_10 rfl ?_
  refine V_dup C d_Un_addName_11 rfl ?_
  refine V_getI (kx := 3) C d_Un_addName_12 cf_Un (by decide) k_Un_51 (nn hU.1) rfl ?_
  refine V_iconst (v := 1) C d_Un_addName_15 (by decide) ?_
  refine V_iadd C d_Un_addName_16 ?_
  refine V_eqi (y := nI (k9 + 1)) (by rw [he]; exact nI_1 k9) ?_
  refine V_putI (kx := 3) C d_Un_addName_17 cf_Un (by decide) k_Un_51 (nn hU.1) rfl rfl rfl rfl ?_
  refine V_aload_n C d_Un_addName_20 rfl ?_
  refine V_getI (kx := 3) C d_Un_addName_21 cf_Un (by decide) k_Un_51 (nn hU.1) rfl ?_
  refine V_iconst (v := 1) C d_Un_addName_24 (by decide) ?_
  rw [up4_s]
  refine V_isub C d_Un_addName_25 ?_
  rw [nI_pred]
  refine V_iret C hQ (by decide) (by decide) d_Un_addName_26 rfl ?_
  exact ⟨rfl, rfl, rfl, rfl, rfl⟩
set_option maxHeartbeats 1000000 in
set_option maxRecDepth 10000 in
theorem c_Un_addReference {ν : Nu} {ι : Io} {ρ : Ro} {ℓ : Lo} {o : Nat} (hU : UnS ν ρ o) {k9 : Nat} (he : ι 8 o 0 5 = nI k9) (hk : k9 < 16) {i8 j8 : Nat} (hv : ν 6 i8 j8 ≠ none) : Ct y_Un_addReference (Cond.code y_Un_addReference b_Un_addReference 2 (some .int) :: tb_) { frames := 0, cells := 0, slots := 0, locals := 0 } [sR 8 o 0, sR 6 i8 j8] ν ι ρ ℓ (pEq (some (sI (nI k9))) ν (up4 ι 8 o 0 5 (nI (k9 + 1))) (up4 ρ 23 o 0 k9 (some (6, i8, j8))) ℓ) (noX) := by
  refine Ct.ofV (by decide) (Nat.le_of_ble_eq_true rfl) rfl ?_
  intro p l e s m args below meth c D B tW α0 Q C hQ
  refine V_aload_n C d_Un_addReference_0 rfl ?_
  refine V_getR (kx := 4) C d_Un_addReference_1 cf_Un (by decide) k_Un_25 (nn hU.1) rfl hU.2.2.2.2.2.1 ?_
  refine V_aload_n C d_Un_addReference_4 rfl ?_
  refine V_getI (kx := 5) C d_Un_addReference_5 cf_Un (by decide) k_Un_64 (nn hU.1) rfl ?_
  refine V_aload_n C d_Un_addReference_8 rfl ?_
  refine V_aast C d_Un_addReference_9 (by decide) (by decide) rfl cf_Rf hU.2.2.2.2.2.2 he hk rfl hv ?_
  refine V_aload_n C d_Un_addReference_10 rfl ?_
  refine V_dup C d_Un_addReference_11 rfl ?_
  refine V_getI (kx := 5) C d_Un_addReference_12 cf_Un (by decide) k_Un_64 (nn hU.1) rfl ?_
  refine V_iconst (v := 1) C d_Un_addReference_15 (by decide) ?_
  refine V_iadd C d_Un_addReference_16 ?_
  refine V_eqi (y := nI (k9 + 1)) (by rw [he]; exact nI_1 k9) ?_
  refine V_putI (kx := 5) C d_Un_addReference_17 cf_Un (by decide) k_Un_64 (nn hU.1) rfl rfl rfl rfl ?_
  refine V_aload_n C d_Un_addReference_20 rfl ?_
  refine V_getI (kx := 5) C d_Un_addReference_21 cf_Un (by decide) k_Un_64 (nn hU.1) rfl ?_
  refine V_iconst (v := 1) C d_Un_addReference_24 (by decide) ?_
  rw [up4_s]
  refine V_isub C d_Un_addReference_25 ?_
  rw [nI_pred]
  refine V_iret C hQ (by decide) (by decide) d_Un_addReference_26 rfl ?_
  exact ⟨rfl, rfl, rfl, rfl, rfl⟩
set_option maxHeartbeats 1000000 in
set_option maxRecDepth 10000 in
theorem c_Un_hasName {ν : Nu} {ι : Io} {ρ : Ro} {ℓ : Lo} {o c9 n9 r9 : Nat} (hU : UI ν ι ρ o c9 n9 r9) {x : Int32} : Ct y_Un_hasName (Cond.code y_Un_hasName b_Un_hasName 3 (some .boolean) :: tb_) { frames := 0, cells := 0, slots := 0, locals := 0 } [sR 8 o 0, sI x] ν ι ρ ℓ (pEq (some (sI (b2 (hasNc ι o x n9 = true)))) ν ι ρ ℓ) (noX) := by
  refine Ct.ofV (by decide) (Nat.le_of_ble_eq_true rfl) rfl ?_
  intro p l e s m args below meth c D B tW α0 Q C hQ
  have h12 := hU.n12
  have loop : ∀ (f : Nat) (i : Nat), n9 - i < f → (i ≤ n9) → (hasNc ι o x i = false) → V p l e { frames := 0, cells := 0, slots := 0, locals := 0 } s m args below meth c D B α0 ν 3 Q 0 0 ν ι ρ ℓ 2 [(2, sI (nI i)), (0, sR 8 o 0), (1, sI x)] [] := by
    intro f
    induction f with
    | zero => intros; omega
    | succ f ih =>
      intro i hf hi0 hno
      refine V_iload_n C d_Un_hasName_2 rfl ?_
      refine V_aload_n C d_Un_hasName_3 rfl ?_
      refine V_getI (kx := 3) C d_Un_hasName_4 cf_Un (by decide) k_Un_51 hU.al rfl ?_
      rw [hU.en]
      refine V_icmp_ge (tgt := 31) C d_Un_hasName_7 (by decide) (fun h7 => ?_) (fun h7 => ?_)
      · have hi : i = n9 := by have := (nI_leI (a := n9) (b := i) (by omega) (by omega)).mp h7; omega
        subst hi
        refine V_iconst (v := 0) C d_Un_hasName_31 (by decide) ?_
        refine V_zret C hQ (by decide) (by decide) d_Un_hasName_32 rfl rfl ?_
        exact ⟨congrArg (fun z => some (sI z)) (b2_f (by rw [hno]; decide)), rfl, rfl, rfl, rfl⟩
      · have hi : i < n9 := Nat.lt_of_not_le fun z => h7 ((nI_leI (by omega) (by omega)).mpr z)
        refine V_aload_n C d_Un_hasName_10 rfl ?_
        refine V_getR (kx := 2) C d_Un_hasName_11 cf_Un (by decide) k_Un_19 hU.al rfl hU.r2 ?_
        refine V_iload_n C d_Un_hasName_14 rfl ?_
        refine V_aald C d_Un_hasName_15 (by decide) (by decide) rfl hU.n2 rfl (by omega) rfl (hU.na hi).2 ?_
        refine V_getI (kx := 0) C d_Un_hasName_16 cf_Na (by decide) k_Un_54 (nn (hU.na hi).1) rfl ?_
        refine V_iload_n C d_Un_hasName_19 rfl ?_
        refine V_icmp_ne (tgt := 25) C d_Un_hasName_20 (by decide) (fun h20 => ?_) (fun h20 => ?_)
        · refine V_iinc (v := nI (i + 1)) (lv' := [(2, _), (0, _), (1, _)]) C d_Un_hasName_25 rfl (nI_1 i) (by decide) rfl ?_
          refine V_goto (tgt := 2) C d_Un_hasName_28 (by decide) ?_
          refine V_pick [0, 1, 2] rfl ?_
          exact ih (i + 1) (by omega) (by omega) (by rw [hasNc_s, hno, show (ι 2 o i 0 == x) = false by simp [h20]]; rfl)
        · refine V_iconst (v := 1) C d_Un_hasName_23 (by decide) ?_
          refine V_zret C hQ (by decide) (by decide) d_Un_hasName_24 rfl rfl ?_
          exact ⟨congrArg (fun z => some (sI z)) (b2_t (hasNc_hit hi h20)), rfl, rfl, rfl, rfl⟩
  refine V_iconst (v := 0) C d_Un_hasName_0 (by decide) ?_
  refine V_istore_n (lv' := [(2, _), (0, _), (1, _)]) C d_Un_hasName_1 (by decide) rfl ?_
  refine V_pick [0, 1, 2] rfl ?_
  exact loop (n9 + 1) 0 (by omega) (by omega) rfl
set_option maxHeartbeats 1000000 in
set_option maxRecDepth 10000 in
theorem c_Un_sortCanBe {ν : Nu} {ι : Io} {ρ : Ro} {ℓ : Lo} {o c9 n9 r9 : Nat} (hU : UI ν ι ρ o c9 n9 r9) {k s9 q : Int32} : Ct y_Un_sortCanBe (Cond.code y_Un_sortCanBe b_Un_sortCanBe 5 (some .boolean) :: tb_) { frames := 1, cells := 0, slots := 0, locals := 21 } [sR 8 o 0, sI k, sI s9, sI q] ν ι ρ ℓ (pEq (some (sI (b2 (sortOK ι o c9 k s9 q)))) ν ι ρ ℓ) (noX) := by
  refine Ct.ofV (by decide) (Nat.le_of_ble_eq_true rfl) rfl ?_
  intro p l e s m args below meth c D B tW α0 Q C hQ
  have h8 := hU.c8
  by_cases hsec : 0 ≤ s9 ∧ s9 ≤ nI c9 - 1
  · have hsec2 := hsec
    obtain ⟨j, hj, hs9⟩ := rng_of (by omega) hsec
    subst hs9
    have hcl : cl (nI j) = j := nI_clamp (by omega)
    refine V_iload_n C d_Un_sortCanBe_0 rfl ?_
    by_cases c1_0 : k = 0
    · subst c1_0
      refine V_tswI (tgt := 32) C d_Un_sortCanBe_1 (by decide) (by decide) rfl (by decide) ?_
      refine V_aload_n C d_Un_sortCanBe_32 rfl ?_
      refine V_iload_n C d_Un_sortCanBe_33 rfl ?_
      refine V_callV (as := [_]) C d_Un_sortCanBe_34 (c_Un_sectionOrNull_y hU hj) m_Un_sectionOrNull cf_Un k_Un_41 hU.al ⟨by decide, by decide⟩ (Nat.le_of_ble_eq_true rfl) ⟨by decide, by decide⟩ rfl ?_
      rintro _ _ _ _ _ ⟨rfl, rfl, rfl, rfl, rfl⟩
      dsimp only [Option.toList, List.cons_append, List.nil_append]
      refine V_astore (lv' := [(4, _), (0, _), (1, _), (2, _), (3, _)]) C d_Un_sortCanBe_37 (by decide) rfl ?_
      refine V_aload C d_Un_sortCanBe_39 rfl ?_
      refine V_ifnull (tgt := 57) C d_Un_sortCanBe_41 (by decide) (fun h41 => (by cases h41)) (fun z41 h41 => ?_)
      refine V_aload C d_Un_sortCanBe_44 rfl ?_
      refine V_iload_n C d_Un_sortCanBe_46 rfl ?_
      refine V_callV (as := [_]) C d_Un_sortCanBe_47 (c_Se_hasPlace (nn (hU.se hj).1)) m_Se_hasPlace cf_Se k_Un_45 (nn (hU.se hj).1) ⟨by decide, by decide⟩ (Nat.le_of_ble_eq_true rfl) ⟨by decide, by decide⟩ rfl ?_
      rintro _ _ _ _ _ ⟨rfl, rfl, rfl, rfl, rfl⟩
      dsimp only [Option.toList, List.cons_append, List.nil_append]
      refine V_if_eq (tgt := 57) C d_Un_sortCanBe_50 (by decide) (fun h50 => ?_) (fun h50 => ?_)
      · refine V_iconst (v := 0) C d_Un_sortCanBe_57 (by decide) ?_
        refine V_zret C hQ (by decide) (by decide) d_Un_sortCanBe_58 rfl rfl ?_
        exact ⟨congrArg (fun z => some (sI z)) (by clear hQ C; unfold b2 sortOK at *; rw [hcl] at *; grind), rfl, rfl, rfl, rfl⟩
      · refine V_iconst (v := 1) C d_Un_sortCanBe_53 (by decide) ?_
        refine V_goto (tgt := 58) C d_Un_sortCanBe_54 (by decide) ?_
        refine V_zret C hQ (by decide) (by decide) d_Un_sortCanBe_58 rfl rfl ?_
        exact ⟨congrArg (fun z => some (sI z)) (by clear hQ C; unfold b2 sortOK at *; rw [hcl] at *; grind), rfl, rfl, rfl, rfl⟩
    by_cases c1_1 : k = 1
    · subst c1_1
      refine V_tswI (tgt := 32) C d_Un_sortCanBe_1 (by decide) (by decide) rfl (by decide) ?_
      refine V_aload_n C d_Un_sortCanBe_32 rfl ?_
      refine V_iload_n C d_Un_sortCanBe_33 rfl ?_
      refine V_callV (as := [_]) C d_Un_sortCanBe_34 (c_Un_sectionOrNull_y hU hj) m_Un_sectionOrNull cf_Un k_Un_41 hU.al ⟨by decide, by decide⟩ (Nat.le_of_ble_eq_true rfl) ⟨by decide, by decide⟩ rfl ?_
      rintro _ _ _ _ _ ⟨rfl, rfl, rfl, rfl, rfl⟩
      dsimp only [Option.toList, List.cons_append, List.nil_append]
      refine V_astore (lv' := [(4, _), (0, _), (1, _), (2, _), (3, _)]) C d_Un_sortCanBe_37 (by decide) rfl ?_
      refine V_aload C d_Un_sortCanBe_39 rfl ?_
      refine V_ifnull (tgt := 57) C d_Un_sortCanBe_41 (by decide) (fun h41 => (by cases h41)) (fun z41 h41 => ?_)
      refine V_aload C d_Un_sortCanBe_44 rfl ?_
      refine V_iload_n C d_Un_sortCanBe_46 rfl ?_
      refine V_callV (as := [_]) C d_Un_sortCanBe_47 (c_Se_hasPlace (nn (hU.se hj).1)) m_Se_hasPlace cf_Se k_Un_45 (nn (hU.se hj).1) ⟨by decide, by decide⟩ (Nat.le_of_ble_eq_true rfl) ⟨by decide, by decide⟩ rfl ?_
      rintro _ _ _ _ _ ⟨rfl, rfl, rfl, rfl, rfl⟩
      dsimp only [Option.toList, List.cons_append, List.nil_append]
      refine V_if_eq (tgt := 57) C d_Un_sortCanBe_50 (by decide) (fun h50 => ?_) (fun h50 => ?_)
      · refine V_iconst (v := 0) C d_Un_sortCanBe_57 (by decide) ?_
        refine V_zret C hQ (by decide) (by decide) d_Un_sortCanBe_58 rfl rfl ?_
        exact ⟨congrArg (fun z => some (sI z)) (by clear hQ C; unfold b2 sortOK at *; rw [hcl] at *; grind), rfl, rfl, rfl, rfl⟩
      · refine V_iconst (v := 1) C d_Un_sortCanBe_53 (by decide) ?_
        refine V_goto (tgt := 58) C d_Un_sortCanBe_54 (by decide) ?_
        refine V_zret C hQ (by decide) (by decide) d_Un_sortCanBe_58 rfl rfl ?_
        exact ⟨congrArg (fun z => some (sI z)) (by clear hQ C; unfold b2 sortOK at *; rw [hcl] at *; grind), rfl, rfl, rfl, rfl⟩
    by_cases c1_2 : k = 2
    · subst c1_2
      refine V_tswI (tgt := 59) C d_Un_sortCanBe_1 (by decide) (by decide) rfl (by decide) ?_
      refine V_iload_n C d_Un_sortCanBe_59 rfl ?_
      refine V_callS (as := [_]) C d_Un_sortCanBe_60 c_Se_powerCanBe m_Se_powerCanBe k_Un_48 ⟨by decide, by decide⟩ (Nat.le_of_ble_eq_true rfl) ⟨by decide, by decide⟩ rfl ?_
      rintro _ _ _ _ _ ⟨rfl, rfl, rfl, rfl, rfl⟩
      dsimp only [Option.toList, List.cons_append, List.nil_append]
      refine V_if_eq (tgt := 82) C d_Un_sortCanBe_63 (by decide) (fun h63 => ?_) (fun h63 => ?_)
      · refine V_iconst (v := 0) C d_Un_sortCanBe_82 (by decide) ?_
        refine V_zret C hQ (by decide) (by decide) d_Un_sortCanBe_83 rfl rfl ?_
        exact ⟨congrArg (fun z => some (sI z)) (by clear hQ C; unfold b2 sortOK at *; rw [hcl] at *; grind), rfl, rfl, rfl, rfl⟩
      · refine V_iload_n C d_Un_sortCanBe_66 rfl ?_
        refine V_iconst (v := 1) C d_Un_sortCanBe_67 (by decide) ?_
        refine V_icmp_lt (tgt := 82) C d_Un_sortCanBe_68 (by decide) (fun h68 => ?_) (fun h68 => ?_)
        · refine V_iconst (v := 0) C d_Un_sortCanBe_82 (by decide) ?_
          refine V_zret C hQ (by decide) (by decide) d_Un_sortCanBe_83 rfl rfl ?_
          exact ⟨congrArg (fun z => some (sI z)) (by clear hQ C; unfold b2 sortOK at *; rw [hcl] at *; grind), rfl, rfl, rfl, rfl⟩
        · refine V_iload_n C d_Un_sortCanBe_71 rfl ?_
          refine V_sipush (v := 1024) C d_Un_sortCanBe_72 (by decide) ?_
          refine V_icmp_gt (tgt := 82) C d_Un_sortCanBe_75 (by decide) (fun h75 => ?_) (fun h75 => ?_)
          · refine V_iconst (v := 0) C d_Un_sortCanBe_82 (by decide) ?_
            refine V_zret C hQ (by decide) (by decide) d_Un_sortCanBe_83 rfl rfl ?_
            exact ⟨congrArg (fun z => some (sI z)) (by clear hQ C; unfold b2 sortOK at *; rw [hcl] at *; grind), rfl, rfl, rfl, rfl⟩
          · refine V_iconst (v := 1) C d_Un_sortCanBe_78 (by decide) ?_
            refine V_goto (tgt := 83) C d_Un_sortCanBe_79 (by decide) ?_
            refine V_zret C hQ (by decide) (by decide) d_Un_sortCanBe_83 rfl rfl ?_
            exact ⟨congrArg (fun z => some (sI z)) (by clear hQ C; unfold b2 sortOK at *; rw [hcl] at *; grind), rfl, rfl, rfl, rfl⟩
    by_cases c1_3 : k = 3
    · subst c1_3
      refine V_tswI (tgt := 84) C d_Un_sortCanBe_1 (by decide) (by decide) rfl (by decide) ?_
      refine V_iload_n C d_Un_sortCanBe_84 rfl ?_
      refine V_if_ne (tgt := 96) C d_Un_sortCanBe_85 (by decide) (fun h85 => ?_) (fun h85 => ?_)
      · refine V_iconst (v := 0) C d_Un_sortCanBe_96 (by decide) ?_
        refine V_zret C hQ (by decide) (by decide) d_Un_sortCanBe_97 rfl rfl ?_
        exact ⟨congrArg (fun z => some (sI z)) (by clear hQ C; unfold b2 sortOK at *; rw [hcl] at *; grind), rfl, rfl, rfl, rfl⟩
      · refine V_iload_n C d_Un_sortCanBe_88 rfl ?_
        refine V_if_ne (tgt := 96) C d_Un_sortCanBe_89 (by decide) (fun h89 => ?_) (fun h89 => ?_)
        · refine V_iconst (v := 0) C d_Un_sortCanBe_96 (by decide) ?_
          refine V_zret C hQ (by decide) (by decide) d_Un_sortCanBe_97 rfl rfl ?_
          exact ⟨congrArg (fun z => some (sI z)) (by clear hQ C; unfold b2 sortOK at *; rw [hcl] at *; grind), rfl, rfl, rfl, rfl⟩
        · refine V_iconst (v := 1) C d_Un_sortCanBe_92 (by decide) ?_
          refine V_goto (tgt := 97) C d_Un_sortCanBe_93 (by decide) ?_
          refine V_zret C hQ (by decide) (by decide) d_Un_sortCanBe_97 rfl rfl ?_
          exact ⟨congrArg (fun z => some (sI z)) (by clear hQ C; unfold b2 sortOK at *; rw [hcl] at *; grind), rfl, rfl, rfl, rfl⟩
    refine V_tswO (tgt := 98) C d_Un_sortCanBe_1 (tsw_out (lo := 0) 4 (by decide) (fun t ht => ?_)) (by decide) ?_
    · rcases (show t = 0 ∨ t = 1 ∨ t = 2 ∨ t = 3 by omega) with rfl | rfl | rfl | rfl <;> assumption
    refine V_iconst (v := 0) C d_Un_sortCanBe_98 (by decide) ?_
    refine V_zret C hQ (by decide) (by decide) d_Un_sortCanBe_99 rfl rfl ?_
    exact ⟨congrArg (fun z => some (sI z)) (by clear hQ C; unfold b2 sortOK at *; rw [hcl] at *; grind), rfl, rfl, rfl, rfl⟩
  · skip
    refine V_iload_n C d_Un_sortCanBe_0 rfl ?_
    by_cases c1_0 : k = 0
    · subst c1_0
      refine V_tswI (tgt := 32) C d_Un_sortCanBe_1 (by decide) (by decide) rfl (by decide) ?_
      refine V_aload_n C d_Un_sortCanBe_32 rfl ?_
      refine V_iload_n C d_Un_sortCanBe_33 rfl ?_
      refine V_callV (as := [_]) C d_Un_sortCanBe_34 (c_Un_sectionOrNull_n hU hsec) m_Un_sectionOrNull cf_Un k_Un_41 hU.al ⟨by decide, by decide⟩ (Nat.le_of_ble_eq_true rfl) ⟨by decide, by decide⟩ rfl ?_
      rintro _ _ _ _ _ ⟨rfl, rfl, rfl, rfl, rfl⟩
      dsimp only [Option.toList, List.cons_append, List.nil_append]
      refine V_astore (lv' := [(4, _), (0, _), (1, _), (2, _), (3, _)]) C d_Un_sortCanBe_37 (by decide) rfl ?_
      refine V_aload C d_Un_sortCanBe_39 rfl ?_
      refine V_ifnull (tgt := 57) C d_Un_sortCanBe_41 (by decide) (fun h41 => ?_) (fun _ h41 => (by cases h41))
      refine V_iconst (v := 0) C d_Un_sortCanBe_57 (by decide) ?_
      refine V_zret C hQ (by decide) (by decide) d_Un_sortCanBe_58 rfl rfl ?_
      exact ⟨congrArg (fun z => some (sI z)) (by clear hQ C; unfold b2 sortOK at *; grind), rfl, rfl, rfl, rfl⟩
    by_cases c1_1 : k = 1
    · subst c1_1
      refine V_tswI (tgt := 32) C d_Un_sortCanBe_1 (by decide) (by decide) rfl (by decide) ?_
      refine V_aload_n C d_Un_sortCanBe_32 rfl ?_
      refine V_iload_n C d_Un_sortCanBe_33 rfl ?_
      refine V_callV (as := [_]) C d_Un_sortCanBe_34 (c_Un_sectionOrNull_n hU hsec) m_Un_sectionOrNull cf_Un k_Un_41 hU.al ⟨by decide, by decide⟩ (Nat.le_of_ble_eq_true rfl) ⟨by decide, by decide⟩ rfl ?_
      rintro _ _ _ _ _ ⟨rfl, rfl, rfl, rfl, rfl⟩
      dsimp only [Option.toList, List.cons_append, List.nil_append]
      refine V_astore (lv' := [(4, _), (0, _), (1, _), (2, _), (3, _)]) C d_Un_sortCanBe_37 (by decide) rfl ?_
      refine V_aload C d_Un_sortCanBe_39 rfl ?_
      refine V_ifnull (tgt := 57) C d_Un_sortCanBe_41 (by decide) (fun h41 => ?_) (fun _ h41 => (by cases h41))
      refine V_iconst (v := 0) C d_Un_sortCanBe_57 (by decide) ?_
      refine V_zret C hQ (by decide) (by decide) d_Un_sortCanBe_58 rfl rfl ?_
      exact ⟨congrArg (fun z => some (sI z)) (by clear hQ C; unfold b2 sortOK at *; grind), rfl, rfl, rfl, rfl⟩
    by_cases c1_2 : k = 2
    · subst c1_2
      refine V_tswI (tgt := 59) C d_Un_sortCanBe_1 (by decide) (by decide) rfl (by decide) ?_
      refine V_iload_n C d_Un_sortCanBe_59 rfl ?_
      refine V_callS (as := [_]) C d_Un_sortCanBe_60 c_Se_powerCanBe m_Se_powerCanBe k_Un_48 ⟨by decide, by decide⟩ (Nat.le_of_ble_eq_true rfl) ⟨by decide, by decide⟩ rfl ?_
      rintro _ _ _ _ _ ⟨rfl, rfl, rfl, rfl, rfl⟩
      dsimp only [Option.toList, List.cons_append, List.nil_append]
      refine V_if_eq (tgt := 82) C d_Un_sortCanBe_63 (by decide) (fun h63 => ?_) (fun h63 => ?_)
      · refine V_iconst (v := 0) C d_Un_sortCanBe_82 (by decide) ?_
        refine V_zret C hQ (by decide) (by decide) d_Un_sortCanBe_83 rfl rfl ?_
        exact ⟨congrArg (fun z => some (sI z)) (by clear hQ C; unfold b2 sortOK at *; grind), rfl, rfl, rfl, rfl⟩
      · refine V_iload_n C d_Un_sortCanBe_66 rfl ?_
        refine V_iconst (v := 1) C d_Un_sortCanBe_67 (by decide) ?_
        refine V_icmp_lt (tgt := 82) C d_Un_sortCanBe_68 (by decide) (fun h68 => ?_) (fun h68 => ?_)
        · refine V_iconst (v := 0) C d_Un_sortCanBe_82 (by decide) ?_
          refine V_zret C hQ (by decide) (by decide) d_Un_sortCanBe_83 rfl rfl ?_
          exact ⟨congrArg (fun z => some (sI z)) (by clear hQ C; unfold b2 sortOK at *; grind), rfl, rfl, rfl, rfl⟩
        · refine V_iload_n C d_Un_sortCanBe_71 rfl ?_
          refine V_sipush (v := 1024) C d_Un_sortCanBe_72 (by decide) ?_
          refine V_icmp_gt (tgt := 82) C d_Un_sortCanBe_75 (by decide) (fun h75 => ?_) (fun h75 => ?_)
          · refine V_iconst (v := 0) C d_Un_sortCanBe_82 (by decide) ?_
            refine V_zret C hQ (by decide) (by decide) d_Un_sortCanBe_83 rfl rfl ?_
            exact ⟨congrArg (fun z => some (sI z)) (by clear hQ C; unfold b2 sortOK at *; grind), rfl, rfl, rfl, rfl⟩
          · refine V_iconst (v := 1) C d_Un_sortCanBe_78 (by decide) ?_
            refine V_goto (tgt := 83) C d_Un_sortCanBe_79 (by decide) ?_
            refine V_zret C hQ (by decide) (by decide) d_Un_sortCanBe_83 rfl rfl ?_
            exact ⟨congrArg (fun z => some (sI z)) (by clear hQ C; unfold b2 sortOK at *; grind), rfl, rfl, rfl, rfl⟩
    by_cases c1_3 : k = 3
    · subst c1_3
      refine V_tswI (tgt := 84) C d_Un_sortCanBe_1 (by decide) (by decide) rfl (by decide) ?_
      refine V_iload_n C d_Un_sortCanBe_84 rfl ?_
      refine V_if_ne (tgt := 96) C d_Un_sortCanBe_85 (by decide) (fun h85 => ?_) (fun h85 => ?_)
      · refine V_iconst (v := 0) C d_Un_sortCanBe_96 (by decide) ?_
        refine V_zret C hQ (by decide) (by decide) d_Un_sortCanBe_97 rfl rfl ?_
        exact ⟨congrArg (fun z => some (sI z)) (by clear hQ C; unfold b2 sortOK at *; grind), rfl, rfl, rfl, rfl⟩
      · refine V_iload_n C d_Un_sortCanBe_88 rfl ?_
        refine V_if_ne (tgt := 96) C d_Un_sortCanBe_89 (by decide) (fun h89 => ?_) (fun h89 => ?_)
        · refine V_iconst (v := 0) C d_Un_sortCanBe_96 (by decide) ?_
          refine V_zret C hQ (by decide) (by decide) d_Un_sortCanBe_97 rfl rfl ?_
          exact ⟨congrArg (fun z => some (sI z)) (by clear hQ C; unfold b2 sortOK at *; grind), rfl, rfl, rfl, rfl⟩
        · refine V_iconst (v := 1) C d_Un_sortCanBe_92 (by decide) ?_
          refine V_goto (tgt := 97) C d_Un_sortCanBe_93 (by decide) ?_
          refine V_zret C hQ (by decide) (by decide) d_Un_sortCanBe_97 rfl rfl ?_
          exact ⟨congrArg (fun z => some (sI z)) (by clear hQ C; unfold b2 sortOK at *; grind), rfl, rfl, rfl, rfl⟩
    refine V_tswO (tgt := 98) C d_Un_sortCanBe_1 (tsw_out (lo := 0) 4 (by decide) (fun t ht => ?_)) (by decide) ?_
    · rcases (show t = 0 ∨ t = 1 ∨ t = 2 ∨ t = 3 by omega) with rfl | rfl | rfl | rfl <;> assumption
    refine V_iconst (v := 0) C d_Un_sortCanBe_98 (by decide) ?_
    refine V_zret C hQ (by decide) (by decide) d_Un_sortCanBe_99 rfl rfl ?_
    exact ⟨congrArg (fun z => some (sI z)) (by clear hQ C; unfold b2 sortOK at *; grind), rfl, rfl, rfl, rfl⟩
set_option maxHeartbeats 1000000 in
set_option maxRecDepth 10000 in
theorem c_Un_canName {ν : Nu} {ι : Io} {ρ : Ro} {ℓ : Lo} {o c9 n9 r9 : Nat} (hU : UI ν ι ρ o c9 n9 r9) {x k s9 q : Int32} : Ct y_Un_canName (Cond.code y_Un_canName b_Un_canName 5 (some .boolean) :: tb_) { frames := 2, cells := 0, slots := 0, locals := 45 } [sR 8 o 0, sI x, sI k, sI s9, sI q] ν ι ρ ℓ (pEq (some (sI (b2 (sortOK ι o c9 k s9 q ∧ hasNc ι o x n9 = false)))) ν ι ρ ℓ) (noX) := by
  refine Ct.ofV (by decide) (Nat.le_of_ble_eq_true rfl) rfl ?_
  intro p l e s m args below meth c D B tW α0 Q C hQ
  refine V_aload_n C d_Un_canName_0 rfl ?_
  refine V_iload_n C d_Un_canName_1 rfl ?_
  refine V_iload_n C d_Un_canName_2 rfl ?_
  refine V_iload C d_Un_canName_3 rfl ?_
  refine V_callV (as := [_, _, _]) C d_Un_canName_5 (c_Un_sortCanBe hU) m_Un_sortCanBe cf_Un k_Un_33 hU.al ⟨by decide, by decide⟩ (Nat.le_of_ble_eq_true rfl) ⟨by decide, by decide⟩ rfl ?_
  rintro _ _ _ _ _ ⟨rfl, rfl, rfl, rfl, rfl⟩
  dsimp only [Option.toList, List.cons_append, List.nil_append]
  refine V_if_eq (tgt := 23) C d_Un_canName_8 (by decide) (fun h8 => ?_) (fun h8 => ?_)
  · have g9 : b2 (sortOK ι o c9 k s9 q ∧ hasNc ι o x n9 = false) = 0 := b2_f (fun z => b2_0.mp h8 z.1)
    refine V_iconst (v := 0) C d_Un_canName_23 (by decide) ?_
    refine V_zret C hQ (by decide) (by decide) d_Un_canName_24 rfl rfl ?_
    exact ⟨congrArg (fun z => some (sI z)) (g9), rfl, rfl, rfl, rfl⟩
  · have g8 := b2_n0.mp h8
    refine V_aload_n C d_Un_canName_11 rfl ?_
    refine V_iload_n C d_Un_canName_12 rfl ?_
    refine V_callV (as := [_]) C d_Un_canName_13 (c_Un_hasName hU) m_Un_hasName cf_Un k_Un_37 hU.al ⟨by decide, by decide⟩ (Nat.le_of_ble_eq_true rfl) ⟨by decide, by decide⟩ rfl ?_
    rintro _ _ _ _ _ ⟨rfl, rfl, rfl, rfl, rfl⟩
    dsimp only [Option.toList, List.cons_append, List.nil_append]
    refine V_if_ne (tgt := 23) C d_Un_canName_16 (by decide) (fun h16 => ?_) (fun h16 => ?_)
    · have g9 : b2 (sortOK ι o c9 k s9 q ∧ hasNc ι o x n9 = false) = 0 := b2_f (fun z => by rw [b2_n0.mp h16] at z; cases z.2)
      refine V_iconst (v := 0) C d_Un_canName_23 (by decide) ?_
      refine V_zret C hQ (by decide) (by decide) d_Un_canName_24 rfl rfl ?_
      exact ⟨congrArg (fun z => some (sI z)) (g9), rfl, rfl, rfl, rfl⟩
    · have g9 : b2 (sortOK ι o c9 k s9 q ∧ hasNc ι o x n9 = false) = 1 := b2_t ⟨g8, by simpa using b2_0.mp h16⟩
      refine V_iconst (v := 1) C d_Un_canName_19 (by decide) ?_
      refine V_goto (tgt := 24) C d_Un_canName_20 (by decide) ?_
      refine V_zret C hQ (by decide) (by decide) d_Un_canName_24 rfl rfl ?_
      exact ⟨congrArg (fun z => some (sI z)) (g9), rfl, rfl, rfl, rfl⟩
set_option maxHeartbeats 1000000 in
set_option maxRecDepth 10000 in
theorem c_Un_canRefer {ν : Nu} {ι : Io} {ρ : Ro} {ℓ : Lo} {o c9 n9 r9 : Nat} (hU : UI ν ι ρ o c9 n9 r9) {s9 q w m9 : Int32} : Ct y_Un_canRefer (Cond.code y_Un_canRefer b_Un_canRefer 6 (some .boolean) :: tb_) { frames := 1, cells := 0, slots := 0, locals := 21 } [sR 8 o 0, sI s9, sI q, sI w, sI m9] ν ι ρ ℓ (pEq (some (sI (b2 (cRf ι o c9 n9 s9 q w m9)))) ν ι ρ ℓ) (noX) := by
  refine Ct.ofV (by decide) (Nat.le_of_ble_eq_true rfl) rfl ?_
  intro p l e s m args below meth c D B tW α0 Q C hQ
  have h8 := hU.c8
  have h12 := hU.n12
  have e5 : w < 5 ↔ w ≤ 4 := lt_pd5
  have e9 : m9 < nI n9 ↔ m9 ≤ nI n9 - 1 := lt_pd (by omega)
  by_cases hsec : 0 ≤ s9 ∧ s9 ≤ nI c9 - 1
  · have hsec2 := hsec
    obtain ⟨j, hj, hs9⟩ := rng_of (by omega) hsec
    subst hs9
    have hcl : cl (nI j) = j := nI_clamp (by omega)
    refine V_aload_n C d_Un_canRefer_0 rfl ?_
    refine V_iload_n C d_Un_canRefer_1 rfl ?_
    refine V_callV (as := [_]) C d_Un_canRefer_2 (c_Un_sectionOrNull_y hU hj) m_Un_sectionOrNull cf_Un k_Un_41 hU.al ⟨by decide, by decide⟩ (Nat.le_of_ble_eq_true rfl) ⟨by decide, by decide⟩ rfl ?_
    rintro _ _ _ _ _ ⟨rfl, rfl, rfl, rfl, rfl⟩
    dsimp only [Option.toList, List.cons_append, List.nil_append]
    refine V_astore (lv' := [(5, _), (0, _), (1, _), (2, _), (3, _), (4, _)]) C d_Un_canRefer_5 (by decide) rfl ?_
    refine V_aload C d_Un_canRefer_7 rfl ?_
    refine V_ifnull (tgt := 60) C d_Un_canRefer_9 (by decide) (fun h9 => (by cases h9)) (fun z9 h9 => ?_)
    refine V_aload C d_Un_canRefer_12 rfl ?_
    refine V_getI (kx := 0) C d_Un_canRefer_14 cf_Se (by decide) k_Un_57 (nn (hU.se hj).1) rfl ?_
    refine V_iconst (v := 3) C d_Un_canRefer_17 (by decide) ?_
    refine V_icmp_eq (tgt := 60) C d_Un_canRefer_18 (by decide) (fun h18 => ?_) (fun h18 => ?_)
    · refine V_iconst (v := 0) C d_Un_canRefer_60 (by decide) ?_
      refine V_zret C hQ (by decide) (by decide) d_Un_canRefer_61 rfl rfl ?_
      exact ⟨congrArg (fun z => some (sI z)) (by clear hQ C; unfold b2 cRf at *; rw [hcl] at *; grind), rfl, rfl, rfl, rfl⟩
    · refine V_aload C d_Un_canRefer_21 rfl ?_
      refine V_iload_n C d_Un_canRefer_23 rfl ?_
      refine V_callV (as := [_]) C d_Un_canRefer_24 (c_Se_hasPlace (nn (hU.se hj).1)) m_Se_hasPlace cf_Se k_Un_45 (nn (hU.se hj).1) ⟨by decide, by decide⟩ (Nat.le_of_ble_eq_true rfl) ⟨by decide, by decide⟩ rfl ?_
      rintro _ _ _ _ _ ⟨rfl, rfl, rfl, rfl, rfl⟩
      dsimp only [Option.toList, List.cons_append, List.nil_append]
      refine V_if_eq (tgt := 60) C d_Un_canRefer_27 (by decide) (fun h27 => ?_) (fun h27 => ?_)
      · have g27 := b2_0.mp h27
        refine V_iconst (v := 0) C d_Un_canRefer_60 (by decide) ?_
        refine V_zret C hQ (by decide) (by decide) d_Un_canRefer_61 rfl rfl ?_
        exact ⟨congrArg (fun z => some (sI z)) (by clear hQ C; unfold b2 cRf at *; rw [hcl] at *; grind), rfl, rfl, rfl, rfl⟩
      · have g27 := b2_n0.mp h27
        refine V_iload_n C d_Un_canRefer_30 rfl ?_
        refine V_if_lt (tgt := 60) C d_Un_canRefer_31 (by decide) (fun h31 => ?_) (fun h31 => ?_)
        · refine V_iconst (v := 0) C d_Un_canRefer_60 (by decide) ?_
          refine V_zret C hQ (by decide) (by decide) d_Un_canRefer_61 rfl rfl ?_
          exact ⟨congrArg (fun z => some (sI z)) (by clear hQ C; unfold b2 cRf at *; rw [hcl] at *; grind), rfl, rfl, rfl, rfl⟩
        · refine V_iload_n C d_Un_canRefer_34 rfl ?_
          refine V_gWid (host := "ObjectLinks") C d_Un_canRefer_35 (by decide +kernel) ?_
          refine V_lWid C d_Un_canRefer_38 ?_
          refine V_icmp_ge (tgt := 60) C d_Un_canRefer_39 (by decide) (fun h39 => ?_) (fun h39 => ?_)
          · refine V_iconst (v := 0) C d_Un_canRefer_60 (by decide) ?_
            refine V_zret C hQ (by decide) (by decide) d_Un_canRefer_61 rfl rfl ?_
            exact ⟨congrArg (fun z => some (sI z)) (by clear hQ C; unfold b2 cRf at *; rw [hcl] at *; grind), rfl, rfl, rfl, rfl⟩
          · refine V_iload C d_Un_canRefer_42 rfl ?_
            refine V_if_lt (tgt := 60) C d_Un_canRefer_44 (by decide) (fun h44 => ?_) (fun h44 => ?_)
            · refine V_iconst (v := 0) C d_Un_canRefer_60 (by decide) ?_
              refine V_zret C hQ (by decide) (by decide) d_Un_canRefer_61 rfl rfl ?_
              exact ⟨congrArg (fun z => some (sI z)) (by clear hQ C; unfold b2 cRf at *; rw [hcl] at *; grind), rfl, rfl, rfl, rfl⟩
            · refine V_iload C d_Un_canRefer_47 rfl ?_
              refine V_aload_n C d_Un_canRefer_49 rfl ?_
              refine V_getI (kx := 3) C d_Un_canRefer_50 cf_Un (by decide) k_Un_51 hU.al rfl ?_
              rw [hU.en]
              refine V_icmp_ge (tgt := 60) C d_Un_canRefer_53 (by decide) (fun h53 => ?_) (fun h53 => ?_)
              · refine V_iconst (v := 0) C d_Un_canRefer_60 (by decide) ?_
                refine V_zret C hQ (by decide) (by decide) d_Un_canRefer_61 rfl rfl ?_
                exact ⟨congrArg (fun z => some (sI z)) (by clear hQ C; unfold b2 cRf at *; rw [hcl] at *; grind), rfl, rfl, rfl, rfl⟩
              · refine V_iconst (v := 1) C d_Un_canRefer_56 (by decide) ?_
                refine V_goto (tgt := 61) C d_Un_canRefer_57 (by decide) ?_
                refine V_zret C hQ (by decide) (by decide) d_Un_canRefer_61 rfl rfl ?_
                exact ⟨congrArg (fun z => some (sI z)) (by clear hQ C; unfold b2 cRf at *; rw [hcl] at *; grind), rfl, rfl, rfl, rfl⟩
  · skip
    refine V_aload_n C d_Un_canRefer_0 rfl ?_
    refine V_iload_n C d_Un_canRefer_1 rfl ?_
    refine V_callV (as := [_]) C d_Un_canRefer_2 (c_Un_sectionOrNull_n hU hsec) m_Un_sectionOrNull cf_Un k_Un_41 hU.al ⟨by decide, by decide⟩ (Nat.le_of_ble_eq_true rfl) ⟨by decide, by decide⟩ rfl ?_
    rintro _ _ _ _ _ ⟨rfl, rfl, rfl, rfl, rfl⟩
    dsimp only [Option.toList, List.cons_append, List.nil_append]
    refine V_astore (lv' := [(5, _), (0, _), (1, _), (2, _), (3, _), (4, _)]) C d_Un_canRefer_5 (by decide) rfl ?_
    refine V_aload C d_Un_canRefer_7 rfl ?_
    refine V_ifnull (tgt := 60) C d_Un_canRefer_9 (by decide) (fun h9 => ?_) (fun _ h9 => (by cases h9))
    refine V_iconst (v := 0) C d_Un_canRefer_60 (by decide) ?_
    refine V_zret C hQ (by decide) (by decide) d_Un_canRefer_61 rfl rfl ?_
    exact ⟨congrArg (fun z => some (sI z)) (by clear hQ C; unfold b2 cRf at *; grind), rfl, rfl, rfl, rfl⟩
def filG (ι : Io) (r i0 j0 a n : Nat) (g : Nat → Int32) : Io := fun r' i j k => if r' = r ∧ i = i0 ∧ j = j0 ∧ a ≤ k ∧ k < a + n then g (k - a) else ι r' i j k
theorem filG_0 {ι : Io} {r i0 j0 a : Nat} {g : Nat → Int32} : filG ι r i0 j0 a 0 g = ι := by
  funext r' i j k
  unfold filG
  exact if_neg (by omega)
theorem filG_s {ι : Io} {r i0 j0 a n : Nat} {g : Nat → Int32} {x : Int32} (hx : x = g n) : up4 (filG ι r i0 j0 a n g) r i0 j0 (a + n) x = filG ι r i0 j0 a (n + 1) g := by
  subst hx
  funext r' i j k
  unfold up4 filG
  by_cases h : r' = r ∧ i = i0 ∧ j = j0 ∧ k = a + n
  · rw [if_pos h, if_pos (by omega), h.2.2.2, show a + n - a = n by omega]
  · rw [if_neg h]
    by_cases h2 : r' = r ∧ i = i0 ∧ j = j0 ∧ a ≤ k ∧ k < a + n
    · rw [if_pos h2, if_pos (by omega)]
    · rw [if_neg h2, if_neg (by omega)]
def bu8 (v : Int32) (i : Nat) : Int32 := (v.toUInt32 >>> ((24 - 8 * nI i).toUInt32 &&& Int32.toUInt32 31)).toInt32 &&& 255
set_option maxHeartbeats 1000000 in
set_option maxRecDepth 10000 in
theorem c_Se_overwrite {ν : Nu} {ι : Io} {ρ : Ro} {ℓ : Lo} {o s9 n a m9 : Nat} (hal : ν 7 o s9 ≠ none) (hrf : ρ 7 o s9 3 = some (24, o, s9)) (hn : ν 24 o s9 = some n) (hn128 : n ≤ 128) (ha : a < n) (hm9 : m9 = (min 4 (n - a))) {v : Int32} : Ct y_Se_overwrite (Cond.code y_Se_overwrite b_Se_overwrite 5 (some .int) :: tb_) { frames := 1, cells := 0, slots := 0, locals := 40 } [sR 7 o s9, sI (nI a), sI v] ν ι ρ ℓ (pEq (some (sI (nI m9))) ν (filG ι 24 o s9 a m9 (bu8 v)) ρ ℓ) (noX) := by
  refine Ct.ofV (by decide) (Nat.le_of_ble_eq_true rfl) rfl ?_
  intro p l e s m args below meth c D B tW α0 Q C hQ
  have loop : ∀ (f : Nat) (i : Nat), m9 - i < f → (i ≤ m9) → V p l e { frames := 1, cells := 0, slots := 0, locals := 40 } s m args below meth c D B α0 ν 5 Q 0 0 ν (filG ι 24 o s9 a i (bu8 v)) ρ ℓ 15 [(4, sI (nI i)), (3, sI (nI m9)), (0, sR 7 o s9), (1, sI (nI a)), (2, sI v)] [] := by
    intro f
    induction f with
    | zero => intros; omega
    | succ f ih =>
      intro i hf hi0
      refine V_iload C d_Se_overwrite_15 rfl ?_
      refine V_iload_n C d_Se_overwrite_17 rfl ?_
      refine V_icmp_ge (tgt := 50) C d_Se_overwrite_18 (by decide) (fun h18 => ?_) (fun h18 => ?_)
      · have hi : i = m9 := by have := (nI_leI (a := m9) (b := i) (by omega) (by omega)).mp h18; omega
        subst hi
        refine V_iload_n C d_Se_overwrite_50 rfl ?_
        refine V_iret C hQ (by decide) (by decide) d_Se_overwrite_51 rfl ?_
        exact ⟨rfl, rfl, rfl, rfl, rfl⟩
      · have hi : i < m9 := Nat.lt_of_not_le fun z => h18 ((nI_leI (by omega) (by omega)).mpr z)
        refine V_aload_n C d_Se_overwrite_21 rfl ?_
        refine V_getR (kx := 3) C d_Se_overwrite_22 cf_Se (by decide) k_Se_21 hal rfl hrf ?_
        refine V_iload_n C d_Se_overwrite_25 rfl ?_
        refine V_iload C d_Se_overwrite_26 rfl ?_
        refine V_iadd C d_Se_overwrite_28 ?_
        refine V_iload_n C d_Se_overwrite_29 rfl ?_
        refine V_bipush (v := 24) C d_Se_overwrite_30 (by decide) ?_
        refine V_bipush (v := 8) C d_Se_overwrite_32 (by decide) ?_
        refine V_iload C d_Se_overwrite_34 rfl ?_
        refine V_imul C d_Se_overwrite_36 ?_
        refine V_isub C d_Se_overwrite_37 ?_
        refine V_iushr C d_Se_overwrite_38 ?_
        refine V_sipush (v := 255) C d_Se_overwrite_39 (by decide) ?_
        refine V_iand C d_Se_overwrite_42 ?_
        refine V_iast C d_Se_overwrite_43 (by decide) rfl hn (nI_add a i) (by omega) rfl ?_
        refine V_iinc (v := nI (i + 1)) (lv' := [(4, _), (3, _), (0, _), (1, _), (2, _)]) C d_Se_overwrite_44 rfl (nI_1 i) (by decide) rfl ?_
        refine V_goto (tgt := 15) C d_Se_overwrite_47 (by decide) ?_
        refine V_pick [0, 1, 2, 3, 4] rfl ?_
        refine V_io (filG_s (r := 24) (i0 := o) (j0 := s9) (a := a) (g := bu8 v) rfl) ?_
        exact ih (i + 1) (by omega) (by omega)
  refine V_iconst (v := 4) C d_Se_overwrite_0 (by decide) ?_
  refine V_aload_n C d_Se_overwrite_1 rfl ?_
  refine V_getR (kx := 3) C d_Se_overwrite_2 cf_Se (by decide) k_Se_21 hal rfl hrf ?_
  refine V_alen (ti := 0) C d_Se_overwrite_5 (by decide) (by decide) hn rfl ?_
  refine V_iload_n C d_Se_overwrite_6 rfl ?_
  refine V_isub C d_Se_overwrite_7 ?_
  refine V_mmin C d_Se_overwrite_8 k_Se_29 k_min (by decide) (Nat.le_of_ble_eq_true rfl) (by decide) (by decide) ?_
  refine V_eqi (y := nI m9) (by rw [pk_sub (by omega), hm9]; exact min4 (by omega)) ?_
  refine V_istore_n (lv' := [(3, _), (0, _), (1, _), (2, _)]) C d_Se_overwrite_11 (by decide) rfl ?_
  refine V_iconst (v := 0) C d_Se_overwrite_12 (by decide) ?_
  refine V_istore (lv' := [(4, _), (3, _), (0, _), (1, _), (2, _)]) C d_Se_overwrite_13 (by decide) rfl ?_
  refine V_pick [0, 1, 2, 3, 4] rfl ?_
  refine V_io (filG_0 (r := 24) (i0 := o) (j0 := s9) (a := a) (g := bu8 v)).symm ?_
  exact loop (m9 + 1) 0 (by omega) (by omega)
