def me (ι : Io) (c : Nat) (n : Int32) : Int32 := if 0 ≤ fo ι c n 0 then fo ι c n 0 else if 0 ≤ fo ι c n 2 then fo ι c n 2 else fo ι c n 1
theorem mem_sq {ι : Io} {m fld c x : Nat} (h : x ∈ sq ι m fld c) : ∃ k i, k < c ∧ i < mn ι fld (mn ι 59 k) ∧ x = m * mn ι 59 k + i := by
  unfold sq at h
  obtain ⟨k, hk, h2⟩ := List.mem_flatMap.mp h
  obtain ⟨i, hi, rfl⟩ := List.mem_map.mp h2
  exact ⟨k, i, List.mem_range.mp hk, List.mem_range.mp hi, rfl⟩
theorem fo_rng {ι : Io} {c : Nat} {n k : Int32} : fo ι c n k = -1 ∨ ∃ i, i ∈ sq ι 12 47 c ∧ fo ι c n k = nI i ∧ ι 48 0 0 i = n ∧ ι 49 0 0 i = k := by
  unfold fo
  cases h : (sq ι 12 47 c).find? (foB ι n k) with
  | none => exact Or.inl rfl
  | some i =>
    right
    have h2 := List.find?_some h
    unfold foB at h2
    simp at h2
    exact ⟨i, List.mem_of_find?_eq_some h, rfl, h2.1, h2.2⟩
theorem me_rng {ι : Io} {c : Nat} {n : Int32} : me ι c n = -1 ∨ ∃ i, i ∈ sq ι 12 47 c ∧ me ι c n = nI i ∧ ι 48 0 0 i = n := by
  unfold me
  split
  · rcases fo_rng (ι := ι) (c := c) (n := n) (k := 0) with h | ⟨i, h1, h2, h3, _⟩
    · exact Or.inl h
    · exact Or.inr ⟨i, h1, h2, h3⟩
  · split
    · rcases fo_rng (ι := ι) (c := c) (n := n) (k := 2) with h | ⟨i, h1, h2, h3, _⟩
      · exact Or.inl h
      · exact Or.inr ⟨i, h1, h2, h3⟩
    · rcases fo_rng (ι := ι) (c := c) (n := n) (k := 1) with h | ⟨i, h1, h2, h3, _⟩
      · exact Or.inl h
      · exact Or.inr ⟨i, h1, h2, h3⟩
theorem lgc_lt {x y : Int64} : lg_cmp x y < 0 ↔ x < y := by
  unfold lg_cmp
  simp only [GT.gt]
  split
  · rename_i h
    exact ⟨fun z => absurd z (by decide), fun z => absurd h (Int64.not_lt.mpr (Int64.le_of_lt z))⟩
  · split
    · rename_i h
      exact ⟨fun z => absurd z (by decide), fun z => absurd z (by rw [h]; exact Int64.lt_irrefl)⟩
    · rename_i h1 h2
      exact ⟨fun _ => Int64.lt_of_le_of_ne (Int64.not_lt.mp h1) h2, fun _ => by decide⟩
theorem lgc_gt {x y : Int64} : 0 < lg_cmp x y ↔ y < x := by
  unfold lg_cmp
  simp only [GT.gt]
  split
  · rename_i h
    exact ⟨fun _ => h, fun _ => by decide⟩
  · rename_i h
    split
    · exact ⟨fun z => absurd z (by decide), fun z => absurd z h⟩
    · exact ⟨fun z => absurd z (by decide), fun z => absurd z h⟩
theorem lgc_eq {x y : Int64} : lg_cmp x y = 0 ↔ x = y := by
  unfold lg_cmp
  simp only [GT.gt]
  split
  · rename_i h
    exact ⟨fun z => absurd z (by decide), fun z => absurd h (by rw [z]; exact Int64.lt_irrefl)⟩
  · split
    · rename_i h
      exact ⟨fun _ => h, fun _ => rfl⟩
    · rename_i h
      exact ⟨fun z => absurd z (by decide), fun z => absurd z h⟩
def rcR (ι : Io) (i : Nat) : Nat := if ι 49 0 0 i = 2 then 62 else 61
def rcI (ι : Io) (i : Nat) : Nat := if ι 49 0 0 i = 2 then i else 8 * (i / 12) + mn ι 50 i
def tellS (ι : Io) (a b c : Int32) : Io := if 0 < ι 10 0 0 25 then ι else up4 (up4 (up4 ι 10 0 0 25 a) 10 0 0 26 b) 10 0 0 27 c
def nxt (x q : Int32) : Int32 := (((x + ((1 : Int32) <<< (q &&& 31))) - 1) >>> (q &&& 31)) <<< (q &&& 31)
def pm (ι : Io) (i : Nat) : Int32 := if ι 49 0 0 i = 2 then (if ι 62 0 0 i = 0 then -1 else ι 63 0 0 i) else (if ι 61 0 0 (8 * (i / 12) + mn ι 50 i) = 0 then -1 else ι 64 0 0 (8 * (i / 12) + mn ι 50 i) + ι 51 0 0 i)
def byL (v : Int64) (w k : Nat) : Int32 := ((v >>> ((8 * (nI w - 1 - nI k)).toInt64 &&& 63)) &&& 255).toInt32
def grS (ι : Io) (n : Int32) (r : Nat) (most : Int32) (i : Nat) : Int32 := if ι 49 0 0 i = 2 ∧ ι 48 0 0 i = n ∧ most < ι r 0 0 i then ι r 0 0 i else most
def gr (ι : Io) (c : Nat) (n : Int32) (r : Nat) : Int32 := (sq ι 12 47 c).foldl (grS ι n r) 0
theorem fold_s {l : List Nat} {x : Nat} {f : Int32 → Nat → Int32} {a : Int32} : (l ++ [x]).foldl f a = f (l.foldl f a) x := by rw [List.foldl_append]; rfl
set_option maxHeartbeats 1000000 in
set_option maxRecDepth 10000 in
theorem c_Mo_meaning {ν : Nu} {ι : Io} {ρ : Ro} {ℓ : Lo} (hM : MoS ν ρ) {c9 : Nat} (hc : ι 10 0 0 18 = nI c9) (h12 : c9 ≤ 12) (hch : bd ι 59 12 11) (hb : bd ι 47 13 12) {n : Int32} : Ct y_Mo_meaning (Cond.code y_Mo_meaning b_Mo_meaning 4 (some .int) :: tb_) { frames := 1, cells := 0, slots := 0, locals := 25 } [sR 10 0 0, sI n] ν ι ρ ℓ (pEq (some (sI (me ι c9 n))) ν ι ρ ℓ) (noX) := by
  refine Ct.ofV (by decide) (Nat.le_of_ble_eq_true rfl) rfl ?_
  intro p l e s m args below meth c D B tW α0 Q C hQ
  refine V_aload_n C d_Mo_meaning_0 rfl ?_
  refine V_iload_n C d_Mo_meaning_1 rfl ?_
  refine V_iconst (v := 0) C d_Mo_meaning_2 (by decide) ?_
  refine V_callV (as := [_, _]) C d_Mo_meaning_3 (c_Mo_firstOf hM hc h12 hch hb) m_Mo_firstOf cf_Mo k_Mo_147 hM.al ⟨by decide, by decide⟩ (Nat.le_of_ble_eq_true rfl) ⟨by decide, by decide⟩ rfl ?_
  rintro _ _ _ _ _ ⟨rfl, rfl, rfl, rfl, rfl⟩
  dsimp only [Option.toList, List.cons_append, List.nil_append]
  refine V_istore_n (lv' := [(2, _), (0, _), (1, _)]) C d_Mo_meaning_6 (by decide) rfl ?_
  refine V_iload_n C d_Mo_meaning_7 rfl ?_
  refine V_if_ge (tgt := 20) C d_Mo_meaning_8 (by decide) (fun h8 => ?_) (fun h8 => ?_)
  · refine V_iconst (v := (-1)) C d_Mo_meaning_20 (by decide) ?_
    refine V_istore_n (lv' := [(3, _), (2, _), (0, _), (1, _)]) C d_Mo_meaning_21 (by decide) rfl ?_
    refine V_iload_n C d_Mo_meaning_22 rfl ?_
    refine V_if_lt (tgt := 30) C d_Mo_meaning_23 (by decide) (fun h23 => ?_) (fun h23 => ?_)
    · refine V_iload_n C d_Mo_meaning_30 rfl ?_
      refine V_if_lt (tgt := 38) C d_Mo_meaning_31 (by decide) (fun h31 => ?_) (fun h31 => ?_)
      · refine V_aload_n C d_Mo_meaning_38 rfl ?_
        refine V_iload_n C d_Mo_meaning_39 rfl ?_
        refine V_iconst (v := 1) C d_Mo_meaning_40 (by decide) ?_
        refine V_callV (as := [_, _]) C d_Mo_meaning_41 (c_Mo_firstOf hM hc h12 hch hb) m_Mo_firstOf cf_Mo k_Mo_147 hM.al ⟨by decide, by decide⟩ (Nat.le_of_ble_eq_true rfl) ⟨by decide, by decide⟩ rfl ?_
        rintro _ _ _ _ _ ⟨rfl, rfl, rfl, rfl, rfl⟩
        dsimp only [Option.toList, List.cons_append, List.nil_append]
        refine V_iret C hQ (by decide) (by decide) d_Mo_meaning_44 rfl ?_
        refine ⟨congrArg (fun z => some (sI z)) ?_, rfl, rfl, rfl, rfl⟩
        clear hQ C
        unfold me
        first | grind | (simp only [Int32.not_lt, Int32.not_le] at *; grind)
      · refine V_iload_n C d_Mo_meaning_34 rfl ?_
        refine V_goto (tgt := 44) C d_Mo_meaning_35 (by decide) ?_
        refine V_iret C hQ (by decide) (by decide) d_Mo_meaning_44 rfl ?_
        refine ⟨congrArg (fun z => some (sI z)) ?_, rfl, rfl, rfl, rfl⟩
        clear hQ C
        unfold me
        first | grind | (simp only [Int32.not_lt, Int32.not_le] at *; grind)
    · refine V_iload_n C d_Mo_meaning_26 rfl ?_
      refine V_goto (tgt := 44) C d_Mo_meaning_27 (by decide) ?_
      refine V_iret C hQ (by decide) (by decide) d_Mo_meaning_44 rfl ?_
      refine ⟨congrArg (fun z => some (sI z)) ?_, rfl, rfl, rfl, rfl⟩
      clear hQ C
      unfold me
      first | grind | (simp only [Int32.not_lt, Int32.not_le] at *; grind)
  · refine V_aload_n C d_Mo_meaning_11 rfl ?_
    refine V_iload_n C d_Mo_meaning_12 rfl ?_
    refine V_iconst (v := 2) C d_Mo_meaning_13 (by decide) ?_
    refine V_callV (as := [_, _]) C d_Mo_meaning_14 (c_Mo_firstOf hM hc h12 hch hb) m_Mo_firstOf cf_Mo k_Mo_147 hM.al ⟨by decide, by decide⟩ (Nat.le_of_ble_eq_true rfl) ⟨by decide, by decide⟩ rfl ?_
    rintro _ _ _ _ _ ⟨rfl, rfl, rfl, rfl, rfl⟩
    dsimp only [Option.toList, List.cons_append, List.nil_append]
    refine V_goto (tgt := 21) C d_Mo_meaning_17 (by decide) ?_
    refine V_istore_n (lv' := [(3, _), (2, _), (0, _), (1, _)]) C d_Mo_meaning_21 (by decide) rfl ?_
    refine V_iload_n C d_Mo_meaning_22 rfl ?_
    refine V_if_lt (tgt := 30) C d_Mo_meaning_23 (by decide) (fun h23 => ?_) (fun h23 => ?_)
    · refine V_iload_n C d_Mo_meaning_30 rfl ?_
      refine V_if_lt (tgt := 38) C d_Mo_meaning_31 (by decide) (fun h31 => ?_) (fun h31 => ?_)
      · refine V_aload_n C d_Mo_meaning_38 rfl ?_
        refine V_iload_n C d_Mo_meaning_39 rfl ?_
        refine V_iconst (v := 1) C d_Mo_meaning_40 (by decide) ?_
        refine V_callV (as := [_, _]) C d_Mo_meaning_41 (c_Mo_firstOf hM hc h12 hch hb) m_Mo_firstOf cf_Mo k_Mo_147 hM.al ⟨by decide, by decide⟩ (Nat.le_of_ble_eq_true rfl) ⟨by decide, by decide⟩ rfl ?_
        rintro _ _ _ _ _ ⟨rfl, rfl, rfl, rfl, rfl⟩
        dsimp only [Option.toList, List.cons_append, List.nil_append]
        refine V_iret C hQ (by decide) (by decide) d_Mo_meaning_44 rfl ?_
        refine ⟨congrArg (fun z => some (sI z)) ?_, rfl, rfl, rfl, rfl⟩
        clear hQ C
        unfold me
        first | grind | (simp only [Int32.not_lt, Int32.not_le] at *; grind)
      · refine V_iload_n C d_Mo_meaning_34 rfl ?_
        refine V_goto (tgt := 44) C d_Mo_meaning_35 (by decide) ?_
        refine V_iret C hQ (by decide) (by decide) d_Mo_meaning_44 rfl ?_
        refine ⟨congrArg (fun z => some (sI z)) ?_, rfl, rfl, rfl, rfl⟩
        clear hQ C
        unfold me
        first | grind | (simp only [Int32.not_lt, Int32.not_le] at *; grind)
    · refine V_iload_n C d_Mo_meaning_26 rfl ?_
      refine V_goto (tgt := 44) C d_Mo_meaning_27 (by decide) ?_
      refine V_iret C hQ (by decide) (by decide) d_Mo_meaning_44 rfl ?_
      refine ⟨congrArg (fun z => some (sI z)) ?_, rfl, rfl, rfl, rfl⟩
      clear hQ C
      unfold me
      first | grind | (simp only [Int32.not_lt, Int32.not_le] at *; grind)
set_option maxHeartbeats 1000000 in
set_option maxRecDepth 10000 in
theorem c_Mo_reach_no {ν : Nu} {ι : Io} {ρ : Ro} {ℓ : Lo} {m9 : Int32} (hm : m9 < 0) : Ct y_Mo_reach (Cond.code y_Mo_reach b_Mo_reach 4 (some .boolean) :: tb_) { frames := 0, cells := 0, slots := 0, locals := 0 } [sR 10 0 0, sI m9] ν ι ρ ℓ (pEq (some (sI 0)) ν ι ρ ℓ) (noX) := by
  refine Ct.ofV (by decide) (Nat.le_of_ble_eq_true rfl) rfl ?_
  intro p l e s m args below meth c D B tW α0 Q C hQ
  refine V_iload_n C d_Mo_reach_0 rfl ?_
  refine V_if_ge (tgt := 6) C d_Mo_reach_1 (by decide) (fun h1 => absurd h1 (Int32.not_le.mpr hm)) (fun h1 => ?_)
  refine V_iconst (v := 0) C d_Mo_reach_4 (by decide) ?_
  refine V_zret C hQ (by decide) (by decide) d_Mo_reach_5 rfl rfl ?_
  exact ⟨rfl, rfl, rfl, rfl, rfl⟩
set_option maxHeartbeats 1000000 in
set_option maxRecDepth 10000 in
theorem c_Mo_reach {ν : Nu} {ι : Io} {ρ : Ro} {ℓ : Lo} (hM : MoS ν ρ) {i : Nat} (hi : i < 144) (hwh : bd ι 50 156 7) : Ct y_Mo_reach (Cond.code y_Mo_reach b_Mo_reach 4 (some .boolean) :: tb_) { frames := 0, cells := 0, slots := 0, locals := 0 } [sR 10 0 0, sI (nI i)] ν ι ρ ℓ (pEq (some (sI (b2 (ι (rcR ι i) 0 0 (rcI ι i) = 0)))) ν (up4 ι (rcR ι i) 0 0 (rcI ι i) 1) ρ ℓ) (noX) := by
  refine Ct.ofV (by decide) (Nat.le_of_ble_eq_true rfl) rfl ?_
  intro p l e s m args below meth c D B tW α0 Q C hQ
  have hw7 := hwh.le (t := i) (by omega)
  refine V_iload_n C d_Mo_reach_0 rfl ?_
  refine V_if_ge (tgt := 6) C d_Mo_reach_1 (by decide) (fun h1 => ?_) (fun h1 => absurd (nI_pos' (by omega)) h1)
  refine V_aload_n C d_Mo_reach_6 rfl ?_
  refine V_getR (kx := 9) C d_Mo_reach_7 cf_Mo (by decide) k_Mo_31 hM.al rfl hM.r9 ?_
  refine V_iload_n C d_Mo_reach_10 rfl ?_
  refine V_iald C d_Mo_reach_11 (by decide) rfl hM.n9 rfl (by omega) rfl ?_
  refine V_iconst (v := 2) C d_Mo_reach_12 (by decide) ?_
  refine V_icmp_ne (tgt := 40) C d_Mo_reach_13 (by decide) (fun h13 => ?_) (fun h13 => ?_)
  · have eR : rcR ι i = 61 := if_neg h13
    have eI : rcI ι i = 8 * (i / 12) + mn ι 50 i := if_neg h13
    rw [eR, eI] at hQ
    refine V_bipush (v := 8) C d_Mo_reach_40 (by decide) ?_
    refine V_iload_n C d_Mo_reach_42 rfl ?_
    refine V_bipush (v := 12) C d_Mo_reach_43 (by decide) ?_
    refine V_idiv C d_Mo_reach_45 (by decide) ?_
    refine V_imul C d_Mo_reach_46 ?_
    refine V_aload_n C d_Mo_reach_47 rfl ?_
    refine V_getR (kx := 10) C d_Mo_reach_48 cf_Mo (by decide) k_Mo_34 hM.al rfl hM.r10 ?_
    refine V_iload_n C d_Mo_reach_51 rfl ?_
    refine V_iald C d_Mo_reach_52 (by decide) rfl hM.n10 rfl (by omega) rfl ?_
    refine V_iadd C d_Mo_reach_53 ?_
    refine V_eqi (y := nI (8 * (i / 12) + mn ι 50 i)) (by rw [show (nI i : Int32) / 12 = nI (i / 12) from pk_div (d := 12) (by omega) (by decide) (by decide), hwh.eq (t := i) (by omega)]; exact ixa 8 _ _) ?_
    refine V_istore_n (lv' := [(2, _), (0, _), (1, _)]) C d_Mo_reach_54 (by decide) rfl ?_
    refine V_aload_n C d_Mo_reach_55 rfl ?_
    refine V_getR (kx := 21) C d_Mo_reach_56 cf_Mo (by decide) k_Mo_61 hM.al rfl hM.r21 ?_
    refine V_iload_n C d_Mo_reach_59 rfl ?_
    refine V_zald C d_Mo_reach_60 (by decide) rfl hM.n21 rfl (by omega) rfl ?_
    refine V_if_ne (tgt := 68) C d_Mo_reach_61 (by decide) (fun h61 => ?_) (fun h61 => ?_)
    · refine V_iconst (v := 0) C d_Mo_reach_68 (by decide) ?_
      refine V_istore_n (lv' := [(3, _), (2, _), (0, _), (1, _)]) C d_Mo_reach_69 (by decide) rfl ?_
      refine V_aload_n C d_Mo_reach_70 rfl ?_
      refine V_getR (kx := 21) C d_Mo_reach_71 cf_Mo (by decide) k_Mo_61 hM.al rfl hM.r21 ?_
      refine V_iload_n C d_Mo_reach_74 rfl ?_
      refine V_iconst (v := 1) C d_Mo_reach_75 (by decide) ?_
      refine V_zast C d_Mo_reach_76 (by decide) rfl hM.n21 rfl (by omega) rfl rfl ?_
      refine V_iload_n C d_Mo_reach_77 rfl ?_
      refine V_zret C hQ (by decide) (by decide) d_Mo_reach_78 rfl (by decide) ?_
      exact ⟨congrArg (fun z => some (sI z)) (by clear hQ C; unfold b2; grind), rfl, rfl, rfl, rfl⟩
    · refine V_iconst (v := 1) C d_Mo_reach_64 (by decide) ?_
      refine V_goto (tgt := 69) C d_Mo_reach_65 (by decide) ?_
      refine V_istore_n (lv' := [(3, _), (2, _), (0, _), (1, _)]) C d_Mo_reach_69 (by decide) rfl ?_
      refine V_aload_n C d_Mo_reach_70 rfl ?_
      refine V_getR (kx := 21) C d_Mo_reach_71 cf_Mo (by decide) k_Mo_61 hM.al rfl hM.r21 ?_
      refine V_iload_n C d_Mo_reach_74 rfl ?_
      refine V_iconst (v := 1) C d_Mo_reach_75 (by decide) ?_
      refine V_zast C d_Mo_reach_76 (by decide) rfl hM.n21 rfl (by omega) rfl rfl ?_
      refine V_iload_n C d_Mo_reach_77 rfl ?_
      refine V_zret C hQ (by decide) (by decide) d_Mo_reach_78 rfl (by decide) ?_
      exact ⟨congrArg (fun z => some (sI z)) (by clear hQ C; unfold b2; grind), rfl, rfl, rfl, rfl⟩
  · have eR : rcR ι i = 62 := if_pos h13
    have eI : rcI ι i = i := if_pos h13
    rw [eR, eI] at hQ
    refine V_aload_n C d_Mo_reach_16 rfl ?_
    refine V_getR (kx := 22) C d_Mo_reach_17 cf_Mo (by decide) k_Mo_65 hM.al rfl hM.r22 ?_
    refine V_iload_n C d_Mo_reach_20 rfl ?_
    refine V_zald C d_Mo_reach_21 (by decide) rfl hM.n22 rfl (by assumption) rfl ?_
    refine V_if_ne (tgt := 29) C d_Mo_reach_22 (by decide) (fun h22 => ?_) (fun h22 => ?_)
    · refine V_iconst (v := 0) C d_Mo_reach_29 (by decide) ?_
      refine V_istore_n (lv' := [(2, _), (0, _), (1, _)]) C d_Mo_reach_30 (by decide) rfl ?_
      refine V_aload_n C d_Mo_reach_31 rfl ?_
      refine V_getR (kx := 22) C d_Mo_reach_32 cf_Mo (by decide) k_Mo_65 hM.al rfl hM.r22 ?_
      refine V_iload_n C d_Mo_reach_35 rfl ?_
      refine V_iconst (v := 1) C d_Mo_reach_36 (by decide) ?_
      refine V_zast C d_Mo_reach_37 (by decide) rfl hM.n22 rfl (by assumption) rfl rfl ?_
      refine V_iload_n C d_Mo_reach_38 rfl ?_
      refine V_zret C hQ (by decide) (by decide) d_Mo_reach_39 rfl (by decide) ?_
      exact ⟨congrArg (fun z => some (sI z)) (by clear hQ C; unfold b2; grind), rfl, rfl, rfl, rfl⟩
    · refine V_iconst (v := 1) C d_Mo_reach_25 (by decide) ?_
      refine V_goto (tgt := 30) C d_Mo_reach_26 (by decide) ?_
      refine V_istore_n (lv' := [(2, _), (0, _), (1, _)]) C d_Mo_reach_30 (by decide) rfl ?_
      refine V_aload_n C d_Mo_reach_31 rfl ?_
      refine V_getR (kx := 22) C d_Mo_reach_32 cf_Mo (by decide) k_Mo_65 hM.al rfl hM.r22 ?_
      refine V_iload_n C d_Mo_reach_35 rfl ?_
      refine V_iconst (v := 1) C d_Mo_reach_36 (by decide) ?_
      refine V_zast C d_Mo_reach_37 (by decide) rfl hM.n22 rfl (by assumption) rfl rfl ?_
      refine V_iload_n C d_Mo_reach_38 rfl ?_
      refine V_zret C hQ (by decide) (by decide) d_Mo_reach_39 rfl (by decide) ?_
      exact ⟨congrArg (fun z => some (sI z)) (by clear hQ C; unfold b2; grind), rfl, rfl, rfl, rfl⟩
set_option maxHeartbeats 1000000 in
set_option maxRecDepth 10000 in
theorem c_Mo_isWorked {ν : Nu} {ι : Io} {ρ : Ro} {ℓ : Lo} (hM : MoS ν ρ) {t j : Nat} (ht : t < 12) (hj : j < 16) (hrs : bd ι 53 208 7) (hrc : bd ι 61 96 1) : Ct y_Mo_isWorked (Cond.code y_Mo_isWorked b_Mo_isWorked 3 (some .boolean) :: tb_) { frames := 0, cells := 0, slots := 0, locals := 0 } [sR 10 0 0, sI (nI t), sI (nI j)] ν ι ρ ℓ (pEq (some (sI (ι 61 0 0 (8 * t + mn ι 53 (16 * t + j))))) ν ι ρ ℓ) (noX) := by
  refine Ct.ofV (by decide) (Nat.le_of_ble_eq_true rfl) rfl ?_
  intro p l e s m args below meth c D B tW α0 Q C hQ
  have hs7 := hrs.le (t := 16 * t + j) (by omega)
  refine V_aload_n C d_Mo_isWorked_0 rfl ?_
  refine V_getR (kx := 21) C d_Mo_isWorked_1 cf_Mo (by decide) k_Mo_61 hM.al rfl hM.r21 ?_
  refine V_bipush (v := 8) C d_Mo_isWorked_4 (by decide) ?_
  refine V_iload_n C d_Mo_isWorked_6 rfl ?_
  refine V_imul C d_Mo_isWorked_7 ?_
  refine V_aload_n C d_Mo_isWorked_8 rfl ?_
  refine V_getR (kx := 13) C d_Mo_isWorked_9 cf_Mo (by decide) k_Mo_43 hM.al rfl hM.r13 ?_
  refine V_bipush (v := 16) C d_Mo_isWorked_12 (by decide) ?_
  refine V_iload_n C d_Mo_isWorked_14 rfl ?_
  refine V_imul C d_Mo_isWorked_15 ?_
  refine V_iload_n C d_Mo_isWorked_16 rfl ?_
  refine V_iadd C d_Mo_isWorked_17 ?_
  refine V_iald C d_Mo_isWorked_18 (by decide) rfl hM.n13 (ixa 16 t j) (by omega) rfl ?_
  refine V_iadd C d_Mo_isWorked_19 ?_
  refine V_zald C d_Mo_isWorked_20 (by decide) rfl hM.n21 (show _ = nI (8 * t + mn ι 53 (16 * t + j)) by rw [hrs.eq (t := 16 * t + j) (by omega)]; exact ixa 8 _ _) (by omega) rfl ?_
  refine V_zret C hQ (by decide) (by decide) d_Mo_isWorked_21 rfl (by obtain ⟨a, h1, h2⟩ := hrc (8 * t + mn ι 53 (16 * t + j)) (by omega); rw [h2]; rcases (show a = 0 ∨ a = 1 by omega) with rfl | rfl <;> rfl) ?_
  exact ⟨rfl, rfl, rfl, rfl, rfl⟩
set_option maxHeartbeats 1000000 in
set_option maxRecDepth 10000 in
theorem c_Mo_meaningOf {ν : Nu} {ι : Io} {ρ : Ro} {ℓ : Lo} (hM : MoS ν ρ) {c9 : Nat} (hc : ι 10 0 0 18 = nI c9) (h12 : c9 ≤ 12) (hch : bd ι 59 12 11) (hb : bd ι 47 13 12) {t j : Nat} (ht : t < 12) (hj : j < 16) (hrn : bd ι 56 208 11) : Ct y_Mo_meaningOf (Cond.code y_Mo_meaningOf b_Mo_meaningOf 3 (some .int) :: tb_) { frames := 2, cells := 0, slots := 0, locals := 48 } [sR 10 0 0, sI (nI t), sI (nI j)] ν ι ρ ℓ (pEq (some (sI (me ι c9 (ι 48 0 0 (12 * t + mn ι 56 (16 * t + j)))))) ν ι ρ ℓ) (noX) := by
  refine Ct.ofV (by decide) (Nat.le_of_ble_eq_true rfl) rfl ?_
  intro p l e s m args below meth c D B tW α0 Q C hQ
  have hs7 := hrn.le (t := 16 * t + j) (by omega)
  refine V_aload_n C d_Mo_meaningOf_0 rfl ?_
  refine V_aload_n C d_Mo_meaningOf_1 rfl ?_
  refine V_getR (kx := 8) C d_Mo_meaningOf_2 cf_Mo (by decide) k_Mo_28 hM.al rfl hM.r8 ?_
  refine V_bipush (v := 12) C d_Mo_meaningOf_5 (by decide) ?_
  refine V_iload_n C d_Mo_meaningOf_7 rfl ?_
  refine V_imul C d_Mo_meaningOf_8 ?_
  refine V_aload_n C d_Mo_meaningOf_9 rfl ?_
  refine V_getR (kx := 16) C d_Mo_meaningOf_10 cf_Mo (by decide) k_Mo_52 hM.al rfl hM.r16 ?_
  refine V_bipush (v := 16) C d_Mo_meaningOf_13 (by decide) ?_
  refine V_iload_n C d_Mo_meaningOf_15 rfl ?_
  refine V_imul C d_Mo_meaningOf_16 ?_
  refine V_iload_n C d_Mo_meaningOf_17 rfl ?_
  refine V_iadd C d_Mo_meaningOf_18 ?_
  refine V_iald C d_Mo_meaningOf_19 (by decide) rfl hM.n16 (ixa 16 t j) (by omega) rfl ?_
  refine V_iadd C d_Mo_meaningOf_20 ?_
  refine V_iald C d_Mo_meaningOf_21 (by decide) rfl hM.n8 (show _ = nI (12 * t + mn ι 56 (16 * t + j)) by rw [hrn.eq (t := 16 * t + j) (by omega)]; exact ixa 12 _ _) (by omega) rfl ?_
  refine V_callV (as := [_]) C d_Mo_meaningOf_22 (c_Mo_meaning hM hc h12 hch hb) m_Mo_meaning cf_Mo k_Mo_151 hM.al ⟨by decide, by decide⟩ (Nat.le_of_ble_eq_true rfl) ⟨by decide, by decide⟩ rfl ?_
  rintro _ _ _ _ _ ⟨rfl, rfl, rfl, rfl, rfl⟩
  dsimp only [Option.toList, List.cons_append, List.nil_append]
  refine V_iret C hQ (by decide) (by decide) d_Mo_meaningOf_25 rfl ?_
  exact ⟨rfl, rfl, rfl, rfl, rfl⟩
set_option maxHeartbeats 1000000 in
set_option maxRecDepth 10000 in
theorem c_Mo_tell {ν : Nu} {ι : Io} {ρ : Ro} {ℓ : Lo} (hM : MoS ν ρ) {a b d : Int32} : Ct y_Mo_tell (Cond.code y_Mo_tell b_Mo_tell 4 none :: tb_) { frames := 0, cells := 0, slots := 0, locals := 0 } [sR 10 0 0, sI a, sI b, sI d] ν ι ρ ℓ (pEq none ν (tellS ι a b d) ρ ℓ) (noX) := by
  refine Ct.ofV (by decide) (Nat.le_of_ble_eq_true rfl) rfl ?_
  intro p l e s m args below meth c D B tW α0 Q C hQ
  refine V_aload_n C d_Mo_tell_0 rfl ?_
  refine V_getI (kx := 25) C d_Mo_tell_1 cf_Mo (by decide) k_Mo_154 hM.al rfl ?_
  refine V_if_le (tgt := 8) C d_Mo_tell_4 (by decide) (fun h4 => ?_) (fun h4 => ?_)
  · refine V_aload_n C d_Mo_tell_8 rfl ?_
    refine V_iload_n C d_Mo_tell_9 rfl ?_
    refine V_putI (kx := 25) C d_Mo_tell_10 cf_Mo (by decide) k_Mo_154 hM.al rfl rfl rfl rfl ?_
    refine V_aload_n C d_Mo_tell_13 rfl ?_
    refine V_iload_n C d_Mo_tell_14 rfl ?_
    refine V_putI (kx := 26) C d_Mo_tell_15 cf_Mo (by decide) k_Mo_74 hM.al rfl rfl rfl rfl ?_
    refine V_aload_n C d_Mo_tell_18 rfl ?_
    refine V_iload_n C d_Mo_tell_19 rfl ?_
    refine V_putI (kx := 27) C d_Mo_tell_20 cf_Mo (by decide) k_Mo_78 hM.al rfl rfl rfl rfl ?_
    refine V_vret C hQ (by decide) (by decide) d_Mo_tell_23 rfl ?_
    exact ⟨rfl, rfl, if_neg (Int32.not_lt.mpr h4), rfl, rfl⟩
  · refine V_vret C hQ (by decide) (by decide) d_Mo_tell_7 rfl ?_
    exact ⟨rfl, rfl, if_pos (lt_of_nle h4), rfl, rfl⟩
set_option maxHeartbeats 1000000 in
set_option maxRecDepth 10000 in
theorem c_Mo_next {ν : Nu} {ι : Io} {ρ : Ro} {ℓ : Lo} (hM : MoS ν ρ) {q : Int32} : Ct y_Mo_next (Cond.code y_Mo_next b_Mo_next 3 (some .int) :: tb_) { frames := 0, cells := 0, slots := 0, locals := 0 } [sR 10 0 0, sI q] ν ι ρ ℓ (pEq (some (sI (nxt (ι 10 0 0 41) q))) ν (up4 (up4 ι 10 0 0 31 (ι 10 0 0 31 + (nxt (ι 10 0 0 41) q - ι 10 0 0 41))) 10 0 0 41 (nxt (ι 10 0 0 41) q)) ρ ℓ) (noX) := by
  refine Ct.ofV (by decide) (Nat.le_of_ble_eq_true rfl) rfl ?_
  intro p l e s m args below meth c D B tW α0 Q C hQ
  refine V_aload_n C d_Mo_next_0 rfl ?_
  refine V_getI (kx := 41) C d_Mo_next_1 cf_Mo (by decide) k_Mo_170 hM.al rfl ?_
  refine V_iconst (v := 1) C d_Mo_next_4 (by decide) ?_
  refine V_iload_n C d_Mo_next_5 rfl ?_
  refine V_ishl C d_Mo_next_6 ?_
  refine V_iadd C d_Mo_next_7 ?_
  refine V_iconst (v := 1) C d_Mo_next_8 (by decide) ?_
  refine V_isub C d_Mo_next_9 ?_
  refine V_iload_n C d_Mo_next_10 rfl ?_
  refine V_ishr C d_Mo_next_11 ?_
  refine V_iload_n C d_Mo_next_12 rfl ?_
  refine V_ishl C d_Mo_next_13 ?_
  refine V_istore_n (lv' := [(2, _), (0, _), (1, _)]) C d_Mo_next_14 (by decide) rfl ?_
  refine V_aload_n C d_Mo_next_15 rfl ?_
  refine V_dup C d_Mo_next_16 rfl ?_
  refine V_getI (kx := 31) C d_Mo_next_17 cf_Mo (by decide) k_Mo_173 hM.al rfl ?_
  refine V_iload_n C d_Mo_next_20 rfl ?_
  refine V_aload_n C d_Mo_next_21 rfl ?_
  refine V_getI (kx := 41) C d_Mo_next_22 cf_Mo (by decide) k_Mo_170 hM.al rfl ?_
  refine V_isub C d_Mo_next_25 ?_
  refine V_iadd C d_Mo_next_26 ?_
  refine V_putI (kx := 31) C d_Mo_next_27 cf_Mo (by decide) k_Mo_173 hM.al rfl rfl rfl rfl ?_
  refine V_aload_n C d_Mo_next_30 rfl ?_
  refine V_iload_n C d_Mo_next_31 rfl ?_
  refine V_putI (kx := 41) C d_Mo_next_32 cf_Mo (by decide) k_Mo_170 hM.al rfl rfl rfl rfl ?_
  refine V_iload_n C d_Mo_next_35 rfl ?_
  refine V_iret C hQ (by decide) (by decide) d_Mo_next_36 rfl ?_
  exact ⟨rfl, rfl, rfl, rfl, rfl⟩
set_option maxHeartbeats 1000000 in
set_option maxRecDepth 10000 in
theorem c_Mo_in {ν : Nu} {ι : Io} {ρ : Ro} {ℓ : Lo} {v a b : Int64} : Ct y_Mo_in (Cond.code y_Mo_in b_Mo_in 6 (some .boolean) :: tb_) { frames := 0, cells := 0, slots := 0, locals := 0 } [sL v, sL a, sL b] ν ι ρ ℓ (pEq (some (sI (b2 (a ≤ v ∧ v ≤ b)))) ν ι ρ ℓ) (noX) := by
  refine Ct.ofV (by decide) (Nat.le_of_ble_eq_true rfl) rfl ?_
  intro p l e s m args below meth c D B tW α0 Q C hQ
  refine V_lload_n C d_Mo_in_0 rfl ?_
  refine V_lload_n C d_Mo_in_1 rfl ?_
  refine V_lcmp C d_Mo_in_2 ?_
  refine V_if_lt (tgt := 17) C d_Mo_in_3 (by decide) (fun h3 => ?_) (fun h3 => ?_)
  · have g9 : b2 (a ≤ v ∧ v ≤ b) = 0 := b2_f (fun z => Int64.not_lt.mpr z.1 (lgc_lt.mp h3))
    refine V_iconst (v := 0) C d_Mo_in_17 (by decide) ?_
    refine V_zret C hQ (by decide) (by decide) d_Mo_in_18 rfl rfl ?_
    exact ⟨congrArg (fun z => some (sI z)) g9, rfl, rfl, rfl, rfl⟩
  · have g3 := fun z => h3 (lgc_lt.mpr z)
    refine V_lload_n C d_Mo_in_6 rfl ?_
    refine V_lload C d_Mo_in_7 rfl ?_
    refine V_lcmp C d_Mo_in_9 ?_
    refine V_if_gt (tgt := 17) C d_Mo_in_10 (by decide) (fun h10 => ?_) (fun h10 => ?_)
    · have g9 : b2 (a ≤ v ∧ v ≤ b) = 0 := b2_f (fun z => Int64.not_lt.mpr z.2 (lgc_gt.mp h10))
      refine V_iconst (v := 0) C d_Mo_in_17 (by decide) ?_
      refine V_zret C hQ (by decide) (by decide) d_Mo_in_18 rfl rfl ?_
      exact ⟨congrArg (fun z => some (sI z)) g9, rfl, rfl, rfl, rfl⟩
    · have g9 : b2 (a ≤ v ∧ v ≤ b) = 1 := b2_t ⟨Int64.not_lt.mp g3, Int64.not_lt.mp (fun z => h10 (lgc_gt.mpr z))⟩
      refine V_iconst (v := 1) C d_Mo_in_13 (by decide) ?_
      refine V_goto (tgt := 18) C d_Mo_in_14 (by decide) ?_
      refine V_zret C hQ (by decide) (by decide) d_Mo_in_18 rfl rfl ?_
      exact ⟨congrArg (fun z => some (sI z)) g9, rfl, rfl, rfl, rfl⟩
set_option maxHeartbeats 1000000 in
set_option maxRecDepth 10000 in
theorem c_Mo_noImage {ν : Nu} {ι : Io} {ρ : Ro} {ℓ : Lo} (hM : MoS ν ρ) : Ct y_Mo_noImage (Cond.code y_Mo_noImage b_Mo_noImage 2 none :: tb_) { frames := 0, cells := 0, slots := 0, locals := 0 } [sR 10 0 0] ν ι ρ ℓ (pEq none ν (fil (up4 (up4 (up4 (up4 (up4 (up4 ι 10 0 0 28 0) 10 0 0 29 0) 10 0 0 30 0) 10 0 0 31 0) 10 0 0 32 0) 10 0 0 34 0) 64 0 96 (-1)) ρ ℓ) (noX) := by
  refine Ct.ofV (by decide) (Nat.le_of_ble_eq_true rfl) rfl ?_
  intro p l e s m args below meth c D B tW α0 Q C hQ
  have loop : ∀ (f : Nat) (i : Nat), 96 - i < f → (i ≤ 96) → V p l e { frames := 0, cells := 0, slots := 0, locals := 0 } s m args below meth c D B α0 ν 2 Q 0 0 ν (fil (up4 (up4 (up4 (up4 (up4 (up4 ι 10 0 0 28 0) 10 0 0 29 0) 10 0 0 30 0) 10 0 0 31 0) 10 0 0 32 0) 10 0 0 34 0) 64 0 i (-1)) ρ ℓ 32 [(1, sI (nI i)), (0, sR 10 0 0)] [] := by
    intro f
    induction f with
    | zero => intros; omega
    | succ f ih =>
      intro i hf hi0
      refine V_iload_n C d_Mo_noImage_32 rfl ?_
      refine V_bipush (v := 96) C d_Mo_noImage_33 (by decide) ?_
      refine V_icmp_ge (tgt := 51) C d_Mo_noImage_35 (by decide) (fun h35 => ?_) (fun h35 => ?_)
      · have hi : i = 96 := by have := (nI_leI (a := 96) (b := i) (by decide) (by omega)).mp h35; omega
        subst hi
        refine V_vret C hQ (by decide) (by decide) d_Mo_noImage_51 rfl ?_
        exact ⟨rfl, rfl, rfl, rfl, rfl⟩
      · have hi : i < 96 := Nat.lt_of_not_le fun z => h35 ((nI_leI (a := 96) (b := i) (by decide) (by omega)).mpr z)
        refine V_aload_n C d_Mo_noImage_38 rfl ?_
        refine V_getR (kx := 24) C d_Mo_noImage_39 cf_Mo (by decide) k_Mo_71 hM.al rfl hM.r24 ?_
        refine V_iload_n C d_Mo_noImage_42 rfl ?_
        refine V_iconst (v := (-1)) C d_Mo_noImage_43 (by decide) ?_
        refine V_iast C d_Mo_noImage_44 (by decide) rfl hM.n24 rfl hi rfl ?_
        refine V_iinc (v := nI (i + 1)) (lv' := [(1, _), (0, _)]) C d_Mo_noImage_45 rfl (nI_1 i) (by decide) rfl ?_
        refine V_goto (tgt := 32) C d_Mo_noImage_48 (by decide) ?_
        refine V_pick [0, 1] rfl ?_
        refine V_io (show up4 (fil (up4 (up4 (up4 (up4 (up4 (up4 ι 10 0 0 28 0) 10 0 0 29 0) 10 0 0 30 0) 10 0 0 31 0) 10 0 0 32 0) 10 0 0 34 0) 64 0 i (-1)) 64 0 0 i (-1) = fil (up4 (up4 (up4 (up4 (up4 (up4 ι 10 0 0 28 0) 10 0 0 29 0) 10 0 0 30 0) 10 0 0 31 0) 10 0 0 32 0) 10 0 0 34 0) 64 0 (i + 1) (-1) by have := fil_s (ι := (up4 (up4 (up4 (up4 (up4 (up4 ι 10 0 0 28 0) 10 0 0 29 0) 10 0 0 30 0) 10 0 0 31 0) 10 0 0 32 0) 10 0 0 34 0)) (r := 64) (a := 0) (n := i) (x := -1); rwa [Nat.zero_add] at this) ?_
        exact ih (i + 1) (by omega) (by omega)
  refine V_aload_n C d_Mo_noImage_0 rfl ?_
  refine V_iconst (v := 0) C d_Mo_noImage_1 (by decide) ?_
  refine V_putI (kx := 28) C d_Mo_noImage_2 cf_Mo (by decide) k_Mo_225 hM.al rfl rfl rfl rfl ?_
  refine V_aload_n C d_Mo_noImage_5 rfl ?_
  refine V_iconst (v := 0) C d_Mo_noImage_6 (by decide) ?_
  refine V_putI (kx := 29) C d_Mo_noImage_7 cf_Mo (by decide) k_Mo_192 hM.al rfl rfl rfl rfl ?_
  refine V_aload_n C d_Mo_noImage_10 rfl ?_
  refine V_iconst (v := 0) C d_Mo_noImage_11 (by decide) ?_
  refine V_putI (kx := 30) C d_Mo_noImage_12 cf_Mo (by decide) k_Mo_179 hM.al rfl rfl rfl rfl ?_
  refine V_aload_n C d_Mo_noImage_15 rfl ?_
  refine V_iconst (v := 0) C d_Mo_noImage_16 (by decide) ?_
  refine V_putI (kx := 31) C d_Mo_noImage_17 cf_Mo (by decide) k_Mo_173 hM.al rfl rfl rfl rfl ?_
  refine V_aload_n C d_Mo_noImage_20 rfl ?_
  refine V_iconst (v := 0) C d_Mo_noImage_21 (by decide) ?_
  refine V_putI (kx := 32) C d_Mo_noImage_22 cf_Mo (by decide) k_Mo_182 hM.al rfl rfl rfl rfl ?_
  refine V_aload_n C d_Mo_noImage_25 rfl ?_
  refine V_iconst (v := 0) C d_Mo_noImage_26 (by decide) ?_
  refine V_putI (kx := 34) C d_Mo_noImage_27 cf_Mo (by decide) k_Mo_222 hM.al rfl rfl rfl rfl ?_
  refine V_iconst (v := 0) C d_Mo_noImage_30 (by decide) ?_
  refine V_istore_n (lv' := [(1, _), (0, _)]) C d_Mo_noImage_31 (by decide) rfl ?_
  refine V_pick [0, 1] rfl ?_
  refine V_io (fil_0 (r := 64) (a := 0) (x := -1)).symm ?_
  exact loop 97 0 (by omega) (by omega)
set_option maxHeartbeats 1000000 in
set_option maxRecDepth 10000 in
theorem c_Mo_put {ν : Nu} {ι : Io} {ρ : Ro} {ℓ : Lo} (hM : MoS ν ρ) {x : Int32} {v : Int64} {a w : Nat} (ha : x - ι 10 0 0 20 = nI a) (hw : a + w ≤ 4096) : Ct y_Mo_put (Cond.code y_Mo_put b_Mo_put 6 none :: tb_) { frames := 0, cells := 0, slots := 0, locals := 0 } [sR 10 0 0, sI x, sL v, sI (nI w)] ν ι ρ ℓ (pEq none ν (filF ι 73 a w (byL v w)) ρ ℓ) (noX) := by
  refine Ct.ofV (by decide) (Nat.le_of_ble_eq_true rfl) rfl ?_
  intro p l e s m args below meth c D B tW α0 Q C hQ
  have loop : ∀ (f : Nat) (i : Nat), w - i < f → (i ≤ w) → V p l e { frames := 0, cells := 0, slots := 0, locals := 0 } s m args below meth c D B α0 ν 6 Q 0 0 ν (filF ι 73 a i (byL v w)) ρ ℓ 3 [(5, sI (nI i)), (0, sR 10 0 0), (1, sI x), (2, sL v), (4, sI (nI w))] [] := by
    intro f
    induction f with
    | zero => intros; omega
    | succ f ih =>
      intro i hf hi0
      refine V_iload C d_Mo_put_3 rfl ?_
      refine V_iload C d_Mo_put_5 rfl ?_
      refine V_icmp_ge (tgt := 47) C d_Mo_put_7 (by decide) (fun h7 => ?_) (fun h7 => ?_)
      · have hi : i = w := by have := (nI_leI (a := w) (b := i) (by omega) (by omega)).mp h7; omega
        subst hi
        refine V_vret C hQ (by decide) (by decide) d_Mo_put_47 rfl ?_
        exact ⟨rfl, rfl, rfl, rfl, rfl⟩
      · have hi : i < w := Nat.lt_of_not_le fun z => h7 ((nI_leI (by omega) (by omega)).mpr z)
        refine V_aload_n C d_Mo_put_10 rfl ?_
        refine V_getR (kx := 33) C d_Mo_put_11 cf_Mo (by decide) k_Mo_81 hM.al rfl hM.r33 ?_
        refine V_iload_n C d_Mo_put_14 rfl ?_
        refine V_aload_n C d_Mo_put_15 rfl ?_
        refine V_getI (kx := 20) C d_Mo_put_16 cf_Mo (by decide) k_Mo_176 hM.al rfl ?_
        refine V_isub C d_Mo_put_19 ?_
        refine V_iload C d_Mo_put_20 rfl ?_
        refine V_iadd C d_Mo_put_22 ?_
        refine V_lload_n C d_Mo_put_23 rfl ?_
        refine V_bipush (v := 8) C d_Mo_put_24 (by decide) ?_
        refine V_iload C d_Mo_put_26 rfl ?_
        refine V_iconst (v := 1) C d_Mo_put_28 (by decide) ?_
        refine V_isub C d_Mo_put_29 ?_
        refine V_iload C d_Mo_put_30 rfl ?_
        refine V_isub C d_Mo_put_32 ?_
        refine V_imul C d_Mo_put_33 ?_
        refine V_lshr C d_Mo_put_34 ?_
        refine V_ldc2 C d_Mo_put_35 k_Mo_195 ?_
        refine V_land C d_Mo_put_38 ?_
        refine V_l2i C d_Mo_put_39 ?_
        refine V_iast C d_Mo_put_40 (by decide) rfl hM.n33 (show x - ι 10 0 0 20 + nI i = nI (a + i) by rw [ha, nI_add]) (by omega) rfl ?_
        refine V_iinc (v := nI (i + 1)) (lv' := [(5, _), (0, _), (1, _), (2, _), (4, _)]) C d_Mo_put_41 rfl (nI_1 i) (by decide) rfl ?_
        refine V_goto (tgt := 3) C d_Mo_put_44 (by decide) ?_
        refine V_pick [0, 1, 2, 3, 4] rfl ?_
        refine V_io (filF_s (r := 73) (a := a) (g := byL v w) rfl) ?_
        exact ih (i + 1) (by omega) (by omega)
  refine V_iconst (v := 0) C d_Mo_put_0 (by decide) ?_
  refine V_istore (lv' := [(5, _), (0, _), (1, _), (2, _), (4, _)]) C d_Mo_put_1 (by decide) rfl ?_
  refine V_pick [0, 1, 2, 3, 4] rfl ?_
  refine V_io (filF_0 (r := 73) (a := a) (g := byL v w)).symm ?_
  exact loop (w + 1) 0 (by omega) (by omega)
set_option maxHeartbeats 1000000 in
set_option maxRecDepth 10000 in
theorem c_Mo_placeOfMeaning_no {ν : Nu} {ι : Io} {ρ : Ro} {ℓ : Lo} {m9 : Int32} (hm : m9 < 0) : Ct y_Mo_placeOfMeaning (Cond.code y_Mo_placeOfMeaning b_Mo_placeOfMeaning 3 (some .int) :: tb_) { frames := 0, cells := 0, slots := 0, locals := 0 } [sR 10 0 0, sI m9] ν ι ρ ℓ (pEq (some (sI (-1))) ν ι ρ ℓ) (noX) := by
  refine Ct.ofV (by decide) (Nat.le_of_ble_eq_true rfl) rfl ?_
  intro p l e s m args below meth c D B tW α0 Q C hQ
  refine V_iload_n C d_Mo_placeOfMeaning_0 rfl ?_
  refine V_if_ge (tgt := 6) C d_Mo_placeOfMeaning_1 (by decide) (fun h1 => absurd h1 (Int32.not_le.mpr hm)) (fun h1 => ?_)
  refine V_iconst (v := (-1)) C d_Mo_placeOfMeaning_4 (by decide) ?_
  refine V_iret C hQ (by decide) (by decide) d_Mo_placeOfMeaning_5 rfl ?_
  exact ⟨rfl, rfl, rfl, rfl, rfl⟩
set_option maxHeartbeats 1000000 in
set_option maxRecDepth 10000 in
theorem c_Mo_placeOfMeaning {ν : Nu} {ι : Io} {ρ : Ro} {ℓ : Lo} (hM : MoS ν ρ) {i : Nat} (hi : i < 144) (hwh : bd ι 50 156 7) : Ct y_Mo_placeOfMeaning (Cond.code y_Mo_placeOfMeaning b_Mo_placeOfMeaning 3 (some .int) :: tb_) { frames := 0, cells := 0, slots := 0, locals := 0 } [sR 10 0 0, sI (nI i)] ν ι ρ ℓ (pEq (some (sI (pm ι i))) ν ι ρ ℓ) (noX) := by
  refine Ct.ofV (by decide) (Nat.le_of_ble_eq_true rfl) rfl ?_
  intro p l e s m args below meth c D B tW α0 Q C hQ
  have hw7 := hwh.le (t := i) (by omega)
  refine V_iload_n C d_Mo_placeOfMeaning_0 rfl ?_
  refine V_if_ge (tgt := 6) C d_Mo_placeOfMeaning_1 (by decide) (fun h1 => ?_) (fun h1 => absurd (nI_pos' (by omega)) h1)
  refine V_aload_n C d_Mo_placeOfMeaning_6 rfl ?_
  refine V_getR (kx := 9) C d_Mo_placeOfMeaning_7 cf_Mo (by decide) k_Mo_31 hM.al rfl hM.r9 ?_
  refine V_iload_n C d_Mo_placeOfMeaning_10 rfl ?_
  refine V_iald C d_Mo_placeOfMeaning_11 (by decide) rfl hM.n9 rfl (by omega) rfl ?_
  refine V_iconst (v := 2) C d_Mo_placeOfMeaning_12 (by decide) ?_
  refine V_icmp_ne (tgt := 36) C d_Mo_placeOfMeaning_13 (by decide) (fun h13 => ?_) (fun h13 => ?_)
  · refine V_bipush (v := 8) C d_Mo_placeOfMeaning_36 (by decide) ?_
    refine V_iload_n C d_Mo_placeOfMeaning_38 rfl ?_
    refine V_bipush (v := 12) C d_Mo_placeOfMeaning_39 (by decide) ?_
    refine V_idiv C d_Mo_placeOfMeaning_41 (by decide) ?_
    refine V_imul C d_Mo_placeOfMeaning_42 ?_
    refine V_aload_n C d_Mo_placeOfMeaning_43 rfl ?_
    refine V_getR (kx := 10) C d_Mo_placeOfMeaning_44 cf_Mo (by decide) k_Mo_34 hM.al rfl hM.r10 ?_
    refine V_iload_n C d_Mo_placeOfMeaning_47 rfl ?_
    refine V_iald C d_Mo_placeOfMeaning_48 (by decide) rfl hM.n10 rfl (by omega) rfl ?_
    refine V_iadd C d_Mo_placeOfMeaning_49 ?_
    refine V_eqi (y := nI (8 * (i / 12) + mn ι 50 i)) (by rw [show (nI i : Int32) / 12 = nI (i / 12) from pk_div (d := 12) (by omega) (by decide) (by decide), hwh.eq (t := i) (by omega)]; exact ixa 8 _ _) ?_
    refine V_istore_n (lv' := [(2, _), (0, _), (1, _)]) C d_Mo_placeOfMeaning_50 (by decide) rfl ?_
    refine V_aload_n C d_Mo_placeOfMeaning_51 rfl ?_
    refine V_getR (kx := 21) C d_Mo_placeOfMeaning_52 cf_Mo (by decide) k_Mo_61 hM.al rfl hM.r21 ?_
    refine V_iload_n C d_Mo_placeOfMeaning_55 rfl ?_
    refine V_zald C d_Mo_placeOfMeaning_56 (by decide) rfl hM.n21 rfl (by omega) rfl ?_
    refine V_if_eq (tgt := 76) C d_Mo_placeOfMeaning_57 (by decide) (fun h57 => ?_) (fun h57 => ?_)
    · refine V_iconst (v := (-1)) C d_Mo_placeOfMeaning_76 (by decide) ?_
      refine V_iret C hQ (by decide) (by decide) d_Mo_placeOfMeaning_77 rfl ?_
      exact ⟨congrArg (fun z => some (sI z)) (by clear hQ C; unfold pm; grind), rfl, rfl, rfl, rfl⟩
    · refine V_aload_n C d_Mo_placeOfMeaning_60 rfl ?_
      refine V_getR (kx := 24) C d_Mo_placeOfMeaning_61 cf_Mo (by decide) k_Mo_71 hM.al rfl hM.r24 ?_
      refine V_iload_n C d_Mo_placeOfMeaning_64 rfl ?_
      refine V_iald C d_Mo_placeOfMeaning_65 (by decide) rfl hM.n24 rfl (by omega) rfl ?_
      refine V_aload_n C d_Mo_placeOfMeaning_66 rfl ?_
      refine V_getR (kx := 11) C d_Mo_placeOfMeaning_67 cf_Mo (by decide) k_Mo_37 hM.al rfl hM.r11 ?_
      refine V_iload_n C d_Mo_placeOfMeaning_70 rfl ?_
      refine V_iald C d_Mo_placeOfMeaning_71 (by decide) rfl hM.n11 rfl (by omega) rfl ?_
      refine V_iadd C d_Mo_placeOfMeaning_72 ?_
      refine V_goto (tgt := 77) C d_Mo_placeOfMeaning_73 (by decide) ?_
      refine V_iret C hQ (by decide) (by decide) d_Mo_placeOfMeaning_77 rfl ?_
      exact ⟨congrArg (fun z => some (sI z)) (by clear hQ C; unfold pm; grind), rfl, rfl, rfl, rfl⟩
  · refine V_aload_n C d_Mo_placeOfMeaning_16 rfl ?_
    refine V_getR (kx := 22) C d_Mo_placeOfMeaning_17 cf_Mo (by decide) k_Mo_65 hM.al rfl hM.r22 ?_
    refine V_iload_n C d_Mo_placeOfMeaning_20 rfl ?_
    refine V_zald C d_Mo_placeOfMeaning_21 (by decide) rfl hM.n22 rfl (by omega) rfl ?_
    refine V_if_eq (tgt := 34) C d_Mo_placeOfMeaning_22 (by decide) (fun h22 => ?_) (fun h22 => ?_)
    · refine V_iconst (v := (-1)) C d_Mo_placeOfMeaning_34 (by decide) ?_
      refine V_iret C hQ (by decide) (by decide) d_Mo_placeOfMeaning_35 rfl ?_
      exact ⟨congrArg (fun z => some (sI z)) (by clear hQ C; unfold pm; grind), rfl, rfl, rfl, rfl⟩
    · refine V_aload_n C d_Mo_placeOfMeaning_25 rfl ?_
      refine V_getR (kx := 23) C d_Mo_placeOfMeaning_26 cf_Mo (by decide) k_Mo_68 hM.al rfl hM.r23 ?_
      refine V_iload_n C d_Mo_placeOfMeaning_29 rfl ?_
      refine V_iald C d_Mo_placeOfMeaning_30 (by decide) rfl hM.n23 rfl (by omega) rfl ?_
      refine V_goto (tgt := 35) C d_Mo_placeOfMeaning_31 (by decide) ?_
      refine V_iret C hQ (by decide) (by decide) d_Mo_placeOfMeaning_35 rfl ?_
      exact ⟨congrArg (fun z => some (sI z)) (by clear hQ C; unfold pm; grind), rfl, rfl, rfl, rfl⟩
