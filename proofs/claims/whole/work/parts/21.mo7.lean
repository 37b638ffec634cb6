/-- the numbers m*o .. m*o + fld[o] - 1 for the chosen objects o, in the order of the choice -/
def sq (ι : Io) (m fld c : Nat) : List Nat := (List.range c).flatMap (fun k => (List.range (mn ι fld (mn ι 59 k))).map (fun i => m * mn ι 59 k + i))
def sqP (ι : Io) (m fld k i : Nat) : List Nat := sq ι m fld k ++ (List.range i).map (fun z => m * mn ι 59 k + z)
theorem sqP_0 {ι : Io} {m fld k : Nat} : sqP ι m fld k 0 = sq ι m fld k := by simp [sqP]
theorem sqP_s {ι : Io} {m fld k i : Nat} : sqP ι m fld k (i + 1) = sqP ι m fld k i ++ [m * mn ι 59 k + i] := by
  unfold sqP
  rw [List.range_succ, List.map_append, List.append_assoc]
  rfl
theorem sq_s {ι : Io} {m fld k : Nat} : sq ι m fld (k + 1) = sqP ι m fld k (mn ι fld (mn ι 59 k)) := by
  unfold sqP sq
  rw [List.range_succ, List.flatMap_append]
  simp
theorem sq_split {ι : Io} {m fld c k i : Nat} (hk : k < c) (hi : i < mn ι fld (mn ι 59 k)) : ∃ suf, sq ι m fld c = sqP ι m fld k i ++ (m * mn ι 59 k + i) :: suf := by
  obtain ⟨d, hd⟩ : ∃ d, c = (k + 1) + d := ⟨c - (k + 1), by omega⟩
  obtain ⟨e, he⟩ : ∃ e, mn ι fld (mn ι 59 k) = (i + 1) + e := ⟨mn ι fld (mn ι 59 k) - (i + 1), by omega⟩
  have h1 : sq ι m fld c = sq ι m fld (k + 1) ++ ((List.range d).map (fun z => k + 1 + z)).flatMap (fun k => (List.range (mn ι fld (mn ι 59 k))).map (fun i => m * mn ι 59 k + i)) := by
    unfold sq
    rw [hd, List.range_add, List.flatMap_append]
  have h2 : sqP ι m fld k (mn ι fld (mn ι 59 k)) = sqP ι m fld k (i + 1) ++ ((List.range e).map (fun z => i + 1 + z)).map (fun z => m * mn ι 59 k + z) := by
    unfold sqP
    rw [he, List.range_add, List.map_append, List.append_assoc]
  rw [h1, sq_s, h2, sqP_s]
  exact ⟨_, by rw [List.append_assoc, List.append_assoc]; rfl⟩
def foB (ι : Io) (n k : Int32) (i : Nat) : Bool := ι 48 0 0 i == n && ι 49 0 0 i == k
def fo (ι : Io) (c : Nat) (n k : Int32) : Int32 := match (sq ι 12 47 c).find? (foB ι n k) with
  | some i => nI i
  | none => -1
theorem foB_t {ι : Io} {n k : Int32} {i : Nat} (h1 : ι 48 0 0 i = n) (h2 : ι 49 0 0 i = k) : foB ι n k i = true := by simp [foB, h1, h2]
theorem foB_f1 {ι : Io} {n k : Int32} {i : Nat} (h1 : ¬ ι 48 0 0 i = n) : foB ι n k i = false := by simp [foB, h1]
theorem foB_f2 {ι : Io} {n k : Int32} {i : Nat} (h1 : ¬ ι 49 0 0 i = k) : foB ι n k i = false := by simp [foB, h1]
theorem find_hit {l a b : List Nat} {x : Nat} {q : Nat → Bool} (hl : l = a ++ x :: b) (ha : ∀ z ∈ a, q z = false) (hx : q x = true) : l.find? q = some x := by
  rw [List.find?_eq_some_iff_append]
  exact ⟨hx, a, b, hl, fun z hz => by simp [ha z hz]⟩
theorem find_miss {l : List Nat} {q : Nat → Bool} (ha : ∀ z ∈ l, q z = false) : l.find? q = none := by
  rw [List.find?_eq_none]
  exact fun z hz => by simp [ha z hz]
theorem all_s {l : List Nat} {x : Nat} {q : Nat → Bool} (ha : ∀ z ∈ l, q z = false) (hx : q x = false) : ∀ z ∈ l ++ [x], q z = false := by
  intro z hz
  rcases List.mem_append.mp hz with h | h
  · exact ha z h
  · rw [List.mem_singleton.mp h]; exact hx
set_option maxHeartbeats 1000000 in
set_option maxRecDepth 10000 in
theorem c_Mo_firstOf {ν : Nu} {ι : Io} {ρ : Ro} {ℓ : Lo} (hM : MoS ν ρ) {c9 : Nat} (hc : ι 10 0 0 18 = nI c9) (h12 : c9 ≤ 12) (hch : bd ι 59 12 11) (hb : bd ι 47 13 12) {n y : Int32} : Ct y_Mo_firstOf (Cond.code y_Mo_firstOf b_Mo_firstOf 6 (some .int) :: tb_) { frames := 0, cells := 0, slots := 0, locals := 0 } [sR 10 0 0, sI n, sI y] ν ι ρ ℓ (pEq (some (sI (fo ι c9 n y))) ν ι ρ ℓ) (noX) := by
  refine Ct.ofV (by decide) (Nat.le_of_ble_eq_true rfl) rfl ?_
  intro p l e s m args below meth c D B tW α0 Q C hQ
  have outer : ∀ (f : Nat) (k9 : Nat), c9 - k9 < f → (k9 ≤ c9) → (∀ z ∈ sq ι 12 47 k9, foB ι n y z = false) → V p l e { frames := 0, cells := 0, slots := 0, locals := 0 } s m args below meth c D B α0 ν 6 Q 0 0 ν ι ρ ℓ 2 [(3, sI (nI k9)), (0, sR 10 0 0), (1, sI n), (2, sI y)] [] := by
    intro f
    induction f with
    | zero => intros; omega
    | succ f ih =>
      intro k9 hf hk0 hpre0
      refine V_iload_n C d_Mo_firstOf_2 rfl ?_
      refine V_aload_n C d_Mo_firstOf_3 rfl ?_
      refine V_getI (kx := 18) C d_Mo_firstOf_4 cf_Mo (by decide) k_Mo_144 hM.al rfl ?_
      rw [hc]
      refine V_icmp_ge (tgt := 80) C d_Mo_firstOf_7 (by decide) (fun h7 => ?_) (fun h7 => ?_)
      · have hk : k9 = c9 := by have := (nI_leI (a := c9) (b := k9) (by omega) (by omega)).mp h7; omega
        subst hk
        refine V_iconst (v := (-1)) C d_Mo_firstOf_80 (by decide) ?_
        refine V_iret C hQ (by decide) (by decide) d_Mo_firstOf_81 rfl ?_
        refine ⟨congrArg (fun z => some (sI z)) ?_, rfl, rfl, rfl, rfl⟩
        unfold fo
        rw [find_miss hpre0]
      · have hk : k9 < c9 := Nat.lt_of_not_le fun z => h7 ((nI_leI (by omega) (by omega)).mpr z)
        have ho := hch.le (t := k9) (by omega)
        have hnn := hb.le (t := mn ι 59 k9) (by omega)
        have inner : ∀ (f : Nat) (i : Nat), mn ι 47 (mn ι 59 k9) - i < f → (i ≤ mn ι 47 (mn ι 59 k9)) → (∀ z ∈ sqP ι 12 47 k9 i, foB ι n y z = false) → V p l e { frames := 0, cells := 0, slots := 0, locals := 0 } s m args below meth c D B α0 ν 6 Q 0 0 ν ι ρ ℓ 25 [(5, sI (nI (12 * mn ι 59 k9 + i))), (4, sI (nI (mn ι 59 k9))), (3, sI (nI k9)), (0, sR 10 0 0), (1, sI n), (2, sI y)] [] := by
          intro f
          induction f with
          | zero => intros; omega
          | succ f ih2 =>
                  intro i hf2 hi0 hpre
                  refine V_iload C d_Mo_firstOf_25 rfl ?_
                  refine V_bipush (v := 12) C d_Mo_firstOf_27 (by decide) ?_
                  refine V_iload C d_Mo_firstOf_29 rfl ?_
                  refine V_imul C d_Mo_firstOf_31 ?_
                  refine V_aload_n C d_Mo_firstOf_32 rfl ?_
                  refine V_getR (kx := 7) C d_Mo_firstOf_33 cf_Mo (by decide) k_Mo_25 hM.al rfl hM.r7 ?_
                  refine V_iload C d_Mo_firstOf_36 rfl ?_
                  refine V_iald C d_Mo_firstOf_38 (by decide) rfl hM.n7 rfl (by omega) rfl ?_
                  refine V_iadd C d_Mo_firstOf_39 ?_
                  rw [hb.eq (t := mn ι 59 k9) (by omega)]
                  refine V_eqi (ixa 12 (mn ι 59 k9) (mn ι 47 (mn ι 59 k9))) ?_
                  refine V_icmp_ge (tgt := 74) C d_Mo_firstOf_40 (by decide) (fun h40 => ?_) (fun h40 => ?_)
                  · have hi : i = mn ι 47 (mn ι 59 k9) := by have := (nI_leI (by omega) (by omega)).mp h40; omega
                    refine V_iinc (v := nI (k9 + 1)) (lv' := [(3, _), (5, _), (4, _), (0, _), (1, _), (2, _)]) C d_Mo_firstOf_74 rfl (nI_1 k9) (by decide) rfl ?_
                    refine V_goto (tgt := 2) C d_Mo_firstOf_77 (by decide) ?_
                    refine V_pick [0, 3, 4, 5] rfl ?_
                    exact ih (k9 + 1) (by omega) (by omega) (by rw [sq_s, ← hi]; exact hpre)
                  · have hi : i < mn ι 47 (mn ι 59 k9) := Nat.lt_of_not_le fun z => h40 ((nI_leI (by omega) (by omega)).mpr (by omega))
                    obtain ⟨suf, hsp⟩ := sq_split (ι := ι) (m := 12) (fld := 47) hk hi
                    refine V_aload_n C d_Mo_firstOf_43 rfl ?_
                    refine V_getR (kx := 8) C d_Mo_firstOf_44 cf_Mo (by decide) k_Mo_28 hM.al rfl hM.r8 ?_
                    refine V_iload C d_Mo_firstOf_47 rfl ?_
                    refine V_iald C d_Mo_firstOf_49 (by decide) rfl hM.n8 rfl (by omega) rfl ?_
                    refine V_iload_n C d_Mo_firstOf_50 rfl ?_
                    refine V_icmp_ne (tgt := 68) C d_Mo_firstOf_51 (by decide) (fun h51 => ?_) (fun h51 => ?_)
                    · have hB : foB ι n y (12 * mn ι 59 k9 + i) = false := foB_f1 h51
                      refine V_iinc (v := nI (12 * mn ι 59 k9 + (i + 1))) (lv' := [(5, _), (4, _), (3, _), (0, _), (1, _), (2, _)]) C d_Mo_firstOf_68 rfl (nI_1 _) (by decide) rfl ?_
                      refine V_goto (tgt := 25) C d_Mo_firstOf_71 (by decide) ?_
                      refine V_pick [0, 1, 2, 3, 4, 5] rfl ?_
                      exact ih2 (i + 1) (by omega) (by omega) (by rw [sqP_s]; exact all_s hpre hB)
                    · refine V_aload_n C d_Mo_firstOf_54 rfl ?_
                      refine V_getR (kx := 9) C d_Mo_firstOf_55 cf_Mo (by decide) k_Mo_31 hM.al rfl hM.r9 ?_
                      refine V_iload C d_Mo_firstOf_58 rfl ?_
                      refine V_iald C d_Mo_firstOf_60 (by decide) rfl hM.n9 rfl (by omega) rfl ?_
                      refine V_iload_n C d_Mo_firstOf_61 rfl ?_
                      refine V_icmp_ne (tgt := 68) C d_Mo_firstOf_62 (by decide) (fun h62 => ?_) (fun h62 => ?_)
                      · have hB : foB ι n y (12 * mn ι 59 k9 + i) = false := foB_f2 h62
                        refine V_iinc (v := nI (12 * mn ι 59 k9 + (i + 1))) (lv' := [(5, _), (4, _), (3, _), (0, _), (1, _), (2, _)]) C d_Mo_firstOf_68 rfl (nI_1 _) (by decide) rfl ?_
                        refine V_goto (tgt := 25) C d_Mo_firstOf_71 (by decide) ?_
                        refine V_pick [0, 1, 2, 3, 4, 5] rfl ?_
                        exact ih2 (i + 1) (by omega) (by omega) (by rw [sqP_s]; exact all_s hpre hB)
                      · have hB : foB ι n y (12 * mn ι 59 k9 + i) = true := foB_t h51 h62
                        refine V_iload C d_Mo_firstOf_65 rfl ?_
                        refine V_iret C hQ (by decide) (by decide) d_Mo_firstOf_67 rfl ?_
                        refine ⟨congrArg (fun z => some (sI z)) ?_, rfl, rfl, rfl, rfl⟩
                        unfold fo
                        rw [find_hit hsp hpre hB]
        refine V_aload_n C d_Mo_firstOf_10 rfl ?_
        refine V_getR (kx := 19) C d_Mo_firstOf_11 cf_Mo (by decide) k_Mo_58 hM.al rfl hM.r19 ?_
        refine V_iload_n C d_Mo_firstOf_14 rfl ?_
        refine V_iald C d_Mo_firstOf_15 (by decide) rfl hM.n19 rfl (by omega) rfl ?_
        rw [hch.eq (t := k9) (by omega)]
        refine V_istore (lv' := [(4, _), (3, _), (0, _), (1, _), (2, _)]) C d_Mo_firstOf_16 (by decide) rfl ?_
        refine V_bipush (v := 12) C d_Mo_firstOf_18 (by decide) ?_
        refine V_iload C d_Mo_firstOf_20 rfl ?_
        refine V_imul C d_Mo_firstOf_22 ?_
        refine V_eqi (y := nI (12 * mn ι 59 k9 + 0)) (show nI 12 * nI (mn ι 59 k9) = _ from pk_mul 12 _) ?_
        refine V_istore (lv' := [(5, _), (4, _), (3, _), (0, _), (1, _), (2, _)]) C d_Mo_firstOf_23 (by decide) rfl ?_
        refine V_pick [0, 1, 2, 3, 4, 5] rfl ?_
        exact inner (mn ι 47 (mn ι 59 k9) + 1) 0 (by omega) (by omega) (by rw [sqP_0]; exact hpre0)
  refine V_iconst (v := 0) C d_Mo_firstOf_0 (by decide) ?_
  refine V_istore_n (lv' := [(3, _), (0, _), (1, _), (2, _)]) C d_Mo_firstOf_1 (by decide) rfl ?_
  refine V_pick [0, 1, 2, 3] rfl ?_
  exact outer (c9 + 1) 0 (by omega) (by omega) (fun z hz => absurd hz List.not_mem_nil)
