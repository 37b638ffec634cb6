def LK (ι : Io) (c9 : Nat) : Prop := ι 10 0 0 18 = nI c9 ∧ c9 ≤ 12 ∧ bd ι 59 12 11 ∧ bd ι 47 13 12 ∧ bd ι 42 13 8 ∧ bd ι 52 13 16 ∧ bd ι 43 104 3 ∧ bd ι 44 104 6 ∧ bd ι 45 104 128 ∧ bd ι 50 156 7 ∧ bd ι 51 156 1024 ∧ bd ι 53 208 7 ∧ bd ι 54 208 128 ∧ bd ι 55 208 4 ∧ bd ι 56 208 11
theorem LK.c18 {ι : Io} {c9 : Nat} (h : LK ι c9) : ι 10 0 0 18 = nI c9 := h.1
theorem LK.c12 {ι : Io} {c9 : Nat} (h : LK ι c9) : c9 ≤ 12 := h.2.1
theorem LK.b59 {ι : Io} {c9 : Nat} (h : LK ι c9) : bd ι 59 12 11 := h.2.2.1
theorem LK.b47 {ι : Io} {c9 : Nat} (h : LK ι c9) : bd ι 47 13 12 := h.2.2.2.1
theorem LK.b42 {ι : Io} {c9 : Nat} (h : LK ι c9) : bd ι 42 13 8 := h.2.2.2.2.1
theorem LK.b52 {ι : Io} {c9 : Nat} (h : LK ι c9) : bd ι 52 13 16 := h.2.2.2.2.2.1
theorem LK.b43 {ι : Io} {c9 : Nat} (h : LK ι c9) : bd ι 43 104 3 := h.2.2.2.2.2.2.1
theorem LK.b44 {ι : Io} {c9 : Nat} (h : LK ι c9) : bd ι 44 104 6 := h.2.2.2.2.2.2.2.1
theorem LK.b45 {ι : Io} {c9 : Nat} (h : LK ι c9) : bd ι 45 104 128 := h.2.2.2.2.2.2.2.2.1
theorem LK.b50 {ι : Io} {c9 : Nat} (h : LK ι c9) : bd ι 50 156 7 := h.2.2.2.2.2.2.2.2.2.1
theorem LK.b51 {ι : Io} {c9 : Nat} (h : LK ι c9) : bd ι 51 156 1024 := h.2.2.2.2.2.2.2.2.2.2.1
theorem LK.b53 {ι : Io} {c9 : Nat} (h : LK ι c9) : bd ι 53 208 7 := h.2.2.2.2.2.2.2.2.2.2.2.1
theorem LK.b54 {ι : Io} {c9 : Nat} (h : LK ι c9) : bd ι 54 208 128 := h.2.2.2.2.2.2.2.2.2.2.2.2.1
theorem LK.b55 {ι : Io} {c9 : Nat} (h : LK ι c9) : bd ι 55 208 4 := h.2.2.2.2.2.2.2.2.2.2.2.2.2.1
theorem LK.b56 {ι : Io} {c9 : Nat} (h : LK ι c9) : bd ι 56 208 11 := h.2.2.2.2.2.2.2.2.2.2.2.2.2.2
abbrev Ls : Type := Nat → Nat → Int32
/-- the cells that a linking of the reference writes -/
def isL (r k : Nat) : Bool := match r with
  | 10 => (match k with | 0 => true | 20 => true | 25 => true | 26 => true | 27 => true | 28 => true | 29 => true | 30 => true | 31 => true | 32 => true | 34 => true | 41 => true | _ => false)
  | 61 => true | 62 => true | 63 => true | 64 => true | 73 => true | 75 => true | 76 => true
  | _ => false
def setL (ι : Io) (L : Ls) : Io := fun r i j k => if i = 0 ∧ j = 0 ∧ isL r k = true then L r k else ι r i j k
def up2 (L : Ls) (r k : Nat) (x : Int32) : Ls := fun r' k' => if r' = r ∧ k' = k then x else L r' k'
def curL (ι : Io) : Ls := fun r k => ι r 0 0 k
theorem setL_cur {ι : Io} : setL ι (curL ι) = ι := by
  funext r i j k
  unfold setL curL
  split
  · rename_i h
    rw [h.1, h.2.1]
  · rfl
theorem setL_up {ι : Io} {L : Ls} {r k : Nat} {x : Int32} (h : isL r k = true) : up4 (setL ι L) r 0 0 k x = setL ι (up2 L r k x) := by
  funext r' i j k'
  unfold up4 setL up2
  grind
theorem setL_at {ι : Io} {L : Ls} {r k : Nat} (h : isL r k = true) : setL ι L r 0 0 k = L r k := if_pos ⟨rfl, rfl, h⟩
theorem up2_same {L : Ls} {r k : Nat} {x : Int32} : up2 L r k x r k = x := if_pos ⟨rfl, rfl⟩
theorem up2_ne {L : Ls} {r k r' k' : Nat} {x : Int32} (h : ¬ (r' = r ∧ k' = k)) : up2 L r k x r' k' = L r' k' := if_neg h
def flL (L : Ls) (r n : Nat) (x : Int32) : Ls := fun r' k => if r' = r ∧ k < n then x else L r' k
theorem flL_0 {L : Ls} {r : Nat} {x : Int32} : flL L r 0 x = L := by
  funext r' k
  unfold flL
  exact if_neg (by omega)
theorem flL_s {L : Ls} {r n : Nat} {x : Int32} : up2 (flL L r n x) r n x = flL L r (n + 1) x := by
  funext r' k
  unfold up2 flL
  grind
def tlL (L : Ls) (a b d : Int32) : Ls := if 0 < L 10 25 then L else up2 (up2 (up2 L 10 25 a) 10 26 b) 10 27 d
theorem tellS_set {ι : Io} {L : Ls} {a b d : Int32} : tellS (setL ι L) a b d = setL ι (tlL L a b d) := by
  unfold tellS tlL
  show (if 0 < L 10 25 then _ else _) = _
  split
  · rfl
  · rw [setL_up rfl, setL_up rfl, setL_up rfl]
theorem fold_g {β : Type} {l : List Nat} {x : Nat} {f : β → Nat → β} {a : β} : (l ++ [x]).foldl f a = f (l.foldl f a) x := by rw [List.foldl_append]; rfl
/-- the slot of a reference's section; the number that it names; what that means -/
def slR (ι : Io) (j : Nat) : Nat := 8 * (j / 16) + mn ι 53 j
def nuR (ι : Io) (j : Nat) : Int32 := ι 48 0 0 (12 * (j / 16) + mn ι 56 j)
def meR (ι : Io) (c : Nat) (j : Nat) : Int32 := me ι c (nuR ι j)
abbrev dbB (ι : Io) (c : Nat) (i : Nat) : Prop := ι 49 0 0 i = 0 ∧ fo ι c (ι 48 0 0 i) 0 ≠ nI i
def dbS (ι : Io) (c : Nat) (L : Ls) (i : Nat) : Ls := if dbB ι c i then tlL L 1 (nI (i / 12)) (nI (i % 12)) else L
theorem k_firstOf {ν : Nu} {ι : Io} {ρ : Ro} {ℓ : Lo} (hM : MoS ν ρ) {c9 : Nat} (K : LK ι c9) {L : Ls} {n y : Int32} : Ct y_Mo_firstOf (Cond.code y_Mo_firstOf b_Mo_firstOf 6 (some .int) :: tb_) { frames := 0, cells := 0, slots := 0, locals := 0 } [sR 10 0 0, sI n, sI y] ν (setL ι L) ρ ℓ (pEq (some (sI (fo ι c9 n y))) ν (setL ι L) ρ ℓ) (noX) := c_Mo_firstOf (ι := setL ι L) hM K.c18 K.c12 K.b59 K.b47
theorem k_meaning {ν : Nu} {ι : Io} {ρ : Ro} {ℓ : Lo} (hM : MoS ν ρ) {c9 : Nat} (K : LK ι c9) {L : Ls} {n : Int32} : Ct y_Mo_meaning (Cond.code y_Mo_meaning b_Mo_meaning 4 (some .int) :: tb_) { frames := 1, cells := 0, slots := 0, locals := 25 } [sR 10 0 0, sI n] ν (setL ι L) ρ ℓ (pEq (some (sI (me ι c9 n))) ν (setL ι L) ρ ℓ) (noX) := c_Mo_meaning (ι := setL ι L) hM K.c18 K.c12 K.b59 K.b47
theorem k_tell {ν : Nu} {ι : Io} {ρ : Ro} {ℓ : Lo} (hM : MoS ν ρ) {c9 : Nat} (K : LK ι c9) {L : Ls} {a b d : Int32} : Ct y_Mo_tell (Cond.code y_Mo_tell b_Mo_tell 4 none :: tb_) { frames := 0, cells := 0, slots := 0, locals := 0 } [sR 10 0 0, sI a, sI b, sI d] ν (setL ι L) ρ ℓ (pEq none ν (setL ι (tlL L a b d)) ρ ℓ) (noX) := by
  rw [← tellS_set]
  exact c_Mo_tell hM
theorem k_meaningOf {ν : Nu} {ι : Io} {ρ : Ro} {ℓ : Lo} (hM : MoS ν ρ) {c9 : Nat} (K : LK ι c9) {L : Ls} {t j : Nat} (ht : t < 12) (hj : j < 16) : Ct y_Mo_meaningOf (Cond.code y_Mo_meaningOf b_Mo_meaningOf 3 (some .int) :: tb_) { frames := 2, cells := 0, slots := 0, locals := 48 } [sR 10 0 0, sI (nI t), sI (nI j)] ν (setL ι L) ρ ℓ (pEq (some (sI (meR ι c9 (16 * t + j)))) ν (setL ι L) ρ ℓ) (noX) := by
  unfold meR nuR
  rw [show (16 * t + j) / 16 = t by omega]
  exact c_Mo_meaningOf (ι := setL ι L) hM K.c18 K.c12 K.b59 K.b47 ht hj K.b56
theorem k_isWorked {ν : Nu} {ι : Io} {ρ : Ro} {ℓ : Lo} (hM : MoS ν ρ) {c9 : Nat} (K : LK ι c9) {L : Ls} {t j : Nat} (ht : t < 12) (hj : j < 16) (hR : ∀ s, s < 96 → L 61 s = 0 ∨ L 61 s = 1) : Ct y_Mo_isWorked (Cond.code y_Mo_isWorked b_Mo_isWorked 3 (some .boolean) :: tb_) { frames := 0, cells := 0, slots := 0, locals := 0 } [sR 10 0 0, sI (nI t), sI (nI j)] ν (setL ι L) ρ ℓ (pEq (some (sI (L 61 (slR ι (16 * t + j))))) ν (setL ι L) ρ ℓ) (noX) := by
  unfold slR
  rw [show (16 * t + j) / 16 = t by omega]
  exact c_Mo_isWorked (ι := setL ι L) hM ht hj K.b53 (fun s hs => (hR s hs).elim (fun h => ⟨0, by omega, h⟩) (fun h => ⟨1, by omega, h⟩))
theorem LK.nm {ι : Io} {c9 i : Nat} (K : LK ι c9) (h : i ∈ sq ι 12 47 c9) : i < 144 := by
  obtain ⟨k, t, hk, ht, rfl⟩ := mem_sq h
  have h1 := K.b59.le (t := k) (by have := K.c12; omega)
  have h2 := K.b47.le (t := mn ι 59 k) (by omega)
  omega
theorem LK.me {ι : Io} {c9 : Nat} (K : LK ι c9) (n : Int32) : me ι c9 n = -1 ∨ ∃ i, i < 144 ∧ i ∈ sq ι 12 47 c9 ∧ me ι c9 n = nI i ∧ ι 48 0 0 i = n := by
  rcases me_rng (ι := ι) (c := c9) (n := n) with h | ⟨i, h1, h2, h3⟩
  · exact Or.inl h
  · exact Or.inr ⟨i, K.nm h1, h1, h2, h3⟩
theorem rc_isL {ι : Io} {i : Nat} : isL (rcR ι i) (rcI ι i) = true := by
  unfold rcR
  split <;> rfl
def rcL (ι : Io) (L : Ls) (m : Int32) : Ls := if m < 0 then L else up2 L (rcR ι m.toNatClampNeg) (rcI ι m.toNatClampNeg) 1
def rcB (ι : Io) (L : Ls) (m : Int32) : Int32 := if m < 0 then 0 else b2 (L (rcR ι m.toNatClampNeg) (rcI ι m.toNatClampNeg) = 0)
theorem nI_nneg {i : Nat} (h : i < 2147483648) : ¬ nI i < 0 := Int32.not_lt.mpr (nI_pos' h)
theorem rcL_n {ι : Io} {L : Ls} {m : Int32} (h : m < 0) : rcL ι L m = L := if_pos h
theorem rcL_p {ι : Io} {L : Ls} {i : Nat} (h : i < 144) : rcL ι L (nI i) = up2 L (rcR ι i) (rcI ι i) 1 := by
  unfold rcL
  rw [if_neg (nI_nneg (by omega)), nI_clamp (by omega)]
theorem rcB_n {ι : Io} {L : Ls} {m : Int32} (h : m < 0) : rcB ι L m = 0 := if_pos h
theorem rcB_p {ι : Io} {L : Ls} {i : Nat} (h : i < 144) : rcB ι L (nI i) = b2 (L (rcR ι i) (rcI ι i) = 0) := by
  unfold rcB
  rw [if_neg (nI_nneg (by omega)), nI_clamp (by omega)]
theorem k_reach {ν : Nu} {ι : Io} {ρ : Ro} {ℓ : Lo} (hM : MoS ν ρ) {c9 : Nat} (K : LK ι c9) {L : Ls} {m9 : Int32} (hm : m9 = -1 ∨ ∃ i, i < 144 ∧ m9 = nI i) : Ct y_Mo_reach (Cond.code y_Mo_reach b_Mo_reach 4 (some .boolean) :: tb_) { frames := 0, cells := 0, slots := 0, locals := 0 } [sR 10 0 0, sI m9] ν (setL ι L) ρ ℓ (pEq (some (sI (rcB ι L m9))) ν (setL ι (rcL ι L m9)) ρ ℓ) (noX) := by
  rcases hm with h | ⟨i, hi, h⟩
  · have h1 : m9 < 0 := by rw [h]; decide
    rw [rcB_n h1, rcL_n h1]
    exact c_Mo_reach_no h1
  · rw [h, rcB_p hi, rcL_p hi, ← setL_up rc_isL]
    have h2 := c_Mo_reach (ι := setL ι L) (ℓ := ℓ) hM hi K.b50
    rw [show rcR (setL ι L) i = rcR ι i from rfl, show rcI (setL ι L) i = rcI ι i from rfl, setL_at rc_isL] at h2
    exact h2
set_option maxHeartbeats 1000000 in
set_option maxRecDepth 10000 in
theorem k_findDoubled {ν : Nu} {ι : Io} {ρ : Ro} {ℓ : Lo} (hM : MoS ν ρ) {c9 : Nat} (K : LK ι c9) {L : Ls}  : Ct y_Mo_findDoubled (Cond.code y_Mo_findDoubled b_Mo_findDoubled 5 none :: tb_) { frames := 1, cells := 0, slots := 0, locals := 25 } [sR 10 0 0] ν (setL ι L) ρ ℓ (pEq none ν (setL ι ((sq ι 12 47 c9).foldl (dbS ι c9) L)) ρ ℓ) (noX) := by
  refine Ct.ofV (by decide) (Nat.le_of_ble_eq_true rfl) rfl ?_
  intro p l e s m args below meth c D B tW α0 Q C hQ
  have h12 := K.c12
  have outer : ∀ (f : Nat) (k9 : Nat) (L1 : Ls), c9 - k9 < f → (k9 ≤ c9) → (L1 = (sq ι 12 47 k9).foldl (dbS ι c9) L) → V p l e { frames := 1, cells := 0, slots := 0, locals := 25 } s m args below meth c D B α0 ν 5 Q 0 0 ν (setL ι L1) ρ ℓ 2 [(1, sI (nI k9)), (0, sR 10 0 0)] [] := by
    intro f
    induction f with
    | zero => intros; omega
    | succ f ih =>
      intro k9 L1 hf hk0 hpre0
      refine V_iload_n C d_Mo_findDoubled_2 rfl ?_
      refine V_aload_n C d_Mo_findDoubled_3 rfl ?_
      refine V_getI (kx := 18) C d_Mo_findDoubled_4 cf_Mo (by decide) k_Mo_144 hM.al rfl ?_
      refine V_eqi (y := nI c9) K.c18 ?_
      refine V_icmp_ge (tgt := 83) C d_Mo_findDoubled_7 (by decide) (fun h7 => ?_) (fun h7 => ?_)
      · have hk : k9 = c9 := by have := (nI_leI (a := c9) (b := k9) (by omega) (by omega)).mp h7; omega
        subst hk
        refine V_vret C hQ (by decide) (by decide) d_Mo_findDoubled_83 rfl ?_
        exact ⟨rfl, rfl, congrArg (setL ι) hpre0.symm, rfl, rfl⟩
      · have hk : k9 < c9 := Nat.lt_of_not_le fun z => h7 ((nI_leI (by omega) (by omega)).mpr z)
        have ho := K.b59.le (t := k9) (by omega)
        have hnn := K.b47.le (t := mn ι 59 k9) (by omega)
        have inner : ∀ (f : Nat) (i : Nat) (L1 : Ls), mn ι 47 (mn ι 59 k9) - i < f → (i ≤ mn ι 47 (mn ι 59 k9)) → (L1 = (sqP ι 12 47 k9 i).foldl (dbS ι c9) L) → V p l e { frames := 1, cells := 0, slots := 0, locals := 25 } s m args below meth c D B α0 ν 5 Q 0 0 ν (setL ι L1) ρ ℓ 19 [(3, sI (nI i)), (2, sI (nI (mn ι 59 k9))), (1, sI (nI k9)), (0, sR 10 0 0)] [] := by
          intro f
          induction f with
          | zero => intros; omega
          | succ f ih2 =>
                  intro i L1 hf2 hi0 hpre
                  refine V_iload_n C d_Mo_findDoubled_19 rfl ?_
                  refine V_aload_n C d_Mo_findDoubled_20 rfl ?_
                  refine V_getR (kx := 7) C d_Mo_findDoubled_21 cf_Mo (by decide) k_Mo_25 hM.al rfl hM.r7 ?_
                  refine V_iload_n C d_Mo_findDoubled_24 rfl ?_
                  refine V_iald C d_Mo_findDoubled_25 (by decide) rfl hM.n7 rfl (by omega) rfl ?_
                  refine V_eqi (y := nI (mn ι 47 (mn ι 59 k9))) (K.b47.eq (t := mn ι 59 k9) (by omega)) ?_
                  refine V_icmp_ge (tgt := 77) C d_Mo_findDoubled_26 (by decide) (fun h26 => ?_) (fun h26 => ?_)
                  · have hi : i = mn ι 47 (mn ι 59 k9) := by have := (nI_leI (by omega) (by omega)).mp h26; omega
                    refine V_iinc (v := nI (k9 + 1)) (lv' := [(1, _), (3, _), (2, _), (0, _)]) C d_Mo_findDoubled_77 rfl (nI_1 k9) (by decide) rfl ?_
                    refine V_goto (tgt := 2) C d_Mo_findDoubled_80 (by decide) ?_
                    refine V_pick [0, 3] rfl ?_
                    exact ih (k9 + 1) _ (by omega) (by omega) (by rw [sq_s, ← hi]; exact hpre)
                  · have hi : i < mn ι 47 (mn ι 59 k9) := Nat.lt_of_not_le fun z => h26 ((nI_leI (by omega) (by omega)).mpr (by omega))
                    refine V_bipush (v := 12) C d_Mo_findDoubled_29 (by decide) ?_
                    refine V_iload_n C d_Mo_findDoubled_31 rfl ?_
                    refine V_imul C d_Mo_findDoubled_32 ?_
                    refine V_iload_n C d_Mo_findDoubled_33 rfl ?_
                    refine V_iadd C d_Mo_findDoubled_34 ?_
                    refine V_eqi (ixa 12 (mn ι 59 k9) i) ?_
                    refine V_istore (lv' := [(4, _), (3, _), (2, _), (1, _), (0, _)]) C d_Mo_findDoubled_35 (by decide) rfl ?_
                    refine V_aload_n C d_Mo_findDoubled_37 rfl ?_
                    refine V_getR (kx := 9) C d_Mo_findDoubled_38 cf_Mo (by decide) k_Mo_31 hM.al rfl hM.r9 ?_
                    refine V_iload C d_Mo_findDoubled_41 rfl ?_
                    refine V_iald C d_Mo_findDoubled_43 (by decide) rfl hM.n9 rfl (by omega) rfl ?_
                    refine V_if_ne (tgt := 71) C d_Mo_findDoubled_44 (by decide) (fun h44 => ?_) (fun h44 => ?_)
                    · have hst : dbS ι c9 L1 (12 * mn ι 59 k9 + i) = L1 := if_neg (fun z => h44 z.1)
                      refine V_iinc (v := nI (i + 1)) (lv' := [(3, _), (4, _), (2, _), (1, _), (0, _)]) C d_Mo_findDoubled_71 rfl (nI_1 _) (by decide) rfl ?_
                      refine V_goto (tgt := 19) C d_Mo_findDoubled_74 (by decide) ?_
                      refine V_pick [0, 2, 3, 4] rfl ?_
                      exact ih2 (i + 1) _ (by omega) (by omega) (by rw [sqP_s, fold_g, ← hpre]; exact hst.symm)
                    · refine V_aload_n C d_Mo_findDoubled_47 rfl ?_
                      refine V_aload_n C d_Mo_findDoubled_48 rfl ?_
                      refine V_getR (kx := 8) C d_Mo_findDoubled_49 cf_Mo (by decide) k_Mo_28 hM.al rfl hM.r8 ?_
                      refine V_iload C d_Mo_findDoubled_52 rfl ?_
                      refine V_iald C d_Mo_findDoubled_54 (by decide) rfl hM.n8 rfl (by omega) rfl ?_
                      refine V_iconst (v := 0) C d_Mo_findDoubled_55 (by decide) ?_
                      refine V_callV (as := [_, _]) C d_Mo_findDoubled_56 (k_firstOf hM K) m_Mo_firstOf cf_Mo k_Mo_147 hM.al ⟨by decide, by decide⟩ (Nat.le_of_ble_eq_true rfl) ⟨by decide, by decide⟩ rfl ?_
                      rintro _ _ _ _ _ ⟨rfl, rfl, rfl, rfl, rfl⟩
                      dsimp only [Option.toList, List.cons_append, List.nil_append]
                      refine V_iload C d_Mo_findDoubled_59 rfl ?_
                      refine V_icmp_eq (tgt := 71) C d_Mo_findDoubled_61 (by decide) (fun h61 => ?_) (fun h61 => ?_)
                      · have hst : dbS ι c9 L1 (12 * mn ι 59 k9 + i) = L1 := if_neg (fun z => z.2 h61)
                        refine V_iinc (v := nI (i + 1)) (lv' := [(3, _), (4, _), (2, _), (1, _), (0, _)]) C d_Mo_findDoubled_71 rfl (nI_1 _) (by decide) rfl ?_
                        refine V_goto (tgt := 19) C d_Mo_findDoubled_74 (by decide) ?_
                        refine V_pick [0, 2, 3, 4] rfl ?_
                        exact ih2 (i + 1) _ (by omega) (by omega) (by rw [sqP_s, fold_g, ← hpre]; exact hst.symm)
                      · have hst : dbS ι c9 L1 (12 * mn ι 59 k9 + i) = tlL L1 1 (nI (mn ι 59 k9)) (nI i) := by unfold dbS; rw [if_pos ⟨h44, h61⟩, show (12 * mn ι 59 k9 + i) / 12 = mn ι 59 k9 by omega, show (12 * mn ι 59 k9 + i) % 12 = i by omega]
                        refine V_aload_n C d_Mo_findDoubled_64 rfl ?_
                        refine V_iconst (v := 1) C d_Mo_findDoubled_65 (by decide) ?_
                        refine V_iload_n C d_Mo_findDoubled_66 rfl ?_
                        refine V_iload_n C d_Mo_findDoubled_67 rfl ?_
                        refine V_callV (as := [_, _, _]) C d_Mo_findDoubled_68 (k_tell hM K) m_Mo_tell cf_Mo k_Mo_157 hM.al ⟨by decide, by decide⟩ (Nat.le_of_ble_eq_true rfl) ⟨by decide, by decide⟩ rfl ?_
                        rintro _ _ _ _ _ ⟨rfl, rfl, rfl, rfl, rfl⟩
                        dsimp only [Option.toList, List.cons_append, List.nil_append]
                        refine V_iinc (v := nI (i + 1)) (lv' := [(3, _), (4, _), (2, _), (1, _), (0, _)]) C d_Mo_findDoubled_71 rfl (nI_1 _) (by decide) rfl ?_
                        refine V_goto (tgt := 19) C d_Mo_findDoubled_74 (by decide) ?_
                        refine V_pick [0, 2, 3, 4] rfl ?_
                        exact ih2 (i + 1) _ (by omega) (by omega) (by rw [sqP_s, fold_g, ← hpre]; exact hst.symm)
        refine V_aload_n C d_Mo_findDoubled_10 rfl ?_
        refine V_getR (kx := 19) C d_Mo_findDoubled_11 cf_Mo (by decide) k_Mo_58 hM.al rfl hM.r19 ?_
        refine V_iload_n C d_Mo_findDoubled_14 rfl ?_
        refine V_iald C d_Mo_findDoubled_15 (by decide) rfl hM.n19 rfl (by omega) rfl ?_
        refine V_eqi (y := nI (mn ι 59 k9)) (K.b59.eq (t := k9) (by omega)) ?_
        refine V_istore_n (lv' := [(2, _), (1, _), (0, _)]) C d_Mo_findDoubled_16 (by decide) rfl ?_
        refine V_iconst (v := 0) C d_Mo_findDoubled_17 (by decide) ?_
        refine V_istore_n (lv' := [(3, _), (2, _), (1, _), (0, _)]) C d_Mo_findDoubled_18 (by decide) rfl ?_
        refine V_pick [0, 1, 2, 3] rfl ?_
        exact inner (mn ι 47 (mn ι 59 k9) + 1) 0 _ (by omega) (by omega) (by rw [sqP_0]; exact hpre0)
  refine V_iconst (v := 0) C d_Mo_findDoubled_0 (by decide) ?_
  refine V_istore_n (lv' := [(1, _), (0, _)]) C d_Mo_findDoubled_1 (by decide) rfl ?_
  refine V_pick [0, 1] rfl ?_
  exact outer (c9 + 1) 0 L (by omega) (by omega) rfl
