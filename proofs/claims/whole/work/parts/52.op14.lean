set_option maxHeartbeats 1000000 in
set_option maxRecDepth 10000 in
theorem c_Re_init {ν : Nu} {ι : Io} {ρ : Ro} {ℓ : Lo} {g : Nat} (hal : ν 5 g 0 ≠ none) {n : Int32} : Ct y_Re_init (Cond.code y_Re_init b_Re_init 3 none :: tb_) { frames := 1, cells := 0, slots := 0, locals := 40 } [sR 5 g 0, sR 25 0 0, sI n] ν ι ρ ℓ (pEq none ν (up4 ι 5 g 0 1 n) (up4 ρ 5 g 0 0 (some (25, 0, 0))) ℓ) (noX) := by
  refine Ct.ofV (by decide) (Nat.le_of_ble_eq_true rfl) rfl ?_
  intro p l e s m args below meth c D B tW α0 Q C hQ
  refine V_aload_n C d_Re_init_0 rfl ?_
  refine V_objI C d_Re_init_1 k_Re_3 k_obj (by decide) (Nat.le_of_ble_eq_true rfl) ?_
  refine V_aload_n C d_Re_init_4 rfl ?_
  refine V_aload_n C d_Re_init_5 rfl ?_
  refine V_putRF (kx := 0) C d_Re_init_6 cf_Re (by decide) k_Re_9 hal rfl rfl rfl rfl (fun _ => rfl) (fun _ => rfl) ?_
  refine V_aload_n C d_Re_init_9 rfl ?_
  refine V_iload_n C d_Re_init_10 rfl ?_
  refine V_putIF (kx := 1) C d_Re_init_11 cf_Re (by decide) k_Re_15 hal rfl rfl rfl rfl rfl rfl ?_
  refine V_vret C hQ (by decide) (by decide) d_Re_init_14 rfl ?_
  exact ⟨rfl, rfl, rfl, rfl, rfl⟩
set_option maxHeartbeats 1000000 in
set_option maxRecDepth 10000 in
theorem c_Re_take {ν : Nu} {ι : Io} {ρ : Ro} {ℓ : Lo} {g a w T : Nat} {b : Int32} {fb : Nat → Int32} (hR : RDR ν ι ρ g T a b) (hn25 : ν 25 0 0 = some 1303) (haT : a ≤ T) (hT : T + 2 ≤ 1303) (hw : w ≤ 4) (hf : ∀ k, k < T → ι 25 0 0 k = fb k) : Ct y_Re_take (Cond.code y_Re_take b_Re_take 4 (some .int) :: tb_) { frames := 0, cells := 0, slots := 0, locals := 0 } [sR 5 g 0, sI (nI w)] ν ι ρ ℓ (fun v ν1 ι1 ρ1 ℓ1 => ν = ν1 ∧ ρ = ρ1 ∧ ℓ = ℓ1 ∧ Rx g ι ι1 ∧ ∃ x, some (sI x) = v ∧ ((a + w ≤ T ∧ x = beV fb a w ∧ RDR ν ι1 ρ g T (a + w) b) ∨ (¬ a + w ≤ T ∧ RDR ν ι1 ρ g T a 1))) (noX) := by
  refine Ct.ofV (by decide) (Nat.le_of_ble_eq_true rfl) rfl ?_
  intro p l e s m args below meth c D B tW α0 Q C hQ
  by_cases hc : a + w ≤ T
  · skip
    have loop : ∀ (f : Nat) (i : Nat), w - i < f → (i ≤ w) → V p l e { frames := 0, cells := 0, slots := 0, locals := 0 } s m args below meth c D B α0 ν 4 Q 0 0 ν (up4 ι 5 g 0 2 (nI (a + i))) ρ ℓ 26 [(3, sI (nI i)), (2, sI (beV fb a i)), (0, sR 5 g 0), (1, sI (nI w))] [] := by
      intro f
      induction f with
      | zero => intros; omega
      | succ f ih =>
        intro i hf9 hi0
        refine V_iload_n C d_Re_take_26 rfl ?_
        refine V_iload_n C d_Re_take_27 rfl ?_
        refine V_icmp_ge (tgt := 62) C d_Re_take_28 (by decide) (fun h28 => ?_) (fun h28 => ?_)
        · have hi : i = w := by have := (nI_leI (a := w) (b := i) (by omega) (by omega)).mp h28; omega
          subst hi
          refine V_iload_n C d_Re_take_62 rfl ?_
          refine V_iret C hQ (by decide) (by decide) d_Re_take_63 rfl ?_
          refine ⟨rfl, rfl, rfl, Rx.rf.up, _, rfl, Or.inl ⟨hc, rfl, hR.1, hR.2.1, ?_, up4_s, ?_⟩⟩
          · rw [up4_ne (by omega)]; exact hR.2.2.1
          · rw [up4_ne (by omega)]; exact hR.2.2.2.2
        · have hi : i < w := Nat.lt_of_not_le fun z => h28 ((nI_leI (by omega) (by omega)).mpr z)
          refine V_iload_n C d_Re_take_31 rfl ?_
          refine V_bipush (v := 8) C d_Re_take_32 (by decide) ?_
          refine V_ishl C d_Re_take_34 ?_
          refine V_aload_n C d_Re_take_35 rfl ?_
          refine V_getR (kx := 0) C d_Re_take_36 cf_Re (by decide) k_Re_9 (nn hR.1) rfl hR.2.1 ?_
          refine V_aload_n C d_Re_take_39 rfl ?_
          refine V_getI (kx := 2) C d_Re_take_40 cf_Re (by decide) k_Re_40 (nn hR.1) rfl ?_
          refine V_iald C d_Re_take_43 (by decide) rfl hn25 up4_s (by omega) rfl ?_
          refine V_eqi (y := fb (a + i)) (hf (a + i) (by omega)) ?_
          refine V_ior C d_Re_take_44 ?_
          refine V_istore_n (lv' := [(2, _), (3, _), (0, _), (1, _)]) C d_Re_take_45 (by decide) rfl ?_
          refine V_aload_n C d_Re_take_46 rfl ?_
          refine V_dup C d_Re_take_47 rfl ?_
          refine V_getI (kx := 2) C d_Re_take_48 cf_Re (by decide) k_Re_40 (nn hR.1) rfl ?_
          refine V_eqi (y := nI (a + i)) up4_s ?_
          refine V_iconst (v := 1) C d_Re_take_51 (by decide) ?_
          refine V_iadd C d_Re_take_52 ?_
          refine V_eqi (y := nI (a + i + 1)) (nI_1 (a + i)) ?_
          refine V_putI (kx := 2) C d_Re_take_53 cf_Re (by decide) k_Re_40 (nn hR.1) rfl rfl rfl rfl ?_
          refine V_iinc (v := nI (i + 1)) (lv' := [(3, _), (2, _), (0, _), (1, _)]) C d_Re_take_56 rfl (nI_1 i) (by decide) rfl ?_
          refine V_goto (tgt := 26) C d_Re_take_59 (by decide) ?_
          refine V_pick [0, 1, 2, 3] rfl ?_
          rw [up4_up4]
          exact ih (i + 1) (by omega) (by omega)
    refine V_iload_n C d_Re_take_0 rfl ?_
    refine V_aload_n C d_Re_take_1 rfl ?_
    refine V_getI (kx := 1) C d_Re_take_2 cf_Re (by decide) k_Re_15 (nn hR.1) rfl ?_
    refine V_eqi (y := nI (T + 2)) hR.2.2.1 ?_
    refine V_iconst (v := 2) C d_Re_take_5 (by decide) ?_
    refine V_isub C d_Re_take_6 ?_
    refine V_eqi (y := nI T) ((pk_sub (a := T + 2) (b := 2) (by omega)).trans (congrArg nI (by omega))) ?_
    refine V_aload_n C d_Re_take_7 rfl ?_
    refine V_getI (kx := 2) C d_Re_take_8 cf_Re (by decide) k_Re_40 (nn hR.1) rfl ?_
    refine V_eqi (y := nI a) hR.2.2.2.1 ?_
    refine V_isub C d_Re_take_11 ?_
    refine V_eqi (y := nI (T - a)) (pk_sub (by omega)) ?_
    refine V_icmp_le (tgt := 22) C d_Re_take_12 (by decide) (fun h12 => ?_) (fun h12 => absurd ((nI_leI (a := w) (b := T - a) (by omega) (by omega)).mpr (by omega)) h12)
    refine V_iconst (v := 0) C d_Re_take_22 (by decide) ?_
    refine V_istore_n (lv' := [(2, _), (0, _), (1, _)]) C d_Re_take_23 (by decide) rfl ?_
    refine V_iconst (v := 0) C d_Re_take_24 (by decide) ?_
    refine V_istore_n (lv' := [(3, _), (2, _), (0, _), (1, _)]) C d_Re_take_25 (by decide) rfl ?_
    refine V_pick [0, 1, 2, 3] rfl ?_
    refine V_io (show ι = up4 ι 5 g 0 2 (nI (a + 0)) from (up4_id hR.2.2.2.1).symm) ?_
    exact loop (w + 1) 0 (by omega) (by omega)
  · skip
    refine V_iload_n C d_Re_take_0 rfl ?_
    refine V_aload_n C d_Re_take_1 rfl ?_
    refine V_getI (kx := 1) C d_Re_take_2 cf_Re (by decide) k_Re_15 (nn hR.1) rfl ?_
    refine V_eqi (y := nI (T + 2)) hR.2.2.1 ?_
    refine V_iconst (v := 2) C d_Re_take_5 (by decide) ?_
    refine V_isub C d_Re_take_6 ?_
    refine V_eqi (y := nI T) ((pk_sub (a := T + 2) (b := 2) (by omega)).trans (congrArg nI (by omega))) ?_
    refine V_aload_n C d_Re_take_7 rfl ?_
    refine V_getI (kx := 2) C d_Re_take_8 cf_Re (by decide) k_Re_40 (nn hR.1) rfl ?_
    refine V_eqi (y := nI a) hR.2.2.2.1 ?_
    refine V_isub C d_Re_take_11 ?_
    refine V_eqi (y := nI (T - a)) (pk_sub (by omega)) ?_
    refine V_icmp_le (tgt := 22) C d_Re_take_12 (by decide) (fun h12 => absurd ((nI_leI (a := w) (b := T - a) (by omega) (by omega)).mp h12) (by omega)) (fun h12 => ?_)
    refine V_aload_n C d_Re_take_15 rfl ?_
    refine V_iconst (v := 1) C d_Re_take_16 (by decide) ?_
    refine V_putI (kx := 3) C d_Re_take_17 cf_Re (by decide) k_Re_49 (nn hR.1) rfl rfl rfl rfl ?_
    refine V_iconst (v := 0) C d_Re_take_20 (by decide) ?_
    refine V_iret C hQ (by decide) (by decide) d_Re_take_21 rfl ?_
    refine ⟨rfl, rfl, rfl, Rx.rf.up, 0, rfl, Or.inr ⟨hc, hR.1, hR.2.1, ?_, ?_, up4_s⟩⟩
    · rw [up4_ne (by omega)]; exact hR.2.2.1
    · rw [up4_ne (by omega)]; exact hR.2.2.2.1
section Vcs
variable {p : Program} {l : Launch} {e : Env} {R : Room} {s : State} {m : MethodId} {args : Array Value} {below : List Frame} {meth : Method} {c : Code} {D : GD} {B : Nat} {α0 : Ad} {ν0 : Nu} {nL : Nat} {Q : State → Prop} {c1 c2 s1 s2 : Nat} {ν : Nu} {ι : Io} {ρ : Ro} {ℓ : Lo} {pc : Nat} {lv : List (Nat × SV)} {st : List SV}
theorem V_cs (h1 : c1 = c2) (h2 : s1 = s2) (k : V p l e R s m args below meth c D B α0 ν0 nL Q c2 s2 ν ι ρ ℓ pc lv st) : V p l e R s m args below meth c D B α0 ν0 nL Q c1 s1 ν ι ρ ℓ pc lv st := by
  subst h1
  subst h2
  exact k
end Vcs
theorem so_s9 {fb : Nat → Int32} {i : Nat} : so fb (i + 1) = so fb i + 4 + (if sK fb i = 3 then 0 else cl (sZ fb i)) := rfl
theorem up4_p {β : Type} {f : Nat → Nat → Nat → Nat → β} {r i j k : Nat} {x : β} : up4 f r i j k x r i j k = x := up4_s
set_option maxHeartbeats 1000000 in
set_option maxRecDepth 10000 in
theorem c_Re_takeSections {ν : Nu} {ι : Io} {ρ : Ro} {ℓ : Lo} {o g T m9 : Nat} {fb : Nat → Int32} (hR : RDR ν ι ρ g T 5 0) (hU : UI ν ι ρ o 0 0 0) (hn25 : ν 25 0 0 = some 1303) (h5 : 5 ≤ T) (hT : T + 2 ≤ 1303) (hm : m9 ≤ 8) (hf : ∀ k, k < T → ι 25 0 0 k = fb k) : Ct y_Re_takeSections (Cond.code y_Re_takeSections b_Re_takeSections 9 (some .boolean) :: tb_) { frames := 2, cells := 16, slots := 1056, locals := 63 } [sR 5 g 0, sR 8 o 0, sI (nI m9)] ν ι ρ ℓ (fun v ν1 ι1 ρ1 ℓ1 => ℓ = ℓ1 ∧ RFr o g ν ν1 ι ι1 ρ ρ1 ∧ ∃ b : Bool, some (sI (b2 (b = true))) = v ∧ (b = true → (∀ j, j < m9 → OKs fb T j) ∧ UI ν1 ι1 ρ1 o m9 0 0 ∧ CSo ι1 o fb m9 ∧ RDR ν1 ι1 ρ1 g T (so fb m9) 0 ∧ so fb m9 ≤ T) ∧ (b = false → ¬ ∀ j, j < m9 → OKs fb T j)) (noX) := by
  refine Ct.ofV (by decide) (Nat.le_of_ble_eq_true rfl) rfl ?_
  intro p l e s m args below meth c D B tW α0 Q C hQ
  have bad : ∀ (i : Nat) (ν1 : Nu) (ι1 : Io) (ρ1 : Ro) (a0 : Nat), i ≤ m9 → RFr o g ν ν1 ι ι1 ρ ρ1 → RDR ν1 ι1 ρ1 g T a0 1 → a0 ≤ T → (¬ ∀ j, j < m9 → OKs fb T j) → V p l e { frames := 2, cells := 16, slots := 1056, locals := 63 } s m args below meth c D B α0 ν 9 Q (2 * i) (132 * i) ν1 ι1 ρ1 ℓ 2 [(3, sI (nI i)), (0, sR 5 g 0), (1, sR 8 o 0), (2, sI (nI m9))] [] := by
    intro i ν1 ι1 ρ1 a0 hi0 hF1 hR0 hl0 hnot
    have hn1 : ν1 25 0 0 = some 1303 := (hF1.1 25 0 0 (by unfold isG isC; omega)).trans hn25
    have hrow : ∀ k, k < T → ι1 25 0 0 k = fb k := fun k hk => (hF1.2.1 25 0 0 k (by unfold isG isC; omega)).trans (hf k hk)
    refine V_iload_n C d_Re_takeSections_2 rfl ?_
    refine V_iload_n C d_Re_takeSections_3 rfl ?_
    refine V_icmp_ge (tgt := 110) C d_Re_takeSections_4 (by decide) (fun h4 => ?_) (fun h4 => ?_)
    · skip
      refine V_aload_n C d_Re_takeSections_110 rfl ?_
      refine V_getI (kx := 3) C d_Re_takeSections_111 cf_Re (by decide) k_Re_49 (nn hR0.1) rfl ?_
      refine V_eqi (y := 1) hR0.2.2.2.2 ?_
      refine V_if_ne (tgt := 121) C d_Re_takeSections_114 (by decide) (fun h114 => ?_) (fun h114 => absurd h114 (by decide))
      refine V_iconst (v := 0) C d_Re_takeSections_121 (by decide) ?_
      refine V_zret C hQ (by first | rfl | ((try dsimp only); omega)) (by first | rfl | ((try dsimp only); omega)) d_Re_takeSections_122 rfl rfl ?_
      exact ⟨rfl, hF1, false, rfl, (fun z => nomatch z), fun _ => hnot⟩
    · skip
      refine V_aload_n C d_Re_takeSections_7 rfl ?_
      refine V_iconst (v := 1) C d_Re_takeSections_8 (by decide) ?_
      refine V_callV (as := [_]) C d_Re_takeSections_9 (c_Re_take (a := a0) (w := 1) (T := T) (fb := fb) hR0 hn1 hl0 hT (by omega) hrow) m_Re_take cf_Re k_Re_19 (nn hR0.1) ⟨by decide, by decide⟩ (Nat.le_of_ble_eq_true rfl) ⟨by first | rfl | ((try dsimp only); omega), by first | rfl | ((try dsimp only); omega)⟩ rfl ?_
      rintro _ _ ι11 _ _ ⟨rfl, rfl, rfl, hx1, x1, rfl, hd1⟩
      have hrow : ∀ k, k < T → ι11 25 0 0 k = fb k := fun k hk => (hx1 25 0 0 k (by omega)).trans (hrow k hk)
      obtain ⟨a1, hR1, hl1⟩ : ∃ a9, RDR ν1 ι11 ρ1 g T a9 1 ∧ a9 ≤ T := by
        rcases hd1 with ⟨q1, q2, q3⟩ | ⟨q1, q3⟩
        · exact ⟨_, q3, by omega⟩
        · exact ⟨_, q3, hl0⟩
      dsimp only [Option.toList, List.cons_append, List.nil_append]
      refine V_istore (lv' := [(4, _), (3, _), (0, _), (1, _), (2, _)]) C d_Re_takeSections_12 (by decide) rfl ?_
      refine V_aload_n C d_Re_takeSections_14 rfl ?_
      refine V_iconst (v := 1) C d_Re_takeSections_15 (by decide) ?_
      refine V_callV (as := [_]) C d_Re_takeSections_16 (c_Re_take (a := a1) (w := 1) (T := T) (fb := fb) hR1 hn1 hl1 hT (by omega) hrow) m_Re_take cf_Re k_Re_19 (nn hR1.1) ⟨by decide, by decide⟩ (Nat.le_of_ble_eq_true rfl) ⟨by first | rfl | ((try dsimp only); omega), by first | rfl | ((try dsimp only); omega)⟩ rfl ?_
      rintro _ _ ι12 _ _ ⟨rfl, rfl, rfl, hx2, x2, rfl, hd2⟩
      have hrow : ∀ k, k < T → ι12 25 0 0 k = fb k := fun k hk => (hx2 25 0 0 k (by omega)).trans (hrow k hk)
      obtain ⟨a2, hR2, hl2⟩ : ∃ a9, RDR ν1 ι12 ρ1 g T a9 1 ∧ a9 ≤ T := by
        rcases hd2 with ⟨q1, q2, q3⟩ | ⟨q1, q3⟩
        · exact ⟨_, q3, by omega⟩
        · exact ⟨_, q3, hl1⟩
      dsimp only [Option.toList, List.cons_append, List.nil_append]
      refine V_istore (lv' := [(5, _), (4, _), (3, _), (0, _), (1, _), (2, _)]) C d_Re_takeSections_19 (by decide) rfl ?_
      refine V_aload_n C d_Re_takeSections_21 rfl ?_
      refine V_iconst (v := 2) C d_Re_takeSections_22 (by decide) ?_
      refine V_callV (as := [_]) C d_Re_takeSections_23 (c_Re_take (a := a2) (w := 2) (T := T) (fb := fb) hR2 hn1 hl2 hT (by omega) hrow) m_Re_take cf_Re k_Re_19 (nn hR2.1) ⟨by decide, by decide⟩ (Nat.le_of_ble_eq_true rfl) ⟨by first | rfl | ((try dsimp only); omega), by first | rfl | ((try dsimp only); omega)⟩ rfl ?_
      rintro _ _ ι13 _ _ ⟨rfl, rfl, rfl, hx3, x3, rfl, hd3⟩
      have hrow : ∀ k, k < T → ι13 25 0 0 k = fb k := fun k hk => (hx3 25 0 0 k (by omega)).trans (hrow k hk)
      obtain ⟨a3, hR3, hl3⟩ : ∃ a9, RDR ν1 ι13 ρ1 g T a9 1 ∧ a9 ≤ T := by
        rcases hd3 with ⟨q1, q2, q3⟩ | ⟨q1, q3⟩
        · exact ⟨_, q3, by omega⟩
        · exact ⟨_, q3, hl2⟩
      dsimp only [Option.toList, List.cons_append, List.nil_append]
      refine V_istore (lv' := [(6, _), (5, _), (4, _), (3, _), (0, _), (1, _), (2, _)]) C d_Re_takeSections_26 (by decide) rfl ?_
      refine V_aload_n C d_Re_takeSections_28 rfl ?_
      refine V_getI (kx := 3) C d_Re_takeSections_29 cf_Re (by decide) k_Re_49 (nn hR3.1) rfl ?_
      refine V_eqi (y := 1) hR3.2.2.2.2 ?_
      refine V_if_ne (tgt := 47) C d_Re_takeSections_32 (by decide) (fun h32 => ?_) (fun h32 => absurd h32 (by decide))
      refine V_iconst (v := 0) C d_Re_takeSections_47 (by decide) ?_
      refine V_zret C hQ (by first | rfl | ((try dsimp only); omega)) (by first | rfl | ((try dsimp only); omega)) d_Re_takeSections_48 rfl rfl ?_
      exact ⟨rfl, ((hF1.x hx1).x hx2).x hx3, false, rfl, (fun z => nomatch z), fun _ => hnot⟩
  have loop : ∀ (f : Nat) (i : Nat) (ν1 : Nu) (ι1 : Io) (ρ1 : Ro), m9 - i < f → i ≤ m9 → RFr o g ν ν1 ι ι1 ρ ρ1 → UI ν1 ι1 ρ1 o i 0 0 → RDR ν1 ι1 ρ1 g T (so fb i) 0 → so fb i ≤ T → CSo ι1 o fb i → (∀ j, j < i → OKs fb T j) → V p l e { frames := 2, cells := 16, slots := 1056, locals := 63 } s m args below meth c D B α0 ν 9 Q (2 * i) (132 * i) ν1 ι1 ρ1 ℓ 2 [(3, sI (nI i)), (0, sR 5 g 0), (1, sR 8 o 0), (2, sI (nI m9))] [] := by
    intro f
    induction f with
    | zero => intros; omega
    | succ f ih =>
      intro i ν1 ι1 ρ1 hf9 hi0 hF1 hU1 hR0 hso hS1 hok1
      have hn1 : ν1 25 0 0 = some 1303 := (hF1.1 25 0 0 (by unfold isG isC; omega)).trans hn25
      have hrow : ∀ k, k < T → ι1 25 0 0 k = fb k := fun k hk => (hF1.2.1 25 0 0 k (by unfold isG isC; omega)).trans (hf k hk)
      rcases Nat.lt_or_ge i m9 with him | him
      · by_cases h4b : so fb i + 4 ≤ T
        · by_cases hsc : isSc (sK fb i) (sP fb i) (sZ fb i)
          · obtain ⟨n, hn, hz⟩ := rgN (M := 128) (by decide) hsc.2.2
            by_cases hdf : so fb (i + 1) ≤ T
            · have hso9 : so fb i + 4 + (if sK fb i = 3 then 0 else n) ≤ T := by rw [so_s9, show cl (sZ fb i) = n by rw [hz]; exact nI_clamp (by omega)] at hdf; exact hdf
              refine V_iload_n C d_Re_takeSections_2 rfl ?_
              refine V_iload_n C d_Re_takeSections_3 rfl ?_
              refine V_icmp_ge (tgt := 110) C d_Re_takeSections_4 (by decide) (fun h4 => absurd ((nI_leI (a := m9) (b := i) (by omega) (by omega)).mp h4) (by omega)) (fun h4 => ?_)
              refine V_aload_n C d_Re_takeSections_7 rfl ?_
              refine V_iconst (v := 1) C d_Re_takeSections_8 (by decide) ?_
              refine V_callV (as := [_]) C d_Re_takeSections_9 (c_Re_take (a := (so fb i)) (w := 1) (T := T) (fb := fb) hR0 hn1 (by omega) hT (by omega) hrow) m_Re_take cf_Re k_Re_19 (nn hR0.1) ⟨by decide, by decide⟩ (Nat.le_of_ble_eq_true rfl) ⟨by first | rfl | ((try dsimp only); omega), by first | rfl | ((try dsimp only); omega)⟩ rfl ?_
              rintro _ _ ι11 _ _ ⟨rfl, rfl, rfl, hx1, x1, rfl, hd1⟩
              have hrow : ∀ k, k < T → ι11 25 0 0 k = fb k := fun k hk => (hx1 25 0 0 k (by omega)).trans (hrow k hk)
              obtain ⟨_, hv1, hR1⟩ := hd1.resolve_right (fun z => z.1 (by omega))
              subst hv1
              dsimp only [Option.toList, List.cons_append, List.nil_append]
              refine V_istore (lv' := [(4, _), (3, _), (0, _), (1, _), (2, _)]) C d_Re_takeSections_12 (by decide) rfl ?_
              refine V_aload_n C d_Re_takeSections_14 rfl ?_
              refine V_iconst (v := 1) C d_Re_takeSections_15 (by decide) ?_
              refine V_callV (as := [_]) C d_Re_takeSections_16 (c_Re_take (a := (so fb i + 1)) (w := 1) (T := T) (fb := fb) hR1 hn1 (by omega) hT (by omega) hrow) m_Re_take cf_Re k_Re_19 (nn hR1.1) ⟨by decide, by decide⟩ (Nat.le_of_ble_eq_true rfl) ⟨by first | rfl | ((try dsimp only); omega), by first | rfl | ((try dsimp only); omega)⟩ rfl ?_
              rintro _ _ ι12 _ _ ⟨rfl, rfl, rfl, hx2, x2, rfl, hd2⟩
              have hrow : ∀ k, k < T → ι12 25 0 0 k = fb k := fun k hk => (hx2 25 0 0 k (by omega)).trans (hrow k hk)
              obtain ⟨_, hv2, hR2⟩ := hd2.resolve_right (fun z => z.1 (by omega))
              subst hv2
              dsimp only [Option.toList, List.cons_append, List.nil_append]
              refine V_istore (lv' := [(5, _), (4, _), (3, _), (0, _), (1, _), (2, _)]) C d_Re_takeSections_19 (by decide) rfl ?_
              refine V_aload_n C d_Re_takeSections_21 rfl ?_
              refine V_iconst (v := 2) C d_Re_takeSections_22 (by decide) ?_
              refine V_callV (as := [_]) C d_Re_takeSections_23 (c_Re_take (a := (so fb i + 2)) (w := 2) (T := T) (fb := fb) hR2 hn1 (by omega) hT (by omega) hrow) m_Re_take cf_Re k_Re_19 (nn hR2.1) ⟨by decide, by decide⟩ (Nat.le_of_ble_eq_true rfl) ⟨by first | rfl | ((try dsimp only); omega), by first | rfl | ((try dsimp only); omega)⟩ rfl ?_
              rintro _ _ ι13 _ _ ⟨rfl, rfl, rfl, hx3, x3, rfl, hd3⟩
              have hrow : ∀ k, k < T → ι13 25 0 0 k = fb k := fun k hk => (hx3 25 0 0 k (by omega)).trans (hrow k hk)
              obtain ⟨_, hv3, hR3⟩ := hd3.resolve_right (fun z => z.1 (by omega))
              subst hv3
              dsimp only [Option.toList, List.cons_append, List.nil_append]
              refine V_istore (lv' := [(6, _), (5, _), (4, _), (3, _), (0, _), (1, _), (2, _)]) C d_Re_takeSections_26 (by decide) rfl ?_
              refine V_aload_n C d_Re_takeSections_28 rfl ?_
              refine V_getI (kx := 3) C d_Re_takeSections_29 cf_Re (by decide) k_Re_49 (nn hR3.1) rfl ?_
              refine V_eqi (y := 0) hR3.2.2.2.2 ?_
              refine V_if_ne (tgt := 47) C d_Re_takeSections_32 (by decide) (fun h32 => absurd rfl h32) (fun h32 => ?_)
              refine V_iload C d_Re_takeSections_35 rfl ?_
              refine V_iload C d_Re_takeSections_37 rfl ?_
              refine V_iload C d_Re_takeSections_39 rfl ?_
              refine V_callS (as := [_, _, _]) C d_Re_takeSections_41 c_Se_canBe m_Se_canBe k_Re_53 ⟨by decide, by decide⟩ (Nat.le_of_ble_eq_true rfl) ⟨by first | rfl | ((try dsimp only); omega), by first | rfl | ((try dsimp only); omega)⟩ rfl ?_
              rintro _ _ _ _ _ ⟨rfl, rfl, rfl, rfl, rfl⟩
              dsimp only [Option.toList, List.cons_append, List.nil_append]
              refine V_if_ne (tgt := 49) C d_Re_takeSections_44 (by decide) (fun h44 => ?_) (fun h44 => absurd hsc (b2_0.mp h44))
              refine V_new (i := o) (j := i) C d_Re_takeSections_49 cf_Se k_Re_54 (hU1.fs (Nat.le_refl i)).1 (fun k hk => ?_) (by first | rfl | ((try dsimp only); omega)) (by first | rfl | ((try dsimp only); omega)) ?_
              · rcases (show k = 0 ∨ k = 1 ∨ k = 2 ∨ k = 3 by omega) with rfl | rfl | rfl | rfl <;> first | exact Or.inl ⟨rfl, rfl⟩ | exact Or.inr ⟨rfl, rfl⟩
              refine V_dup C d_Re_takeSections_52 rfl ?_
              refine V_iload C d_Re_takeSections_53 rfl ?_
              refine V_iload C d_Re_takeSections_55 rfl ?_
              refine V_iload C d_Re_takeSections_57 rfl ?_
              refine V_eqi (y := nI n) hz ?_
              refine V_callI (as := [_, _, _]) C d_Re_takeSections_59 (c_Se_init (ν := up3 ν1 7 o i (some 4)) (o := o) (s9 := i) (n := n) (nn up3_s) (hU1.fs (Nat.le_refl i)).2 hn) m_Se_init k_Re_59 ⟨by decide, by decide⟩ (Nat.le_of_ble_eq_true rfl) ⟨by first | rfl | ((try dsimp only); omega), by first | rfl | ((try dsimp only); omega)⟩ rfl ?_
              rintro _ _ _ _ _ ⟨rfl, rfl, rfl, rfl, rfl⟩
              dsimp only [Option.toList, List.cons_append, List.nil_append]
              refine V_astore (lv' := [(7, _), (6, _), (5, _), (4, _), (3, _), (0, _), (1, _), (2, _)]) C d_Re_takeSections_62 (by decide) rfl ?_
              refine V_iconst (v := 0) C d_Re_takeSections_64 (by decide) ?_
              refine V_istore (lv' := [(8, _), (7, _), (6, _), (5, _), (4, _), (3, _), (0, _), (1, _), (2, _)]) C d_Re_takeSections_65 (by decide) rfl ?_
              refine V_pick [0, 1, 5, 6, 7, 8] rfl ?_
              have hxx : Rx g ι1 ι13 := (hx1.tr hx2).tr hx3
              refine V_cs (c2 := 2 * i + 2) (s2 := 132 * i + 132) (by first | rfl | ((try dsimp only); omega)) (by first | rfl | ((try dsimp only); omega)) ?_
              have good : ∀ (fd : Nat) (k : Nat) (ιd : Io), (if sK fb i = 3 then 0 else n) - k < fd → k ≤ (if sK fb i = 3 then 0 else n) → (∀ r a b k9, ¬ (r = 24 ∧ a = o ∧ b = i) → ¬ (r = 5 ∧ a = g ∧ b = 0) → ιd r a b k9 = (upA (up4 (up4 (up4 (upA ι13 7 o i (fun _ => 0)) 7 o i 0 (sK fb i)) 7 o i 1 (sP fb i)) 7 o i 2 (nI n)) 24 o i (fun _ => 0)) r a b k9) → RDR (up3 (up3 ν1 7 o i (some 4)) 24 o i (some (if sK fb i = 3 then 0 else n))) ιd (up4 (upA ρ1 7 o i (fun _ => none)) 7 o i 3 (some (24, o, i))) g T (so fb i + 4 + k) 0 → (∀ k9, k9 < k → ιd 24 o i k9 = sD fb i k9) → V p l e { frames := 2, cells := 16, slots := 1056, locals := 63 } s m args below meth c D B α0 ν 9 Q (2 * i + 2) (132 * i + 132) (up3 (up3 ν1 7 o i (some 4)) 24 o i (some (if sK fb i = 3 then 0 else n))) ιd (up4 (upA ρ1 7 o i (fun _ => none)) 7 o i 3 (some (24, o, i))) ℓ 67 [(8, sI (nI k)), (7, sR 7 o i), (3, sI (nI i)), (0, sR 5 g 0), (1, sR 8 o 0), (2, sI (nI m9))] [] := by
                intro fd
                induction fd with
                | zero => intros; omega
                | succ fd ihd =>
                  intro k ιd hfd hk0 hd hRd hby
                  have hn2 : (up3 (up3 ν1 7 o i (some 4)) 24 o i (some (if sK fb i = 3 then 0 else n))) 25 0 0 = some 1303 := hn1
                  have hrowd : ∀ k9, k9 < T → ιd 25 0 0 k9 = fb k9 := fun k9 hk9 => by rw [hd 25 0 0 k9 (by omega) (by omega)]; simp (disch := omega) only [up4_ne, upA_ne]; exact hrow k9 hk9
                  have hN1 : (if sK fb i = 3 then 0 else n) ≤ 128 := by split <;> omega
                  refine V_iload C d_Re_takeSections_67 rfl ?_
                  refine V_aload C d_Re_takeSections_69 rfl ?_
                  refine V_getR (kx := 3) C d_Re_takeSections_71 cf_Se (by decide) k_Re_62 (by simp [up3]) rfl up4_s ?_
                  refine V_alen (ti := 0) C d_Re_takeSections_74 (by decide) (by decide) up3_s rfl ?_
                  refine V_icmp_ge (tgt := 97) C d_Re_takeSections_75 (by decide) (fun h75 => ?_) (fun h75 => ?_)
                  · have hk : k = (if sK fb i = 3 then 0 else n) := by have := (nI_leI (a := (if sK fb i = 3 then 0 else n)) (b := k) (by omega) (by omega)).mp h75; omega
                    refine V_aload_n C d_Re_takeSections_97 rfl ?_
                    refine V_aload C d_Re_takeSections_98 rfl ?_
                    refine V_callV (as := [_]) C d_Re_takeSections_100 (c_Un_addSection (ν := (up3 (up3 ν1 7 o i (some 4)) 24 o i (some (if sK fb i = 3 then 0 else n)))) (ι := ιd) (ρ := (up4 (upA ρ1 7 o i (fun _ => none)) 7 o i 3 (some (24, o, i)))) (o := o) (k9 := i) hU1.u (by rw [hd 8 o 0 1 (by omega) (by omega)]; simp (disch := omega) only [up4_ne, upA_ne]; rw [hxx 8 o 0 1 (by omega)]; exact hU1.ec) (by omega) (by simp [up3])) m_Un_addSection cf_Un k_Re_65 (show (up3 (up3 ν1 7 o i (some 4)) 24 o i (some (if sK fb i = 3 then 0 else n))) 8 o 0 ≠ none from hU1.al) ⟨by decide, by decide⟩ (Nat.le_of_ble_eq_true rfl) ⟨by first | rfl | ((try dsimp only); omega), by first | rfl | ((try dsimp only); omega)⟩ rfl ?_
                    rintro _ _ _ _ _ ⟨rfl, rfl, rfl, rfl, rfl⟩
                    dsimp only [Option.toList, List.cons_append, List.nil_append]
                    refine V_pop C d_Re_takeSections_103 rfl ?_
                    refine V_iinc (v := nI (i + 1)) (lv' := [(3, _), (8, _), (7, _), (0, _), (1, _), (2, _)]) C d_Re_takeSections_104 rfl (nI_1 i) (by decide) rfl ?_
                    refine V_goto (tgt := 2) C d_Re_takeSections_107 (by decide) ?_
                    refine V_pick [0, 3, 4, 5] rfl ?_
                    refine V_cs (c2 := 2 * (i + 1)) (s2 := 132 * (i + 1)) (by first | rfl | ((try dsimp only); omega)) (by first | rfl | ((try dsimp only); omega)) ?_
                    have hA9 : RFr o g ν1 (up3 (up3 ν1 7 o i (some 4)) 24 o i (some (if sK fb i = 3 then 0 else n))) ι1 ι1 ρ1 (up4 (up4 (upA ρ1 7 o i (fun _ => none)) 7 o i 3 (some (24, o, i))) 21 o 0 i (some (7, o, i))) := ((((RFr.rf.n g7).n g24).qA g7).q g7).q g21
                    have hB9 : ∀ r a b k9, ¬ isG o g r a b → (up4 ιd 8 o 0 1 (nI (i + 1))) r a b k9 = ι1 r a b k9 := fun r a b k9 hn => by
                      have hn2 := hn
                      unfold isG isC at hn2
                      rw [up4_ne (by omega), hd r a b k9 (by omega) (by omega)]
                      simp (disch := omega) only [up4_ne, upA_ne]
                      exact hxx r a b k9 (by omega)
                    have hF9 : RFr o g ν (up3 (up3 ν1 7 o i (some 4)) 24 o i (some (if sK fb i = 3 then 0 else n))) ι (up4 ιd 8 o 0 1 (nI (i + 1))) ρ (up4 (up4 (upA ρ1 7 o i (fun _ => none)) 7 o i 3 (some (24, o, i))) 21 o 0 i (some (7, o, i))) := hF1.tr ⟨hA9.1, hB9, hA9.2.2⟩
                    exact ih (i + 1) _ _ _ (by omega) (by omega) hF9 (UI.add (K := sK fb i) (P := sP fb i) (hU1.x hxx) (by omega) hn hd) (show RDR _ (up4 ιd 8 o 0 1 (nI (i + 1))) _ g T (so fb (i + 1)) 0 from by rw [so_s9, show cl (sZ fb i) = n by rw [hz]; exact nI_clamp (by omega), ← hk]; exact hRd) hdf (CSo.add (hS1.x hxx) hz hn hd (fun h3 k9 hk9 => hby k9 (by rw [hk, if_neg h3]; exact hk9))) (fun j hj => by
                        by_cases hq : j = i
                        · rw [hq]; exact ⟨h4b, hsc, hdf⟩
                        · exact hok1 j (by omega))
                  · have hk : k < (if sK fb i = 3 then 0 else n) := Nat.lt_of_not_le fun z => h75 ((nI_leI (by omega) (by omega)).mpr z)
                    refine V_aload C d_Re_takeSections_78 rfl ?_
                    refine V_getR (kx := 3) C d_Re_takeSections_80 cf_Se (by decide) k_Re_62 (by simp [up3]) rfl up4_s ?_
                    refine V_iload C d_Re_takeSections_83 rfl ?_
                    refine V_aload_n C d_Re_takeSections_85 rfl ?_
                    refine V_iconst (v := 1) C d_Re_takeSections_86 (by decide) ?_
                    refine V_callV (as := [_]) C d_Re_takeSections_87 (c_Re_take (ν := (up3 (up3 ν1 7 o i (some 4)) 24 o i (some (if sK fb i = 3 then 0 else n)))) (ι := ιd) (ρ := (up4 (upA ρ1 7 o i (fun _ => none)) 7 o i 3 (some (24, o, i)))) (a := so fb i + 4 + k) (w := 1) (T := T) (fb := fb) hRd hn2 (by omega) hT (by omega) (fun k9 hk9 => hrowd k9 hk9)) m_Re_take cf_Re k_Re_19 (nn hRd.1) ⟨by decide, by decide⟩ (Nat.le_of_ble_eq_true rfl) ⟨by first | rfl | ((try dsimp only); omega), by first | rfl | ((try dsimp only); omega)⟩ rfl ?_
                    rintro _ _ ι2 _ _ ⟨rfl, rfl, rfl, hx9, x9, rfl, hd9⟩
                    obtain ⟨_, hv9, hR9⟩ := hd9.resolve_right (fun z => z.1 (by omega))
                    subst hv9
                    dsimp only [Option.toList, List.cons_append, List.nil_append]
                    refine V_iast C d_Re_takeSections_90 (by decide) rfl up3_s rfl hk rfl ?_
                    refine V_iinc (v := nI (k + 1)) (lv' := [(8, _), (7, _), (3, _), (0, _), (1, _), (2, _)]) C d_Re_takeSections_91 rfl (nI_1 k) (by decide) rfl ?_
                    refine V_goto (tgt := 67) C d_Re_takeSections_94 (by decide) ?_
                    refine V_pick [0, 1, 2, 3, 4, 5] rfl ?_
                    refine V_cs (c2 := 2 * i + 2) (s2 := 132 * i + 132) (by first | rfl | ((try dsimp only); omega)) (by first | rfl | ((try dsimp only); omega)) ?_
                    exact ihd (k + 1) _ (by omega) (by omega) (fun r a b k9 q1 q2 => by rw [up4_ne (by omega), hx9 r a b k9 q2]; exact hd r a b k9 q1 q2) (show RDR _ (up4 ι2 24 o i k _) _ g T (so fb i + 4 + (k + 1)) 0 from hR9) (fun k9 hk9 => by
                        by_cases hq : k9 = k
                        · rw [hq, up4_s]; rfl
                        · rw [up4_ne (by omega), hx9 24 o i k9 (by omega)]; exact hby k9 (by omega))
              exact good ((if sK fb i = 3 then 0 else n) + 1) 0 _ (by omega) (by omega) (fun r a b k9 _ _ => rfl) (show RDR _ (upA (up4 (up4 (up4 (upA ι13 7 o i (fun _ => 0)) 7 o i 0 (sK fb i)) 7 o i 1 (sP fb i)) 7 o i 2 (nI n)) 24 o i (fun _ => 0)) _ g T (so fb i + 4 + 0) 0 from hR3) (fun k9 hk9 => absurd hk9 (by omega))
            · skip
              refine V_iload_n C d_Re_takeSections_2 rfl ?_
              refine V_iload_n C d_Re_takeSections_3 rfl ?_
              refine V_icmp_ge (tgt := 110) C d_Re_takeSections_4 (by decide) (fun h4 => absurd ((nI_leI (a := m9) (b := i) (by omega) (by omega)).mp h4) (by omega)) (fun h4 => ?_)
              refine V_aload_n C d_Re_takeSections_7 rfl ?_
              refine V_iconst (v := 1) C d_Re_takeSections_8 (by decide) ?_
              refine V_callV (as := [_]) C d_Re_takeSections_9 (c_Re_take (a := (so fb i)) (w := 1) (T := T) (fb := fb) hR0 hn1 (by omega) hT (by omega) hrow) m_Re_take cf_Re k_Re_19 (nn hR0.1) ⟨by decide, by decide⟩ (Nat.le_of_ble_eq_true rfl) ⟨by first | rfl | ((try dsimp only); omega), by first | rfl | ((try dsimp only); omega)⟩ rfl ?_
              rintro _ _ ι11 _ _ ⟨rfl, rfl, rfl, hx1, x1, rfl, hd1⟩
              have hrow : ∀ k, k < T → ι11 25 0 0 k = fb k := fun k hk => (hx1 25 0 0 k (by omega)).trans (hrow k hk)
              obtain ⟨_, hv1, hR1⟩ := hd1.resolve_right (fun z => z.1 (by omega))
              subst hv1
              dsimp only [Option.toList, List.cons_append, List.nil_append]
              refine V_istore (lv' := [(4, _), (3, _), (0, _), (1, _), (2, _)]) C d_Re_takeSections_12 (by decide) rfl ?_
              refine V_aload_n C d_Re_takeSections_14 rfl ?_
              refine V_iconst (v := 1) C d_Re_takeSections_15 (by decide) ?_
              refine V_callV (as := [_]) C d_Re_takeSections_16 (c_Re_take (a := (so fb i + 1)) (w := 1) (T := T) (fb := fb) hR1 hn1 (by omega) hT (by omega) hrow) m_Re_take cf_Re k_Re_19 (nn hR1.1) ⟨by decide, by decide⟩ (Nat.le_of_ble_eq_true rfl) ⟨by first | rfl | ((try dsimp only); omega), by first | rfl | ((try dsimp only); omega)⟩ rfl ?_
              rintro _ _ ι12 _ _ ⟨rfl, rfl, rfl, hx2, x2, rfl, hd2⟩
              have hrow : ∀ k, k < T → ι12 25 0 0 k = fb k := fun k hk => (hx2 25 0 0 k (by omega)).trans (hrow k hk)
              obtain ⟨_, hv2, hR2⟩ := hd2.resolve_right (fun z => z.1 (by omega))
              subst hv2
              dsimp only [Option.toList, List.cons_append, List.nil_append]
              refine V_istore (lv' := [(5, _), (4, _), (3, _), (0, _), (1, _), (2, _)]) C d_Re_takeSections_19 (by decide) rfl ?_
              refine V_aload_n C d_Re_takeSections_21 rfl ?_
              refine V_iconst (v := 2) C d_Re_takeSections_22 (by decide) ?_
              refine V_callV (as := [_]) C d_Re_takeSections_23 (c_Re_take (a := (so fb i + 2)) (w := 2) (T := T) (fb := fb) hR2 hn1 (by omega) hT (by omega) hrow) m_Re_take cf_Re k_Re_19 (nn hR2.1) ⟨by decide, by decide⟩ (Nat.le_of_ble_eq_true rfl) ⟨by first | rfl | ((try dsimp only); omega), by first | rfl | ((try dsimp only); omega)⟩ rfl ?_
              rintro _ _ ι13 _ _ ⟨rfl, rfl, rfl, hx3, x3, rfl, hd3⟩
              have hrow : ∀ k, k < T → ι13 25 0 0 k = fb k := fun k hk => (hx3 25 0 0 k (by omega)).trans (hrow k hk)
              obtain ⟨_, hv3, hR3⟩ := hd3.resolve_right (fun z => z.1 (by omega))
              subst hv3
              dsimp only [Option.toList, List.cons_append, List.nil_append]
              refine V_istore (lv' := [(6, _), (5, _), (4, _), (3, _), (0, _), (1, _), (2, _)]) C d_Re_takeSections_26 (by decide) rfl ?_
              refine V_aload_n C d_Re_takeSections_28 rfl ?_
              refine V_getI (kx := 3) C d_Re_takeSections_29 cf_Re (by decide) k_Re_49 (nn hR3.1) rfl ?_
              refine V_eqi (y := 0) hR3.2.2.2.2 ?_
              refine V_if_ne (tgt := 47) C d_Re_takeSections_32 (by decide) (fun h32 => absurd rfl h32) (fun h32 => ?_)
              refine V_iload C d_Re_takeSections_35 rfl ?_
              refine V_iload C d_Re_takeSections_37 rfl ?_
              refine V_iload C d_Re_takeSections_39 rfl ?_
              refine V_callS (as := [_, _, _]) C d_Re_takeSections_41 c_Se_canBe m_Se_canBe k_Re_53 ⟨by decide, by decide⟩ (Nat.le_of_ble_eq_true rfl) ⟨by first | rfl | ((try dsimp only); omega), by first | rfl | ((try dsimp only); omega)⟩ rfl ?_
              rintro _ _ _ _ _ ⟨rfl, rfl, rfl, rfl, rfl⟩
              dsimp only [Option.toList, List.cons_append, List.nil_append]
              refine V_if_ne (tgt := 49) C d_Re_takeSections_44 (by decide) (fun h44 => ?_) (fun h44 => absurd hsc (b2_0.mp h44))
              refine V_new (i := o) (j := i) C d_Re_takeSections_49 cf_Se k_Re_54 (hU1.fs (Nat.le_refl i)).1 (fun k hk => ?_) (by first | rfl | ((try dsimp only); omega)) (by first | rfl | ((try dsimp only); omega)) ?_
              · rcases (show k = 0 ∨ k = 1 ∨ k = 2 ∨ k = 3 by omega) with rfl | rfl | rfl | rfl <;> first | exact Or.inl ⟨rfl, rfl⟩ | exact Or.inr ⟨rfl, rfl⟩
              refine V_dup C d_Re_takeSections_52 rfl ?_
              refine V_iload C d_Re_takeSections_53 rfl ?_
              refine V_iload C d_Re_takeSections_55 rfl ?_
              refine V_iload C d_Re_takeSections_57 rfl ?_
              refine V_eqi (y := nI n) hz ?_
              refine V_callI (as := [_, _, _]) C d_Re_takeSections_59 (c_Se_init (ν := up3 ν1 7 o i (some 4)) (o := o) (s9 := i) (n := n) (nn up3_s) (hU1.fs (Nat.le_refl i)).2 hn) m_Se_init k_Re_59 ⟨by decide, by decide⟩ (Nat.le_of_ble_eq_true rfl) ⟨by first | rfl | ((try dsimp only); omega), by first | rfl | ((try dsimp only); omega)⟩ rfl ?_
              rintro _ _ _ _ _ ⟨rfl, rfl, rfl, rfl, rfl⟩
              dsimp only [Option.toList, List.cons_append, List.nil_append]
              refine V_astore (lv' := [(7, _), (6, _), (5, _), (4, _), (3, _), (0, _), (1, _), (2, _)]) C d_Re_takeSections_62 (by decide) rfl ?_
              refine V_iconst (v := 0) C d_Re_takeSections_64 (by decide) ?_
              refine V_istore (lv' := [(8, _), (7, _), (6, _), (5, _), (4, _), (3, _), (0, _), (1, _), (2, _)]) C d_Re_takeSections_65 (by decide) rfl ?_
              refine V_pick [0, 1, 5, 6, 7, 8] rfl ?_
              have hxx : Rx g ι1 ι13 := (hx1.tr hx2).tr hx3
              refine V_cs (c2 := 2 * i + 2) (s2 := 132 * i + 132) (by first | rfl | ((try dsimp only); omega)) (by first | rfl | ((try dsimp only); omega)) ?_
              have wrong : ∀ (fd : Nat) (k : Nat) (ιd : Io) (ad : Nat) (bd9 : Int32), (if sK fb i = 3 then 0 else n) - k < fd → k ≤ (if sK fb i = 3 then 0 else n) → (∀ r a b k9, ¬ (r = 24 ∧ a = o ∧ b = i) → ¬ (r = 5 ∧ a = g ∧ b = 0) → ιd r a b k9 = (upA (up4 (up4 (up4 (upA ι13 7 o i (fun _ => 0)) 7 o i 0 (sK fb i)) 7 o i 1 (sP fb i)) 7 o i 2 (nI n)) 24 o i (fun _ => 0)) r a b k9) → RDR (up3 (up3 ν1 7 o i (some 4)) 24 o i (some (if sK fb i = 3 then 0 else n))) ιd (up4 (upA ρ1 7 o i (fun _ => none)) 7 o i 3 (some (24, o, i))) g T ad bd9 → ad ≤ T → (bd9 = 1 ∨ ad = so fb i + 4 + k) → V p l e { frames := 2, cells := 16, slots := 1056, locals := 63 } s m args below meth c D B α0 ν 9 Q (2 * i + 2) (132 * i + 132) (up3 (up3 ν1 7 o i (some 4)) 24 o i (some (if sK fb i = 3 then 0 else n))) ιd (up4 (upA ρ1 7 o i (fun _ => none)) 7 o i 3 (some (24, o, i))) ℓ 67 [(8, sI (nI k)), (7, sR 7 o i), (3, sI (nI i)), (0, sR 5 g 0), (1, sR 8 o 0), (2, sI (nI m9))] [] := by
                intro fd
                induction fd with
                | zero => intros; omega
                | succ fd ihd =>
                  intro k ιd ad bd9 hfd hk0 hd hRd hld hqd
                  have hn2 : (up3 (up3 ν1 7 o i (some 4)) 24 o i (some (if sK fb i = 3 then 0 else n))) 25 0 0 = some 1303 := hn1
                  have hrowd : ∀ k9, k9 < T → ιd 25 0 0 k9 = fb k9 := fun k9 hk9 => by rw [hd 25 0 0 k9 (by omega) (by omega)]; simp (disch := omega) only [up4_ne, upA_ne]; exact hrow k9 hk9
                  have hN1 : (if sK fb i = 3 then 0 else n) ≤ 128 := by split <;> omega
                  refine V_iload C d_Re_takeSections_67 rfl ?_
                  refine V_aload C d_Re_takeSections_69 rfl ?_
                  refine V_getR (kx := 3) C d_Re_takeSections_71 cf_Se (by decide) k_Re_62 (by simp [up3]) rfl up4_s ?_
                  refine V_alen (ti := 0) C d_Re_takeSections_74 (by decide) (by decide) up3_s rfl ?_
                  refine V_icmp_ge (tgt := 97) C d_Re_takeSections_75 (by decide) (fun h75 => ?_) (fun h75 => ?_)
                  · have hk : k = (if sK fb i = 3 then 0 else n) := by have := (nI_leI (a := (if sK fb i = 3 then 0 else n)) (b := k) (by omega) (by omega)).mp h75; omega
                    refine V_aload_n C d_Re_takeSections_97 rfl ?_
                    refine V_aload C d_Re_takeSections_98 rfl ?_
                    refine V_callV (as := [_]) C d_Re_takeSections_100 (c_Un_addSection (ν := (up3 (up3 ν1 7 o i (some 4)) 24 o i (some (if sK fb i = 3 then 0 else n)))) (ι := ιd) (ρ := (up4 (upA ρ1 7 o i (fun _ => none)) 7 o i 3 (some (24, o, i)))) (o := o) (k9 := i) hU1.u (by rw [hd 8 o 0 1 (by omega) (by omega)]; simp (disch := omega) only [up4_ne, upA_ne]; rw [hxx 8 o 0 1 (by omega)]; exact hU1.ec) (by omega) (by simp [up3])) m_Un_addSection cf_Un k_Re_65 (show (up3 (up3 ν1 7 o i (some 4)) 24 o i (some (if sK fb i = 3 then 0 else n))) 8 o 0 ≠ none from hU1.al) ⟨by decide, by decide⟩ (Nat.le_of_ble_eq_true rfl) ⟨by first | rfl | ((try dsimp only); omega), by first | rfl | ((try dsimp only); omega)⟩ rfl ?_
                    rintro _ _ _ _ _ ⟨rfl, rfl, rfl, rfl, rfl⟩
                    dsimp only [Option.toList, List.cons_append, List.nil_append]
                    refine V_pop C d_Re_takeSections_103 rfl ?_
                    refine V_iinc (v := nI (i + 1)) (lv' := [(3, _), (8, _), (7, _), (0, _), (1, _), (2, _)]) C d_Re_takeSections_104 rfl (nI_1 i) (by decide) rfl ?_
                    refine V_goto (tgt := 2) C d_Re_takeSections_107 (by decide) ?_
                    refine V_pick [0, 3, 4, 5] rfl ?_
                    refine V_cs (c2 := 2 * (i + 1)) (s2 := 132 * (i + 1)) (by first | rfl | ((try dsimp only); omega)) (by first | rfl | ((try dsimp only); omega)) ?_
                    have hA9 : RFr o g ν1 (up3 (up3 ν1 7 o i (some 4)) 24 o i (some (if sK fb i = 3 then 0 else n))) ι1 ι1 ρ1 (up4 (up4 (upA ρ1 7 o i (fun _ => none)) 7 o i 3 (some (24, o, i))) 21 o 0 i (some (7, o, i))) := ((((RFr.rf.n g7).n g24).qA g7).q g7).q g21
                    have hB9 : ∀ r a b k9, ¬ isG o g r a b → (up4 ιd 8 o 0 1 (nI (i + 1))) r a b k9 = ι1 r a b k9 := fun r a b k9 hn => by
                      have hn2 := hn
                      unfold isG isC at hn2
                      rw [up4_ne (by omega), hd r a b k9 (by omega) (by omega)]
                      simp (disch := omega) only [up4_ne, upA_ne]
                      exact hxx r a b k9 (by omega)
                    have hF9 : RFr o g ν (up3 (up3 ν1 7 o i (some 4)) 24 o i (some (if sK fb i = 3 then 0 else n))) ι (up4 ιd 8 o 0 1 (nI (i + 1))) ρ (up4 (up4 (upA ρ1 7 o i (fun _ => none)) 7 o i 3 (some (24, o, i))) 21 o 0 i (some (7, o, i))) := hF1.tr ⟨hA9.1, hB9, hA9.2.2⟩
                    have hb1 : bd9 = 1 := hqd.resolve_right (fun z => hdf (by rw [so_s9, show cl (sZ fb i) = n by rw [hz]; exact nI_clamp (by omega), ← hk]; omega))
                    exact bad (i + 1) _ _ _ ad (by omega) hF9 (show RDR _ (up4 ιd 8 o 0 1 (nI (i + 1))) _ g T ad 1 from hb1 ▸ hRd) hld (fun z => hdf (z i him).2.2)
                  · have hk : k < (if sK fb i = 3 then 0 else n) := Nat.lt_of_not_le fun z => h75 ((nI_leI (by omega) (by omega)).mpr z)
                    refine V_aload C d_Re_takeSections_78 rfl ?_
                    refine V_getR (kx := 3) C d_Re_takeSections_80 cf_Se (by decide) k_Re_62 (by simp [up3]) rfl up4_s ?_
                    refine V_iload C d_Re_takeSections_83 rfl ?_
                    refine V_aload_n C d_Re_takeSections_85 rfl ?_
                    refine V_iconst (v := 1) C d_Re_takeSections_86 (by decide) ?_
                    refine V_callV (as := [_]) C d_Re_takeSections_87 (c_Re_take (ν := (up3 (up3 ν1 7 o i (some 4)) 24 o i (some (if sK fb i = 3 then 0 else n)))) (ι := ιd) (ρ := (up4 (upA ρ1 7 o i (fun _ => none)) 7 o i 3 (some (24, o, i)))) (a := ad) (w := 1) (T := T) (fb := fb) hRd hn2 hld hT (by omega) (fun k9 hk9 => hrowd k9 hk9)) m_Re_take cf_Re k_Re_19 (nn hRd.1) ⟨by decide, by decide⟩ (Nat.le_of_ble_eq_true rfl) ⟨by first | rfl | ((try dsimp only); omega), by first | rfl | ((try dsimp only); omega)⟩ rfl ?_
                    rintro _ _ ι2 _ _ ⟨rfl, rfl, rfl, hx9, x9, rfl, hd9⟩
                    obtain ⟨a9, b9, hR9, hl9, hq9⟩ : ∃ a9 b9, RDR (up3 (up3 ν1 7 o i (some 4)) 24 o i (some (if sK fb i = 3 then 0 else n))) ι2 (up4 (upA ρ1 7 o i (fun _ => none)) 7 o i 3 (some (24, o, i))) g T a9 b9 ∧ a9 ≤ T ∧ (b9 = 1 ∨ a9 = so fb i + 4 + (k + 1)) := by
                      rcases hd9 with ⟨q1, q2, q3⟩ | ⟨q1, q3⟩
                      · exact ⟨_, _, q3, by omega, hqd.imp id (fun z => by omega)⟩
                      · exact ⟨_, _, q3, hld, Or.inl rfl⟩
                    dsimp only [Option.toList, List.cons_append, List.nil_append]
                    refine V_iast C d_Re_takeSections_90 (by decide) rfl up3_s rfl hk rfl ?_
                    refine V_iinc (v := nI (k + 1)) (lv' := [(8, _), (7, _), (3, _), (0, _), (1, _), (2, _)]) C d_Re_takeSections_91 rfl (nI_1 k) (by decide) rfl ?_
                    refine V_goto (tgt := 67) C d_Re_takeSections_94 (by decide) ?_
                    refine V_pick [0, 1, 2, 3, 4, 5] rfl ?_
                    refine V_cs (c2 := 2 * i + 2) (s2 := 132 * i + 132) (by first | rfl | ((try dsimp only); omega)) (by first | rfl | ((try dsimp only); omega)) ?_
                    exact ihd (k + 1) _ a9 b9 (by omega) (by omega) (fun r a b k9 q1 q2 => by rw [up4_ne (by omega), hx9 r a b k9 q2]; exact hd r a b k9 q1 q2) (show RDR _ (up4 ι2 24 o i k _) _ g T a9 b9 from hR9) hl9 hq9
              exact wrong ((if sK fb i = 3 then 0 else n) + 1) 0 _ (so fb i + 4) 0 (by omega) (by omega) (fun r a b k9 _ _ => rfl) (show RDR _ (upA (up4 (up4 (up4 (upA ι13 7 o i (fun _ => 0)) 7 o i 0 (sK fb i)) 7 o i 1 (sP fb i)) 7 o i 2 (nI n)) 24 o i (fun _ => 0)) _ g T (so fb i + 4) 0 from hR3) (by omega) (Or.inr rfl)
          · skip
            refine V_iload_n C d_Re_takeSections_2 rfl ?_
            refine V_iload_n C d_Re_takeSections_3 rfl ?_
            refine V_icmp_ge (tgt := 110) C d_Re_takeSections_4 (by decide) (fun h4 => absurd ((nI_leI (a := m9) (b := i) (by omega) (by omega)).mp h4) (by omega)) (fun h4 => ?_)
            refine V_aload_n C d_Re_takeSections_7 rfl ?_
            refine V_iconst (v := 1) C d_Re_takeSections_8 (by decide) ?_
            refine V_callV (as := [_]) C d_Re_takeSections_9 (c_Re_take (a := (so fb i)) (w := 1) (T := T) (fb := fb) hR0 hn1 (by omega) hT (by omega) hrow) m_Re_take cf_Re k_Re_19 (nn hR0.1) ⟨by decide, by decide⟩ (Nat.le_of_ble_eq_true rfl) ⟨by first | rfl | ((try dsimp only); omega), by first | rfl | ((try dsimp only); omega)⟩ rfl ?_
            rintro _ _ ι11 _ _ ⟨rfl, rfl, rfl, hx1, x1, rfl, hd1⟩
            have hrow : ∀ k, k < T → ι11 25 0 0 k = fb k := fun k hk => (hx1 25 0 0 k (by omega)).trans (hrow k hk)
            obtain ⟨_, hv1, hR1⟩ := hd1.resolve_right (fun z => z.1 (by omega))
            subst hv1
            dsimp only [Option.toList, List.cons_append, List.nil_append]
            refine V_istore (lv' := [(4, _), (3, _), (0, _), (1, _), (2, _)]) C d_Re_takeSections_12 (by decide) rfl ?_
            refine V_aload_n C d_Re_takeSections_14 rfl ?_
            refine V_iconst (v := 1) C d_Re_takeSections_15 (by decide) ?_
            refine V_callV (as := [_]) C d_Re_takeSections_16 (c_Re_take (a := (so fb i + 1)) (w := 1) (T := T) (fb := fb) hR1 hn1 (by omega) hT (by omega) hrow) m_Re_take cf_Re k_Re_19 (nn hR1.1) ⟨by decide, by decide⟩ (Nat.le_of_ble_eq_true rfl) ⟨by first | rfl | ((try dsimp only); omega), by first | rfl | ((try dsimp only); omega)⟩ rfl ?_
            rintro _ _ ι12 _ _ ⟨rfl, rfl, rfl, hx2, x2, rfl, hd2⟩
            have hrow : ∀ k, k < T → ι12 25 0 0 k = fb k := fun k hk => (hx2 25 0 0 k (by omega)).trans (hrow k hk)
            obtain ⟨_, hv2, hR2⟩ := hd2.resolve_right (fun z => z.1 (by omega))
            subst hv2
            dsimp only [Option.toList, List.cons_append, List.nil_append]
            refine V_istore (lv' := [(5, _), (4, _), (3, _), (0, _), (1, _), (2, _)]) C d_Re_takeSections_19 (by decide) rfl ?_
            refine V_aload_n C d_Re_takeSections_21 rfl ?_
            refine V_iconst (v := 2) C d_Re_takeSections_22 (by decide) ?_
            refine V_callV (as := [_]) C d_Re_takeSections_23 (c_Re_take (a := (so fb i + 2)) (w := 2) (T := T) (fb := fb) hR2 hn1 (by omega) hT (by omega) hrow) m_Re_take cf_Re k_Re_19 (nn hR2.1) ⟨by decide, by decide⟩ (Nat.le_of_ble_eq_true rfl) ⟨by first | rfl | ((try dsimp only); omega), by first | rfl | ((try dsimp only); omega)⟩ rfl ?_
            rintro _ _ ι13 _ _ ⟨rfl, rfl, rfl, hx3, x3, rfl, hd3⟩
            have hrow : ∀ k, k < T → ι13 25 0 0 k = fb k := fun k hk => (hx3 25 0 0 k (by omega)).trans (hrow k hk)
            obtain ⟨_, hv3, hR3⟩ := hd3.resolve_right (fun z => z.1 (by omega))
            subst hv3
            dsimp only [Option.toList, List.cons_append, List.nil_append]
            refine V_istore (lv' := [(6, _), (5, _), (4, _), (3, _), (0, _), (1, _), (2, _)]) C d_Re_takeSections_26 (by decide) rfl ?_
            refine V_aload_n C d_Re_takeSections_28 rfl ?_
            refine V_getI (kx := 3) C d_Re_takeSections_29 cf_Re (by decide) k_Re_49 (nn hR3.1) rfl ?_
            refine V_eqi (y := 0) hR3.2.2.2.2 ?_
            refine V_if_ne (tgt := 47) C d_Re_takeSections_32 (by decide) (fun h32 => absurd rfl h32) (fun h32 => ?_)
            refine V_iload C d_Re_takeSections_35 rfl ?_
            refine V_iload C d_Re_takeSections_37 rfl ?_
            refine V_iload C d_Re_takeSections_39 rfl ?_
            refine V_callS (as := [_, _, _]) C d_Re_takeSections_41 c_Se_canBe m_Se_canBe k_Re_53 ⟨by decide, by decide⟩ (Nat.le_of_ble_eq_true rfl) ⟨by first | rfl | ((try dsimp only); omega), by first | rfl | ((try dsimp only); omega)⟩ rfl ?_
            rintro _ _ _ _ _ ⟨rfl, rfl, rfl, rfl, rfl⟩
            dsimp only [Option.toList, List.cons_append, List.nil_append]
            refine V_if_ne (tgt := 49) C d_Re_takeSections_44 (by decide) (fun h44 => absurd (b2_n0.mp h44) hsc) (fun h44 => ?_)
            refine V_iconst (v := 0) C d_Re_takeSections_47 (by decide) ?_
            refine V_zret C hQ (by first | rfl | ((try dsimp only); omega)) (by first | rfl | ((try dsimp only); omega)) d_Re_takeSections_48 rfl rfl ?_
            exact ⟨rfl, ((hF1.x hx1).x hx2).x hx3, false, rfl, (fun z => nomatch z), fun _ z => hsc (z i him).2.1⟩
        · obtain ⟨A0, a0, hA0, hq0, hl0⟩ : ∃ A0 a0 : Nat, a0 = so fb i ∧ ((0 : Int32) = 1 ∨ a0 = A0) ∧ a0 ≤ T := ⟨so fb i, so fb i, rfl, Or.inr rfl, hso⟩
          have hA1 : A0 = so fb i := by rcases hq0 with z | z; exact absurd z (by decide); omega
          rw [← hA0] at hR0
          refine V_iload_n C d_Re_takeSections_2 rfl ?_
          refine V_iload_n C d_Re_takeSections_3 rfl ?_
          refine V_icmp_ge (tgt := 110) C d_Re_takeSections_4 (by decide) (fun h4 => absurd ((nI_leI (a := m9) (b := i) (by omega) (by omega)).mp h4) (by omega)) (fun h4 => ?_)
          refine V_aload_n C d_Re_takeSections_7 rfl ?_
          refine V_iconst (v := 1) C d_Re_takeSections_8 (by decide) ?_
          refine V_callV (as := [_]) C d_Re_takeSections_9 (c_Re_take (a := a0) (w := 1) (T := T) (fb := fb) hR0 hn1 hl0 hT (by omega) hrow) m_Re_take cf_Re k_Re_19 (nn hR0.1) ⟨by decide, by decide⟩ (Nat.le_of_ble_eq_true rfl) ⟨by first | rfl | ((try dsimp only); omega), by first | rfl | ((try dsimp only); omega)⟩ rfl ?_
          rintro _ _ ι11 _ _ ⟨rfl, rfl, rfl, hx1, x1, rfl, hd1⟩
          have hrow : ∀ k, k < T → ι11 25 0 0 k = fb k := fun k hk => (hx1 25 0 0 k (by omega)).trans (hrow k hk)
          obtain ⟨a1, b1, hR1, hl1, hq1⟩ : ∃ a9 b9, RDR ν1 ι11 ρ1 g T a9 b9 ∧ a9 ≤ T ∧ (b9 = 1 ∨ a9 = A0 + 1) := by
            rcases hd1 with ⟨q1, q2, q3⟩ | ⟨q1, q3⟩
            · exact ⟨_, _, q3, by omega, hq0.imp id (fun z => by omega)⟩
            · exact ⟨_, _, q3, hl0, Or.inl rfl⟩
          dsimp only [Option.toList, List.cons_append, List.nil_append]
          refine V_istore (lv' := [(4, _), (3, _), (0, _), (1, _), (2, _)]) C d_Re_takeSections_12 (by decide) rfl ?_
          refine V_aload_n C d_Re_takeSections_14 rfl ?_
          refine V_iconst (v := 1) C d_Re_takeSections_15 (by decide) ?_
          refine V_callV (as := [_]) C d_Re_takeSections_16 (c_Re_take (a := a1) (w := 1) (T := T) (fb := fb) hR1 hn1 hl1 hT (by omega) hrow) m_Re_take cf_Re k_Re_19 (nn hR1.1) ⟨by decide, by decide⟩ (Nat.le_of_ble_eq_true rfl) ⟨by first | rfl | ((try dsimp only); omega), by first | rfl | ((try dsimp only); omega)⟩ rfl ?_
          rintro _ _ ι12 _ _ ⟨rfl, rfl, rfl, hx2, x2, rfl, hd2⟩
          have hrow : ∀ k, k < T → ι12 25 0 0 k = fb k := fun k hk => (hx2 25 0 0 k (by omega)).trans (hrow k hk)
          obtain ⟨a2, b2, hR2, hl2, hq2⟩ : ∃ a9 b9, RDR ν1 ι12 ρ1 g T a9 b9 ∧ a9 ≤ T ∧ (b9 = 1 ∨ a9 = A0 + 2) := by
            rcases hd2 with ⟨q1, q2, q3⟩ | ⟨q1, q3⟩
            · exact ⟨_, _, q3, by omega, hq1.imp id (fun z => by omega)⟩
            · exact ⟨_, _, q3, hl1, Or.inl rfl⟩
          dsimp only [Option.toList, List.cons_append, List.nil_append]
          refine V_istore (lv' := [(5, _), (4, _), (3, _), (0, _), (1, _), (2, _)]) C d_Re_takeSections_19 (by decide) rfl ?_
          refine V_aload_n C d_Re_takeSections_21 rfl ?_
          refine V_iconst (v := 2) C d_Re_takeSections_22 (by decide) ?_
          refine V_callV (as := [_]) C d_Re_takeSections_23 (c_Re_take (a := a2) (w := 2) (T := T) (fb := fb) hR2 hn1 hl2 hT (by omega) hrow) m_Re_take cf_Re k_Re_19 (nn hR2.1) ⟨by decide, by decide⟩ (Nat.le_of_ble_eq_true rfl) ⟨by first | rfl | ((try dsimp only); omega), by first | rfl | ((try dsimp only); omega)⟩ rfl ?_
          rintro _ _ ι13 _ _ ⟨rfl, rfl, rfl, hx3, x3, rfl, hd3⟩
          have hrow : ∀ k, k < T → ι13 25 0 0 k = fb k := fun k hk => (hx3 25 0 0 k (by omega)).trans (hrow k hk)
          obtain ⟨a3, b3, hR3, hl3, hq3⟩ : ∃ a9 b9, RDR ν1 ι13 ρ1 g T a9 b9 ∧ a9 ≤ T ∧ (b9 = 1 ∨ a9 = A0 + 4) := by
            rcases hd3 with ⟨q1, q2, q3⟩ | ⟨q1, q3⟩
            · exact ⟨_, _, q3, by omega, hq2.imp id (fun z => by omega)⟩
            · exact ⟨_, _, q3, hl2, Or.inl rfl⟩
          dsimp only [Option.toList, List.cons_append, List.nil_append]
          refine V_istore (lv' := [(6, _), (5, _), (4, _), (3, _), (0, _), (1, _), (2, _)]) C d_Re_takeSections_26 (by decide) rfl ?_
          refine V_aload_n C d_Re_takeSections_28 rfl ?_
          refine V_getI (kx := 3) C d_Re_takeSections_29 cf_Re (by decide) k_Re_49 (nn hR3.1) rfl ?_
          have hb3 : b3 = 1 := hq3.resolve_right (fun z => by omega)
          refine V_eqi (y := 1) (hR3.2.2.2.2.trans hb3) ?_
          refine V_if_ne (tgt := 47) C d_Re_takeSections_32 (by decide) (fun h32 => ?_) (fun h32 => absurd h32 (by decide))
          refine V_iconst (v := 0) C d_Re_takeSections_47 (by decide) ?_
          refine V_zret C hQ (by first | rfl | ((try dsimp only); omega)) (by first | rfl | ((try dsimp only); omega)) d_Re_takeSections_48 rfl rfl ?_
          exact ⟨rfl, ((hF1.x hx1).x hx2).x hx3, false, rfl, (fun z => nomatch z), fun _ z => h4b (z i him).1⟩
      · have him2 : i = m9 := by omega
        subst him2
        refine V_iload_n C d_Re_takeSections_2 rfl ?_
        refine V_iload_n C d_Re_takeSections_3 rfl ?_
        refine V_icmp_ge (tgt := 110) C d_Re_takeSections_4 (by decide) (fun h4 => ?_) (fun h4 => absurd ((nI_leI (by omega) (by omega)).mpr (Nat.le_refl _)) h4)
        refine V_aload_n C d_Re_takeSections_110 rfl ?_
        refine V_getI (kx := 3) C d_Re_takeSections_111 cf_Re (by decide) k_Re_49 (nn hR0.1) rfl ?_
        refine V_eqi (y := 0) hR0.2.2.2.2 ?_
        refine V_if_ne (tgt := 121) C d_Re_takeSections_114 (by decide) (fun h114 => absurd rfl h114) (fun h114 => ?_)
        refine V_iconst (v := 1) C d_Re_takeSections_117 (by decide) ?_
        refine V_goto (tgt := 122) C d_Re_takeSections_118 (by decide) ?_
        refine V_zret C hQ (by first | rfl | ((try dsimp only); omega)) (by first | rfl | ((try dsimp only); omega)) d_Re_takeSections_122 rfl rfl ?_
        exact ⟨rfl, hF1, true, rfl, fun _ => ⟨hok1, hU1, hS1, hR0, hso⟩, (fun z => nomatch z)⟩
  refine V_iconst (v := 0) C d_Re_takeSections_0 (by decide) ?_
  refine V_istore_n (lv' := [(3, _), (0, _), (1, _), (2, _)]) C d_Re_takeSections_1 (by decide) rfl ?_
  refine V_pick [0, 1, 2, 3] rfl ?_
  exact loop (m9 + 1) 0 ν ι ρ (by omega) (by omega) RFr.rf hU hR h5 (fun j hj => absurd hj (by omega)) (fun j hj => absurd hj (by omega))
set_option maxHeartbeats 1000000 in
set_option maxRecDepth 10000 in
theorem c_Re_takeNames {ν : Nu} {ι : Io} {ρ : Ro} {ℓ : Lo} {o g T m9 : Nat} {fb : Nat → Int32} (hR : RDR ν ι ρ g T (nb fb) 0) (hU : UI ν ι ρ o (cS fb) 0 0) (hS : CSo ι o fb (cS fb)) (hc8 : cS fb ≤ 8) (hn25 : ν 25 0 0 = some 1303) (h5 : nb fb ≤ T) (hT : T + 2 ≤ 1303) (hm : m9 ≤ 12) (hf : ∀ k, k < T → ι 25 0 0 k = fb k) : Ct y_Re_takeNames (Cond.code y_Re_takeNames b_Re_takeNames 8 (some .boolean) :: tb_) { frames := 3, cells := 12, slots := 48, locals := 69 } [sR 5 g 0, sR 8 o 0, sI (nI m9)] ν ι ρ ℓ (fun v ν1 ι1 ρ1 ℓ1 => ℓ = ℓ1 ∧ RFr o g ν ν1 ι ι1 ρ ρ1 ∧ ∃ b : Bool, some (sI (b2 (b = true))) = v ∧ (b = true → (∀ j, j < m9 → OKn fb T j) ∧ UI ν1 ι1 ρ1 o (cS fb) m9 0 ∧ CSo ι1 o fb (cS fb) ∧ CNo ι1 o fb m9 ∧ RDR ν1 ι1 ρ1 g T (nb fb + 8 * m9) 0 ∧ nb fb + 8 * m9 ≤ T) ∧ (b = false → ¬ ∀ j, j < m9 → OKn fb T j)) (noX) := by
  refine Ct.ofV (by decide) (Nat.le_of_ble_eq_true rfl) rfl ?_
  intro p l e s m args below meth c D B tW α0 Q C hQ
  have loop : ∀ (f : Nat) (i : Nat) (ν1 : Nu) (ι1 : Io) (ρ1 : Ro), m9 - i < f → i ≤ m9 → RFr o g ν ν1 ι ι1 ρ ρ1 → UI ν1 ι1 ρ1 o (cS fb) i 0 → RDR ν1 ι1 ρ1 g T (nb fb + 8 * i) 0 → nb fb + 8 * i ≤ T → CSo ι1 o fb (cS fb) → CNo ι1 o fb i → (∀ j, j < i → OKn fb T j) → V p l e { frames := 3, cells := 12, slots := 48, locals := 69 } s m args below meth c D B α0 ν 8 Q i (4 * i) ν1 ι1 ρ1 ℓ 2 [(3, sI (nI i)), (0, sR 5 g 0), (1, sR 8 o 0), (2, sI (nI m9))] [] := by
    intro f
    induction f with
    | zero => intros; omega
    | succ f ih =>
      intro i ν1 ι1 ρ1 hf9 hi0 hF1 hU1 hR0 hso hS1 hN1 hok1
      have hn1 : ν1 25 0 0 = some 1303 := (hF1.1 25 0 0 (by unfold isG isC; omega)).trans hn25
      have hrow : ∀ k, k < T → ι1 25 0 0 k = fb k := fun k hk => (hF1.2.1 25 0 0 k (by unfold isG isC; omega)).trans (hf k hk)
      rcases Nat.lt_or_ge i m9 with him | him
      · by_cases h4b : nb fb + 8 * (i + 1) ≤ T
        · by_cases hok : nmOK fb i
          · skip
            refine V_iload_n C d_Re_takeNames_2 rfl ?_
            refine V_iload_n C d_Re_takeNames_3 rfl ?_
            refine V_icmp_ge (tgt := 85) C d_Re_takeNames_4 (by decide) (fun h4 => absurd ((nI_leI (a := m9) (b := i) (by omega) (by omega)).mp h4) (by omega)) (fun h4 => ?_)
            refine V_aload_n C d_Re_takeNames_7 rfl ?_
            refine V_iconst (v := 4) C d_Re_takeNames_8 (by decide) ?_
            refine V_callV (as := [_]) C d_Re_takeNames_9 (c_Re_take (a := (nb fb + 8 * i)) (w := 4) (T := T) (fb := fb) hR0 hn1 (by omega) hT (by omega) hrow) m_Re_take cf_Re k_Re_19 (nn hR0.1) ⟨by decide, by decide⟩ (Nat.le_of_ble_eq_true rfl) ⟨by first | rfl | ((try dsimp only); omega), by first | rfl | ((try dsimp only); omega)⟩ rfl ?_
            rintro _ _ ι11 _ _ ⟨rfl, rfl, rfl, hx1, x1, rfl, hd1⟩
            have hrow : ∀ k, k < T → ι11 25 0 0 k = fb k := fun k hk => (hx1 25 0 0 k (by omega)).trans (hrow k hk)
            obtain ⟨_, hv1, hR1⟩ := hd1.resolve_right (fun z => z.1 (by omega))
            subst hv1
            dsimp only [Option.toList, List.cons_append, List.nil_append]
            refine V_istore (lv' := [(4, _), (3, _), (0, _), (1, _), (2, _)]) C d_Re_takeNames_12 (by decide) rfl ?_
            refine V_aload_n C d_Re_takeNames_14 rfl ?_
            refine V_iconst (v := 1) C d_Re_takeNames_15 (by decide) ?_
            refine V_callV (as := [_]) C d_Re_takeNames_16 (c_Re_take (a := (nb fb + 8 * i + 4)) (w := 1) (T := T) (fb := fb) hR1 hn1 (by omega) hT (by omega) hrow) m_Re_take cf_Re k_Re_19 (nn hR1.1) ⟨by decide, by decide⟩ (Nat.le_of_ble_eq_true rfl) ⟨by first | rfl | ((try dsimp only); omega), by first | rfl | ((try dsimp only); omega)⟩ rfl ?_
            rintro _ _ ι12 _ _ ⟨rfl, rfl, rfl, hx2, x2, rfl, hd2⟩
            have hrow : ∀ k, k < T → ι12 25 0 0 k = fb k := fun k hk => (hx2 25 0 0 k (by omega)).trans (hrow k hk)
            obtain ⟨_, hv2, hR2⟩ := hd2.resolve_right (fun z => z.1 (by omega))
            subst hv2
            dsimp only [Option.toList, List.cons_append, List.nil_append]
            refine V_istore (lv' := [(5, _), (4, _), (3, _), (0, _), (1, _), (2, _)]) C d_Re_takeNames_19 (by decide) rfl ?_
            refine V_aload_n C d_Re_takeNames_21 rfl ?_
            refine V_iconst (v := 1) C d_Re_takeNames_22 (by decide) ?_
            refine V_callV (as := [_]) C d_Re_takeNames_23 (c_Re_take (a := (nb fb + 8 * i + 5)) (w := 1) (T := T) (fb := fb) hR2 hn1 (by omega) hT (by omega) hrow) m_Re_take cf_Re k_Re_19 (nn hR2.1) ⟨by decide, by decide⟩ (Nat.le_of_ble_eq_true rfl) ⟨by first | rfl | ((try dsimp only); omega), by first | rfl | ((try dsimp only); omega)⟩ rfl ?_
            rintro _ _ ι13 _ _ ⟨rfl, rfl, rfl, hx3, x3, rfl, hd3⟩
            have hrow : ∀ k, k < T → ι13 25 0 0 k = fb k := fun k hk => (hx3 25 0 0 k (by omega)).trans (hrow k hk)
            obtain ⟨_, hv3, hR3⟩ := hd3.resolve_right (fun z => z.1 (by omega))
            subst hv3
            dsimp only [Option.toList, List.cons_append, List.nil_append]
            refine V_istore (lv' := [(6, _), (5, _), (4, _), (3, _), (0, _), (1, _), (2, _)]) C d_Re_takeNames_26 (by decide) rfl ?_
            refine V_aload_n C d_Re_takeNames_28 rfl ?_
            refine V_iconst (v := 2) C d_Re_takeNames_29 (by decide) ?_
            refine V_callV (as := [_]) C d_Re_takeNames_30 (c_Re_take (a := (nb fb + 8 * i + 6)) (w := 2) (T := T) (fb := fb) hR3 hn1 (by omega) hT (by omega) hrow) m_Re_take cf_Re k_Re_19 (nn hR3.1) ⟨by decide, by decide⟩ (Nat.le_of_ble_eq_true rfl) ⟨by first | rfl | ((try dsimp only); omega), by first | rfl | ((try dsimp only); omega)⟩ rfl ?_
            rintro _ _ ι14 _ _ ⟨rfl, rfl, rfl, hx4, x4, rfl, hd4⟩
            have hrow : ∀ k, k < T → ι14 25 0 0 k = fb k := fun k hk => (hx4 25 0 0 k (by omega)).trans (hrow k hk)
            obtain ⟨_, hv4, hR4⟩ := hd4.resolve_right (fun z => z.1 (by omega))
            subst hv4
            dsimp only [Option.toList, List.cons_append, List.nil_append]
            refine V_istore (lv' := [(7, _), (6, _), (5, _), (4, _), (3, _), (0, _), (1, _), (2, _)]) C d_Re_takeNames_33 (by decide) rfl ?_
            refine V_aload_n C d_Re_takeNames_35 rfl ?_
            have hxx : Rx g ι1 ι14 := ((hx1.tr hx2).tr hx3).tr hx4
            have hU4 := hU1.x hxx
            have hS4 := hS1.x hxx
            have hN4 := hN1.x hxx
            have hiff := nmC (j := i) hc8 hS4 hN4
            refine V_getI (kx := 3) C d_Re_takeNames_36 cf_Re (by decide) k_Re_49 (nn hR4.1) rfl ?_
            refine V_eqi (y := 0) hR4.2.2.2.2 ?_
            refine V_if_ne (tgt := 57) C d_Re_takeNames_39 (by decide) (fun h39 => absurd rfl h39) (fun h39 => ?_)
            refine V_aload_n C d_Re_takeNames_42 rfl ?_
            refine V_iload C d_Re_takeNames_43 rfl ?_
            refine V_iload C d_Re_takeNames_45 rfl ?_
            refine V_iload C d_Re_takeNames_47 rfl ?_
            refine V_iload C d_Re_takeNames_49 rfl ?_
            refine V_callV (as := [_, _, _, _]) C d_Re_takeNames_51 (c_Un_canName hU4) m_Un_canName cf_Un k_Re_69 hU4.al ⟨by decide, by decide⟩ (Nat.le_of_ble_eq_true rfl) ⟨by first | rfl | ((try dsimp only); omega), by first | rfl | ((try dsimp only); omega)⟩ rfl ?_
            rintro _ _ _ _ _ ⟨rfl, rfl, rfl, rfl, rfl⟩
            dsimp only [Option.toList, List.cons_append, List.nil_append]
            refine V_if_ne (tgt := 59) C d_Re_takeNames_54 (by decide) (fun h54 => ?_) (fun h54 => absurd (hiff.mpr hok) (b2_0.mp h54))
            refine V_aload_n C d_Re_takeNames_59 rfl ?_
            refine V_new (i := o) (j := i) C d_Re_takeNames_60 cf_Na k_Re_73 (hU4.fn (Nat.le_refl i)) (fun k hk => ?_) (by first | rfl | ((try dsimp only); omega)) (by first | rfl | ((try dsimp only); omega)) ?_
            · rcases (show k = 0 ∨ k = 1 ∨ k = 2 ∨ k = 3 by omega) with rfl | rfl | rfl | rfl <;> first | exact Or.inl ⟨rfl, rfl⟩ | exact Or.inr ⟨rfl, rfl⟩
            refine V_dup C d_Re_takeNames_63 rfl ?_
            refine V_iload C d_Re_takeNames_64 rfl ?_
            refine V_iload C d_Re_takeNames_66 rfl ?_
            refine V_iload C d_Re_takeNames_68 rfl ?_
            refine V_iload C d_Re_takeNames_70 rfl ?_
            refine V_callI (as := [_, _, _, _]) C d_Re_takeNames_72 (c_Na_init (ν := up3 ν1 2 o i (some 4)) (o := o) (i9 := i) (nn up3_s)) m_Na_init k_Re_75 ⟨by decide, by decide⟩ (Nat.le_of_ble_eq_true rfl) ⟨by first | rfl | ((try dsimp only); omega), by first | rfl | ((try dsimp only); omega)⟩ rfl ?_
            rintro _ _ _ _ _ ⟨rfl, rfl, rfl, rfl, rfl⟩
            dsimp only [Option.toList, List.cons_append, List.nil_append]
            refine V_callV (as := [_]) C d_Re_takeNames_75 (c_Un_addName (ν := nν ν1 o i) (ι := (up4 (up4 (up4 (up4 (upA ι14 2 o i (fun _ => 0)) 2 o i 0 (nA fb i)) 2 o i 1 (nS fb i)) 2 o i 2 (nW fb i)) 2 o i 3 (nP fb i))) (ρ := upA ρ1 2 o i (fun _ => none)) (o := o) (k9 := i) hU4.u (by simp (disch := omega) only [up4_ne, upA_ne]; exact hU4.en) (by omega) (by simp [up3])) m_Un_addName cf_Un k_Re_78 hU4.al ⟨by decide, by decide⟩ (Nat.le_of_ble_eq_true rfl) ⟨by first | rfl | ((try dsimp only); omega), by first | rfl | ((try dsimp only); omega)⟩ rfl ?_
            rintro _ _ _ _ _ ⟨rfl, rfl, rfl, rfl, rfl⟩
            dsimp only [Option.toList, List.cons_append, List.nil_append]
            refine V_pop C d_Re_takeNames_78 rfl ?_
            refine V_iinc (v := nI (i + 1)) (lv' := [(3, _), (7, _), (6, _), (5, _), (4, _), (0, _), (1, _), (2, _)]) C d_Re_takeNames_79 rfl (nI_1 i) (by decide) rfl ?_
            refine V_goto (tgt := 2) C d_Re_takeNames_82 (by decide) ?_
            refine V_pick [0, 5, 6, 7] rfl ?_
            refine V_cs (c2 := i + 1) (s2 := 4 * (i + 1)) (by first | rfl | ((try dsimp only); omega)) (by first | rfl | ((try dsimp only); omega)) ?_
            have hA9 : RFr o g ν1 (nν ν1 o i) ι1 (nι ι14 o i (nA fb i) (nS fb i) (nW fb i) (nP fb i)) ρ1 (nρ ρ1 o i) := ((((((((RFr.rf.x hxx).n g2).iA g2).io g2).io g2).io g2).io g2).io g8).qA g2 |>.q g22
            exact ih (i + 1) _ _ _ (by omega) (by omega) (hF1.tr hA9) (UI.nam hU4 (by omega)) (show RDR _ (nι ι14 o i (nA fb i) (nS fb i) (nW fb i) (nP fb i)) _ g T (nb fb + 8 * (i + 1)) 0 from hR4) (by omega) hS4.n hN4.add (fun j hj => by
                by_cases hq : j = i
                · rw [hq]; exact ⟨by omega, hok⟩
                · exact hok1 j (by omega))
          · skip
            refine V_iload_n C d_Re_takeNames_2 rfl ?_
            refine V_iload_n C d_Re_takeNames_3 rfl ?_
            refine V_icmp_ge (tgt := 85) C d_Re_takeNames_4 (by decide) (fun h4 => absurd ((nI_leI (a := m9) (b := i) (by omega) (by omega)).mp h4) (by omega)) (fun h4 => ?_)
            refine V_aload_n C d_Re_takeNames_7 rfl ?_
            refine V_iconst (v := 4) C d_Re_takeNames_8 (by decide) ?_
            refine V_callV (as := [_]) C d_Re_takeNames_9 (c_Re_take (a := (nb fb + 8 * i)) (w := 4) (T := T) (fb := fb) hR0 hn1 (by omega) hT (by omega) hrow) m_Re_take cf_Re k_Re_19 (nn hR0.1) ⟨by decide, by decide⟩ (Nat.le_of_ble_eq_true rfl) ⟨by first | rfl | ((try dsimp only); omega), by first | rfl | ((try dsimp only); omega)⟩ rfl ?_
            rintro _ _ ι11 _ _ ⟨rfl, rfl, rfl, hx1, x1, rfl, hd1⟩
            have hrow : ∀ k, k < T → ι11 25 0 0 k = fb k := fun k hk => (hx1 25 0 0 k (by omega)).trans (hrow k hk)
            obtain ⟨_, hv1, hR1⟩ := hd1.resolve_right (fun z => z.1 (by omega))
            subst hv1
            dsimp only [Option.toList, List.cons_append, List.nil_append]
            refine V_istore (lv' := [(4, _), (3, _), (0, _), (1, _), (2, _)]) C d_Re_takeNames_12 (by decide) rfl ?_
            refine V_aload_n C d_Re_takeNames_14 rfl ?_
            refine V_iconst (v := 1) C d_Re_takeNames_15 (by decide) ?_
            refine V_callV (as := [_]) C d_Re_takeNames_16 (c_Re_take (a := (nb fb + 8 * i + 4)) (w := 1) (T := T) (fb := fb) hR1 hn1 (by omega) hT (by omega) hrow) m_Re_take cf_Re k_Re_19 (nn hR1.1) ⟨by decide, by decide⟩ (Nat.le_of_ble_eq_true rfl) ⟨by first | rfl | ((try dsimp only); omega), by first | rfl | ((try dsimp only); omega)⟩ rfl ?_
            rintro _ _ ι12 _ _ ⟨rfl, rfl, rfl, hx2, x2, rfl, hd2⟩
            have hrow : ∀ k, k < T → ι12 25 0 0 k = fb k := fun k hk => (hx2 25 0 0 k (by omega)).trans (hrow k hk)
            obtain ⟨_, hv2, hR2⟩ := hd2.resolve_right (fun z => z.1 (by omega))
            subst hv2
            dsimp only [Option.toList, List.cons_append, List.nil_append]
            refine V_istore (lv' := [(5, _), (4, _), (3, _), (0, _), (1, _), (2, _)]) C d_Re_takeNames_19 (by decide) rfl ?_
            refine V_aload_n C d_Re_takeNames_21 rfl ?_
            refine V_iconst (v := 1) C d_Re_takeNames_22 (by decide) ?_
            refine V_callV (as := [_]) C d_Re_takeNames_23 (c_Re_take (a := (nb fb + 8 * i + 5)) (w := 1) (T := T) (fb := fb) hR2 hn1 (by omega) hT (by omega) hrow) m_Re_take cf_Re k_Re_19 (nn hR2.1) ⟨by decide, by decide⟩ (Nat.le_of_ble_eq_true rfl) ⟨by first | rfl | ((try dsimp only); omega), by first | rfl | ((try dsimp only); omega)⟩ rfl ?_
            rintro _ _ ι13 _ _ ⟨rfl, rfl, rfl, hx3, x3, rfl, hd3⟩
            have hrow : ∀ k, k < T → ι13 25 0 0 k = fb k := fun k hk => (hx3 25 0 0 k (by omega)).trans (hrow k hk)
            obtain ⟨_, hv3, hR3⟩ := hd3.resolve_right (fun z => z.1 (by omega))
            subst hv3
            dsimp only [Option.toList, List.cons_append, List.nil_append]
            refine V_istore (lv' := [(6, _), (5, _), (4, _), (3, _), (0, _), (1, _), (2, _)]) C d_Re_takeNames_26 (by decide) rfl ?_
            refine V_aload_n C d_Re_takeNames_28 rfl ?_
            refine V_iconst (v := 2) C d_Re_takeNames_29 (by decide) ?_
            refine V_callV (as := [_]) C d_Re_takeNames_30 (c_Re_take (a := (nb fb + 8 * i + 6)) (w := 2) (T := T) (fb := fb) hR3 hn1 (by omega) hT (by omega) hrow) m_Re_take cf_Re k_Re_19 (nn hR3.1) ⟨by decide, by decide⟩ (Nat.le_of_ble_eq_true rfl) ⟨by first | rfl | ((try dsimp only); omega), by first | rfl | ((try dsimp only); omega)⟩ rfl ?_
            rintro _ _ ι14 _ _ ⟨rfl, rfl, rfl, hx4, x4, rfl, hd4⟩
            have hrow : ∀ k, k < T → ι14 25 0 0 k = fb k := fun k hk => (hx4 25 0 0 k (by omega)).trans (hrow k hk)
            obtain ⟨_, hv4, hR4⟩ := hd4.resolve_right (fun z => z.1 (by omega))
            subst hv4
            dsimp only [Option.toList, List.cons_append, List.nil_append]
            refine V_istore (lv' := [(7, _), (6, _), (5, _), (4, _), (3, _), (0, _), (1, _), (2, _)]) C d_Re_takeNames_33 (by decide) rfl ?_
            refine V_aload_n C d_Re_takeNames_35 rfl ?_
            have hxx : Rx g ι1 ι14 := ((hx1.tr hx2).tr hx3).tr hx4
            have hU4 := hU1.x hxx
            have hS4 := hS1.x hxx
            have hN4 := hN1.x hxx
            have hiff := nmC (j := i) hc8 hS4 hN4
            refine V_getI (kx := 3) C d_Re_takeNames_36 cf_Re (by decide) k_Re_49 (nn hR4.1) rfl ?_
            refine V_eqi (y := 0) hR4.2.2.2.2 ?_
            refine V_if_ne (tgt := 57) C d_Re_takeNames_39 (by decide) (fun h39 => absurd rfl h39) (fun h39 => ?_)
            refine V_aload_n C d_Re_takeNames_42 rfl ?_
            refine V_iload C d_Re_takeNames_43 rfl ?_
            refine V_iload C d_Re_takeNames_45 rfl ?_
            refine V_iload C d_Re_takeNames_47 rfl ?_
            refine V_iload C d_Re_takeNames_49 rfl ?_
            refine V_callV (as := [_, _, _, _]) C d_Re_takeNames_51 (c_Un_canName hU4) m_Un_canName cf_Un k_Re_69 hU4.al ⟨by decide, by decide⟩ (Nat.le_of_ble_eq_true rfl) ⟨by first | rfl | ((try dsimp only); omega), by first | rfl | ((try dsimp only); omega)⟩ rfl ?_
            rintro _ _ _ _ _ ⟨rfl, rfl, rfl, rfl, rfl⟩
            dsimp only [Option.toList, List.cons_append, List.nil_append]
            refine V_if_ne (tgt := 59) C d_Re_takeNames_54 (by decide) (fun h54 => absurd (hiff.mp (b2_n0.mp h54)) hok) (fun h54 => ?_)
            refine V_iconst (v := 0) C d_Re_takeNames_57 (by decide) ?_
            refine V_zret C hQ (by first | rfl | ((try dsimp only); omega)) (by first | rfl | ((try dsimp only); omega)) d_Re_takeNames_58 rfl rfl ?_
            exact ⟨rfl, hF1.x hxx, false, rfl, (fun z => nomatch z), fun _ z => hok (z i him).2⟩
        · obtain ⟨A0, a0, hA0, hq0, hl0⟩ : ∃ A0 a0 : Nat, a0 = nb fb + 8 * i ∧ ((0 : Int32) = 1 ∨ a0 = A0) ∧ a0 ≤ T := ⟨_, _, rfl, Or.inr rfl, hso⟩
          have hA1 : A0 = nb fb + 8 * i := by rcases hq0 with z | z; exact absurd z (by decide); omega
          rw [← hA0] at hR0
          refine V_iload_n C d_Re_takeNames_2 rfl ?_
          refine V_iload_n C d_Re_takeNames_3 rfl ?_
          refine V_icmp_ge (tgt := 85) C d_Re_takeNames_4 (by decide) (fun h4 => absurd ((nI_leI (a := m9) (b := i) (by omega) (by omega)).mp h4) (by omega)) (fun h4 => ?_)
          refine V_aload_n C d_Re_takeNames_7 rfl ?_
          refine V_iconst (v := 4) C d_Re_takeNames_8 (by decide) ?_
          refine V_callV (as := [_]) C d_Re_takeNames_9 (c_Re_take (a := a0) (w := 4) (T := T) (fb := fb) hR0 hn1 hl0 hT (by omega) hrow) m_Re_take cf_Re k_Re_19 (nn hR0.1) ⟨by decide, by decide⟩ (Nat.le_of_ble_eq_true rfl) ⟨by first | rfl | ((try dsimp only); omega), by first | rfl | ((try dsimp only); omega)⟩ rfl ?_
          rintro _ _ ι11 _ _ ⟨rfl, rfl, rfl, hx1, x1, rfl, hd1⟩
          have hrow : ∀ k, k < T → ι11 25 0 0 k = fb k := fun k hk => (hx1 25 0 0 k (by omega)).trans (hrow k hk)
          obtain ⟨a1, b1, hR1, hl1, hq1⟩ : ∃ a9 b9, RDR ν1 ι11 ρ1 g T a9 b9 ∧ a9 ≤ T ∧ (b9 = 1 ∨ a9 = A0 + 4) := by
            rcases hd1 with ⟨q1, q2, q3⟩ | ⟨q1, q3⟩
            · exact ⟨_, _, q3, by omega, hq0.imp id (fun z => by omega)⟩
            · exact ⟨_, _, q3, hl0, Or.inl rfl⟩
          dsimp only [Option.toList, List.cons_append, List.nil_append]
          refine V_istore (lv' := [(4, _), (3, _), (0, _), (1, _), (2, _)]) C d_Re_takeNames_12 (by decide) rfl ?_
          refine V_aload_n C d_Re_takeNames_14 rfl ?_
          refine V_iconst (v := 1) C d_Re_takeNames_15 (by decide) ?_
          refine V_callV (as := [_]) C d_Re_takeNames_16 (c_Re_take (a := a1) (w := 1) (T := T) (fb := fb) hR1 hn1 hl1 hT (by omega) hrow) m_Re_take cf_Re k_Re_19 (nn hR1.1) ⟨by decide, by decide⟩ (Nat.le_of_ble_eq_true rfl) ⟨by first | rfl | ((try dsimp only); omega), by first | rfl | ((try dsimp only); omega)⟩ rfl ?_
          rintro _ _ ι12 _ _ ⟨rfl, rfl, rfl, hx2, x2, rfl, hd2⟩
          have hrow : ∀ k, k < T → ι12 25 0 0 k = fb k := fun k hk => (hx2 25 0 0 k (by omega)).trans (hrow k hk)
          obtain ⟨a2, b2, hR2, hl2, hq2⟩ : ∃ a9 b9, RDR ν1 ι12 ρ1 g T a9 b9 ∧ a9 ≤ T ∧ (b9 = 1 ∨ a9 = A0 + 5) := by
            rcases hd2 with ⟨q1, q2, q3⟩ | ⟨q1, q3⟩
            · exact ⟨_, _, q3, by omega, hq1.imp id (fun z => by omega)⟩
            · exact ⟨_, _, q3, hl1, Or.inl rfl⟩
          dsimp only [Option.toList, List.cons_append, List.nil_append]
          refine V_istore (lv' := [(5, _), (4, _), (3, _), (0, _), (1, _), (2, _)]) C d_Re_takeNames_19 (by decide) rfl ?_
          refine V_aload_n C d_Re_takeNames_21 rfl ?_
          refine V_iconst (v := 1) C d_Re_takeNames_22 (by decide) ?_
          refine V_callV (as := [_]) C d_Re_takeNames_23 (c_Re_take (a := a2) (w := 1) (T := T) (fb := fb) hR2 hn1 hl2 hT (by omega) hrow) m_Re_take cf_Re k_Re_19 (nn hR2.1) ⟨by decide, by decide⟩ (Nat.le_of_ble_eq_true rfl) ⟨by first | rfl | ((try dsimp only); omega), by first | rfl | ((try dsimp only); omega)⟩ rfl ?_
          rintro _ _ ι13 _ _ ⟨rfl, rfl, rfl, hx3, x3, rfl, hd3⟩
          have hrow : ∀ k, k < T → ι13 25 0 0 k = fb k := fun k hk => (hx3 25 0 0 k (by omega)).trans (hrow k hk)
          obtain ⟨a3, b3, hR3, hl3, hq3⟩ : ∃ a9 b9, RDR ν1 ι13 ρ1 g T a9 b9 ∧ a9 ≤ T ∧ (b9 = 1 ∨ a9 = A0 + 6) := by
            rcases hd3 with ⟨q1, q2, q3⟩ | ⟨q1, q3⟩
            · exact ⟨_, _, q3, by omega, hq2.imp id (fun z => by omega)⟩
            · exact ⟨_, _, q3, hl2, Or.inl rfl⟩
          dsimp only [Option.toList, List.cons_append, List.nil_append]
          refine V_istore (lv' := [(6, _), (5, _), (4, _), (3, _), (0, _), (1, _), (2, _)]) C d_Re_takeNames_26 (by decide) rfl ?_
          refine V_aload_n C d_Re_takeNames_28 rfl ?_
          refine V_iconst (v := 2) C d_Re_takeNames_29 (by decide) ?_
          refine V_callV (as := [_]) C d_Re_takeNames_30 (c_Re_take (a := a3) (w := 2) (T := T) (fb := fb) hR3 hn1 hl3 hT (by omega) hrow) m_Re_take cf_Re k_Re_19 (nn hR3.1) ⟨by decide, by decide⟩ (Nat.le_of_ble_eq_true rfl) ⟨by first | rfl | ((try dsimp only); omega), by first | rfl | ((try dsimp only); omega)⟩ rfl ?_
          rintro _ _ ι14 _ _ ⟨rfl, rfl, rfl, hx4, x4, rfl, hd4⟩
          have hrow : ∀ k, k < T → ι14 25 0 0 k = fb k := fun k hk => (hx4 25 0 0 k (by omega)).trans (hrow k hk)
          obtain ⟨a4, b4, hR4, hl4, hq4⟩ : ∃ a9 b9, RDR ν1 ι14 ρ1 g T a9 b9 ∧ a9 ≤ T ∧ (b9 = 1 ∨ a9 = A0 + 8) := by
            rcases hd4 with ⟨q1, q2, q3⟩ | ⟨q1, q3⟩
            · exact ⟨_, _, q3, by omega, hq3.imp id (fun z => by omega)⟩
            · exact ⟨_, _, q3, hl3, Or.inl rfl⟩
          dsimp only [Option.toList, List.cons_append, List.nil_append]
          refine V_istore (lv' := [(7, _), (6, _), (5, _), (4, _), (3, _), (0, _), (1, _), (2, _)]) C d_Re_takeNames_33 (by decide) rfl ?_
          refine V_aload_n C d_Re_takeNames_35 rfl ?_
          refine V_getI (kx := 3) C d_Re_takeNames_36 cf_Re (by decide) k_Re_49 (nn hR4.1) rfl ?_
          have hb4 : b4 = 1 := hq4.resolve_right (fun z => by omega)
          refine V_eqi (y := 1) (hR4.2.2.2.2.trans hb4) ?_
          refine V_if_ne (tgt := 57) C d_Re_takeNames_39 (by decide) (fun h39 => ?_) (fun h39 => absurd h39 (by decide))
          refine V_iconst (v := 0) C d_Re_takeNames_57 (by decide) ?_
          refine V_zret C hQ (by first | rfl | ((try dsimp only); omega)) (by first | rfl | ((try dsimp only); omega)) d_Re_takeNames_58 rfl rfl ?_
          exact ⟨rfl, (((hF1.x hx1).x hx2).x hx3).x hx4, false, rfl, (fun z => nomatch z), fun _ z => h4b (z i him).1⟩
      · have him2 : i = m9 := by omega
        subst him2
        refine V_iload_n C d_Re_takeNames_2 rfl ?_
        refine V_iload_n C d_Re_takeNames_3 rfl ?_
        refine V_icmp_ge (tgt := 85) C d_Re_takeNames_4 (by decide) (fun h4 => ?_) (fun h4 => absurd ((nI_leI (by omega) (by omega)).mpr (Nat.le_refl _)) h4)
        refine V_iconst (v := 1) C d_Re_takeNames_85 (by decide) ?_
        refine V_zret C hQ (by first | rfl | ((try dsimp only); omega)) (by first | rfl | ((try dsimp only); omega)) d_Re_takeNames_86 rfl rfl ?_
        exact ⟨rfl, hF1, true, rfl, fun _ => ⟨hok1, hU1, hS1, hN1, hR0, hso⟩, (fun z => nomatch z)⟩
  refine V_iconst (v := 0) C d_Re_takeNames_0 (by decide) ?_
  refine V_istore_n (lv' := [(3, _), (0, _), (1, _), (2, _)]) C d_Re_takeNames_1 (by decide) rfl ?_
  refine V_pick [0, 1, 2, 3] rfl ?_
  exact loop (m9 + 1) 0 ν ι ρ (by omega) (by omega) RFr.rf hU hR h5 hS (fun j hj => absurd hj (by omega)) (fun j hj => absurd hj (by omega))
set_option maxHeartbeats 1000000 in
set_option maxRecDepth 10000 in
theorem c_Re_takeReferences {ν : Nu} {ι : Io} {ρ : Ro} {ℓ : Lo} {o g T m9 : Nat} {fb : Nat → Int32} (hR : RDR ν ι ρ g T (rb fb) 0) (hU : UI ν ι ρ o (cS fb) (cN fb) 0) (hS : CSo ι o fb (cS fb)) (hN : CNo ι o fb (cN fb)) (hc8 : cS fb ≤ 8) (hn25 : ν 25 0 0 = some 1303) (h5 : rb fb ≤ T) (hT : T + 2 ≤ 1303) (hm : m9 ≤ 16) (hf : ∀ k, k < T → ι 25 0 0 k = fb k) : Ct y_Re_takeReferences (Cond.code y_Re_takeReferences b_Re_takeReferences 9 (some .boolean) :: tb_) { frames := 2, cells := 16, slots := 80, locals := 65 } [sR 5 g 0, sR 8 o 0, sI (nI m9)] ν ι ρ ℓ (fun v ν1 ι1 ρ1 ℓ1 => ℓ = ℓ1 ∧ RFr o g ν ν1 ι ι1 ρ ρ1 ∧ ∃ b : Bool, some (sI (b2 (b = true))) = v ∧ (b = true → (∀ j, j < m9 → OKr fb T j) ∧ UI ν1 ι1 ρ1 o (cS fb) (cN fb) m9 ∧ CSo ι1 o fb (cS fb) ∧ CNo ι1 o fb (cN fb) ∧ CRo ι1 o fb m9 ∧ RDR ν1 ι1 ρ1 g T (rb fb + 9 * m9) 0) ∧ (b = false → ¬ ∀ j, j < m9 → OKr fb T j)) (noX) := by
  refine Ct.ofV (by decide) (Nat.le_of_ble_eq_true rfl) rfl ?_
  intro p l e s m args below meth c D B tW α0 Q C hQ
  have loop : ∀ (f : Nat) (i : Nat) (ν1 : Nu) (ι1 : Io) (ρ1 : Ro), m9 - i < f → i ≤ m9 → RFr o g ν ν1 ι ι1 ρ ρ1 → UI ν1 ι1 ρ1 o (cS fb) (cN fb) i → RDR ν1 ι1 ρ1 g T (rb fb + 9 * i) 0 → rb fb + 9 * i ≤ T → CSo ι1 o fb (cS fb) → CNo ι1 o fb (cN fb) → CRo ι1 o fb i → (∀ j, j < i → OKr fb T j) → V p l e { frames := 2, cells := 16, slots := 80, locals := 65 } s m args below meth c D B α0 ν 9 Q i (5 * i) ν1 ι1 ρ1 ℓ 2 [(3, sI (nI i)), (0, sR 5 g 0), (1, sR 8 o 0), (2, sI (nI m9))] [] := by
    intro f
    induction f with
    | zero => intros; omega
    | succ f ih =>
      intro i ν1 ι1 ρ1 hf9 hi0 hF1 hU1 hR0 hso hS1 hN1 hQ1 hok1
      have hn1 : ν1 25 0 0 = some 1303 := (hF1.1 25 0 0 (by unfold isG isC; omega)).trans hn25
      have hrow : ∀ k, k < T → ι1 25 0 0 k = fb k := fun k hk => (hF1.2.1 25 0 0 k (by unfold isG isC; omega)).trans (hf k hk)
      rcases Nat.lt_or_ge i m9 with him | him
      · by_cases h4b : rb fb + 9 * (i + 1) ≤ T
        · by_cases hok : rfOK fb i
          · skip
            refine V_iload_n C d_Re_takeReferences_2 rfl ?_
            refine V_iload_n C d_Re_takeReferences_3 rfl ?_
            refine V_icmp_ge (tgt := 94) C d_Re_takeReferences_4 (by decide) (fun h4 => absurd ((nI_leI (a := m9) (b := i) (by omega) (by omega)).mp h4) (by omega)) (fun h4 => ?_)
            refine V_aload_n C d_Re_takeReferences_7 rfl ?_
            refine V_iconst (v := 1) C d_Re_takeReferences_8 (by decide) ?_
            refine V_callV (as := [_]) C d_Re_takeReferences_9 (c_Re_take (a := (rb fb + 9 * i)) (w := 1) (T := T) (fb := fb) hR0 hn1 (by omega) hT (by omega) hrow) m_Re_take cf_Re k_Re_19 (nn hR0.1) ⟨by decide, by decide⟩ (Nat.le_of_ble_eq_true rfl) ⟨by first | rfl | ((try dsimp only); omega), by first | rfl | ((try dsimp only); omega)⟩ rfl ?_
            rintro _ _ ι11 _ _ ⟨rfl, rfl, rfl, hx1, x1, rfl, hd1⟩
            have hrow : ∀ k, k < T → ι11 25 0 0 k = fb k := fun k hk => (hx1 25 0 0 k (by omega)).trans (hrow k hk)
            obtain ⟨_, hv1, hR1⟩ := hd1.resolve_right (fun z => z.1 (by omega))
            subst hv1
            dsimp only [Option.toList, List.cons_append, List.nil_append]
            refine V_istore (lv' := [(4, _), (3, _), (0, _), (1, _), (2, _)]) C d_Re_takeReferences_12 (by decide) rfl ?_
            refine V_aload_n C d_Re_takeReferences_14 rfl ?_
            refine V_iconst (v := 2) C d_Re_takeReferences_15 (by decide) ?_
            refine V_callV (as := [_]) C d_Re_takeReferences_16 (c_Re_take (a := (rb fb + 9 * i + 1)) (w := 2) (T := T) (fb := fb) hR1 hn1 (by omega) hT (by omega) hrow) m_Re_take cf_Re k_Re_19 (nn hR1.1) ⟨by decide, by decide⟩ (Nat.le_of_ble_eq_true rfl) ⟨by first | rfl | ((try dsimp only); omega), by first | rfl | ((try dsimp only); omega)⟩ rfl ?_
            rintro _ _ ι12 _ _ ⟨rfl, rfl, rfl, hx2, x2, rfl, hd2⟩
            have hrow : ∀ k, k < T → ι12 25 0 0 k = fb k := fun k hk => (hx2 25 0 0 k (by omega)).trans (hrow k hk)
            obtain ⟨_, hv2, hR2⟩ := hd2.resolve_right (fun z => z.1 (by omega))
            subst hv2
            dsimp only [Option.toList, List.cons_append, List.nil_append]
            refine V_istore (lv' := [(5, _), (4, _), (3, _), (0, _), (1, _), (2, _)]) C d_Re_takeReferences_19 (by decide) rfl ?_
            refine V_aload_n C d_Re_takeReferences_21 rfl ?_
            refine V_iconst (v := 1) C d_Re_takeReferences_22 (by decide) ?_
            refine V_callV (as := [_]) C d_Re_takeReferences_23 (c_Re_take (a := (rb fb + 9 * i + 3)) (w := 1) (T := T) (fb := fb) hR2 hn1 (by omega) hT (by omega) hrow) m_Re_take cf_Re k_Re_19 (nn hR2.1) ⟨by decide, by decide⟩ (Nat.le_of_ble_eq_true rfl) ⟨by first | rfl | ((try dsimp only); omega), by first | rfl | ((try dsimp only); omega)⟩ rfl ?_
            rintro _ _ ι13 _ _ ⟨rfl, rfl, rfl, hx3, x3, rfl, hd3⟩
            have hrow : ∀ k, k < T → ι13 25 0 0 k = fb k := fun k hk => (hx3 25 0 0 k (by omega)).trans (hrow k hk)
            obtain ⟨_, hv3, hR3⟩ := hd3.resolve_right (fun z => z.1 (by omega))
            subst hv3
            dsimp only [Option.toList, List.cons_append, List.nil_append]
            refine V_istore (lv' := [(6, _), (5, _), (4, _), (3, _), (0, _), (1, _), (2, _)]) C d_Re_takeReferences_26 (by decide) rfl ?_
            refine V_aload_n C d_Re_takeReferences_28 rfl ?_
            refine V_iconst (v := 1) C d_Re_takeReferences_29 (by decide) ?_
            refine V_callV (as := [_]) C d_Re_takeReferences_30 (c_Re_take (a := (rb fb + 9 * i + 4)) (w := 1) (T := T) (fb := fb) hR3 hn1 (by omega) hT (by omega) hrow) m_Re_take cf_Re k_Re_19 (nn hR3.1) ⟨by decide, by decide⟩ (Nat.le_of_ble_eq_true rfl) ⟨by first | rfl | ((try dsimp only); omega), by first | rfl | ((try dsimp only); omega)⟩ rfl ?_
            rintro _ _ ι14 _ _ ⟨rfl, rfl, rfl, hx4, x4, rfl, hd4⟩
            have hrow : ∀ k, k < T → ι14 25 0 0 k = fb k := fun k hk => (hx4 25 0 0 k (by omega)).trans (hrow k hk)
            obtain ⟨_, hv4, hR4⟩ := hd4.resolve_right (fun z => z.1 (by omega))
            subst hv4
            dsimp only [Option.toList, List.cons_append, List.nil_append]
            refine V_istore (lv' := [(7, _), (6, _), (5, _), (4, _), (3, _), (0, _), (1, _), (2, _)]) C d_Re_takeReferences_33 (by decide) rfl ?_
            refine V_aload_n C d_Re_takeReferences_35 rfl ?_
            refine V_iconst (v := 4) C d_Re_takeReferences_36 (by decide) ?_
            refine V_callV (as := [_]) C d_Re_takeReferences_37 (c_Re_take (a := (rb fb + 9 * i + 5)) (w := 4) (T := T) (fb := fb) hR4 hn1 (by omega) hT (by omega) hrow) m_Re_take cf_Re k_Re_19 (nn hR4.1) ⟨by decide, by decide⟩ (Nat.le_of_ble_eq_true rfl) ⟨by first | rfl | ((try dsimp only); omega), by first | rfl | ((try dsimp only); omega)⟩ rfl ?_
            rintro _ _ ι15 _ _ ⟨rfl, rfl, rfl, hx5, x5, rfl, hd5⟩
            have hrow : ∀ k, k < T → ι15 25 0 0 k = fb k := fun k hk => (hx5 25 0 0 k (by omega)).trans (hrow k hk)
            obtain ⟨_, hv5, hR5⟩ := hd5.resolve_right (fun z => z.1 (by omega))
            subst hv5
            dsimp only [Option.toList, List.cons_append, List.nil_append]
            refine V_istore (lv' := [(8, _), (7, _), (6, _), (5, _), (4, _), (3, _), (0, _), (1, _), (2, _)]) C d_Re_takeReferences_40 (by decide) rfl ?_
            refine V_aload_n C d_Re_takeReferences_42 rfl ?_
            have hxx : Rx g ι1 ι15 := (((hx1.tr hx2).tr hx3).tr hx4).tr hx5
            have hU4 := hU1.x hxx
            have hS4 := hS1.x hxx
            have hN4 := hN1.x hxx
            have hQ4 := hQ1.x hxx
            have hiff := rfC (j := i) hc8 hS4
            refine V_getI (kx := 3) C d_Re_takeReferences_43 cf_Re (by decide) k_Re_49 (nn hR5.1) rfl ?_
            refine V_eqi (y := 0) hR5.2.2.2.2 ?_
            refine V_if_ne (tgt := 64) C d_Re_takeReferences_46 (by decide) (fun h46 => absurd rfl h46) (fun h46 => ?_)
            refine V_aload_n C d_Re_takeReferences_49 rfl ?_
            refine V_iload C d_Re_takeReferences_50 rfl ?_
            refine V_iload C d_Re_takeReferences_52 rfl ?_
            refine V_iload C d_Re_takeReferences_54 rfl ?_
            refine V_iload C d_Re_takeReferences_56 rfl ?_
            refine V_callV (as := [_, _, _, _]) C d_Re_takeReferences_58 (c_Un_canRefer hU4) m_Un_canRefer cf_Un k_Re_82 hU4.al ⟨by decide, by decide⟩ (Nat.le_of_ble_eq_true rfl) ⟨by first | rfl | ((try dsimp only); omega), by first | rfl | ((try dsimp only); omega)⟩ rfl ?_
            rintro _ _ _ _ _ ⟨rfl, rfl, rfl, rfl, rfl⟩
            dsimp only [Option.toList, List.cons_append, List.nil_append]
            refine V_if_ne (tgt := 66) C d_Re_takeReferences_61 (by decide) (fun h61 => ?_) (fun h61 => absurd (hiff.mpr hok) (b2_0.mp h61))
            refine V_aload_n C d_Re_takeReferences_66 rfl ?_
            refine V_new (i := o) (j := i) C d_Re_takeReferences_67 cf_Rf k_Re_85 (hU4.fr (Nat.le_refl i)) (fun k hk => ?_) (by first | rfl | ((try dsimp only); omega)) (by first | rfl | ((try dsimp only); omega)) ?_
            · rcases (show k = 0 ∨ k = 1 ∨ k = 2 ∨ k = 3 ∨ k = 4 by omega) with rfl | rfl | rfl | rfl | rfl <;> first | exact Or.inl ⟨rfl, rfl⟩ | exact Or.inr ⟨rfl, rfl⟩
            refine V_dup C d_Re_takeReferences_70 rfl ?_
            refine V_iload C d_Re_takeReferences_71 rfl ?_
            refine V_iload C d_Re_takeReferences_73 rfl ?_
            refine V_iload C d_Re_takeReferences_75 rfl ?_
            refine V_iload C d_Re_takeReferences_77 rfl ?_
            refine V_iload C d_Re_takeReferences_79 rfl ?_
            refine V_callI (as := [_, _, _, _, _]) C d_Re_takeReferences_81 (c_Rf_init (ν := up3 ν1 6 o i (some 5)) (o := o) (i9 := i) (nn up3_s)) m_Rf_init k_Re_87 ⟨by decide, by decide⟩ (Nat.le_of_ble_eq_true rfl) ⟨by first | rfl | ((try dsimp only); omega), by first | rfl | ((try dsimp only); omega)⟩ rfl ?_
            rintro _ _ _ _ _ ⟨rfl, rfl, rfl, rfl, rfl⟩
            dsimp only [Option.toList, List.cons_append, List.nil_append]
            refine V_callV (as := [_]) C d_Re_takeReferences_84 (c_Un_addReference (ν := rν ν1 o i) (ι := (up4 (up4 (up4 (up4 (up4 (upA ι15 6 o i (fun _ => 0)) 6 o i 0 (qS fb i)) 6 o i 1 (qP fb i)) 6 o i 2 (qW fb i)) 6 o i 3 (qN fb i)) 6 o i 4 (qA fb i))) (ρ := upA ρ1 6 o i (fun _ => none)) (o := o) (k9 := i) hU4.u (by simp (disch := omega) only [up4_ne, upA_ne]; exact hU4.er) (by omega) (by simp [up3])) m_Un_addReference cf_Un k_Re_90 hU4.al ⟨by decide, by decide⟩ (Nat.le_of_ble_eq_true rfl) ⟨by first | rfl | ((try dsimp only); omega), by first | rfl | ((try dsimp only); omega)⟩ rfl ?_
            rintro _ _ _ _ _ ⟨rfl, rfl, rfl, rfl, rfl⟩
            dsimp only [Option.toList, List.cons_append, List.nil_append]
            refine V_pop C d_Re_takeReferences_87 rfl ?_
            refine V_iinc (v := nI (i + 1)) (lv' := [(3, _), (8, _), (7, _), (6, _), (5, _), (4, _), (0, _), (1, _), (2, _)]) C d_Re_takeReferences_88 rfl (nI_1 i) (by decide) rfl ?_
            refine V_goto (tgt := 2) C d_Re_takeReferences_91 (by decide) ?_
            refine V_pick [0, 6, 7, 8] rfl ?_
            refine V_cs (c2 := i + 1) (s2 := 5 * (i + 1)) (by first | rfl | ((try dsimp only); omega)) (by first | rfl | ((try dsimp only); omega)) ?_
            have hA9 : RFr o g ν1 (rν ν1 o i) ι1 (rι ι15 o i (qS fb i) (qP fb i) (qW fb i) (qN fb i) (qA fb i)) ρ1 (rρ ρ1 o i) := (((((((((RFr.rf.x hxx).n g6).iA g6).io g6).io g6).io g6).io g6).io g6).io g8).qA g6 |>.q g23
            exact ih (i + 1) _ _ _ (by omega) (by omega) (hF1.tr hA9) (UI.ref hU4 (by omega)) (show RDR _ (rι ι15 o i (qS fb i) (qP fb i) (qW fb i) (qN fb i) (qA fb i)) _ g T (rb fb + 9 * (i + 1)) 0 from hR5) (by omega) hS4.r hN4.r hQ4.add (fun j hj => by
                by_cases hq : j = i
                · rw [hq]; exact ⟨by omega, hok⟩
                · exact hok1 j (by omega))
          · skip
            refine V_iload_n C d_Re_takeReferences_2 rfl ?_
            refine V_iload_n C d_Re_takeReferences_3 rfl ?_
            refine V_icmp_ge (tgt := 94) C d_Re_takeReferences_4 (by decide) (fun h4 => absurd ((nI_leI (a := m9) (b := i) (by omega) (by omega)).mp h4) (by omega)) (fun h4 => ?_)
            refine V_aload_n C d_Re_takeReferences_7 rfl ?_
            refine V_iconst (v := 1) C d_Re_takeReferences_8 (by decide) ?_
            refine V_callV (as := [_]) C d_Re_takeReferences_9 (c_Re_take (a := (rb fb + 9 * i)) (w := 1) (T := T) (fb := fb) hR0 hn1 (by omega) hT (by omega) hrow) m_Re_take cf_Re k_Re_19 (nn hR0.1) ⟨by decide, by decide⟩ (Nat.le_of_ble_eq_true rfl) ⟨by first | rfl | ((try dsimp only); omega), by first | rfl | ((try dsimp only); omega)⟩ rfl ?_
            rintro _ _ ι11 _ _ ⟨rfl, rfl, rfl, hx1, x1, rfl, hd1⟩
            have hrow : ∀ k, k < T → ι11 25 0 0 k = fb k := fun k hk => (hx1 25 0 0 k (by omega)).trans (hrow k hk)
            obtain ⟨_, hv1, hR1⟩ := hd1.resolve_right (fun z => z.1 (by omega))
            subst hv1
            dsimp only [Option.toList, List.cons_append, List.nil_append]
            refine V_istore (lv' := [(4, _), (3, _), (0, _), (1, _), (2, _)]) C d_Re_takeReferences_12 (by decide) rfl ?_
            refine V_aload_n C d_Re_takeReferences_14 rfl ?_
            refine V_iconst (v := 2) C d_Re_takeReferences_15 (by decide) ?_
            refine V_callV (as := [_]) C d_Re_takeReferences_16 (c_Re_take (a := (rb fb + 9 * i + 1)) (w := 2) (T := T) (fb := fb) hR1 hn1 (by omega) hT (by omega) hrow) m_Re_take cf_Re k_Re_19 (nn hR1.1) ⟨by decide, by decide⟩ (Nat.le_of_ble_eq_true rfl) ⟨by first | rfl | ((try dsimp only); omega), by first | rfl | ((try dsimp only); omega)⟩ rfl ?_
            rintro _ _ ι12 _ _ ⟨rfl, rfl, rfl, hx2, x2, rfl, hd2⟩
            have hrow : ∀ k, k < T → ι12 25 0 0 k = fb k := fun k hk => (hx2 25 0 0 k (by omega)).trans (hrow k hk)
            obtain ⟨_, hv2, hR2⟩ := hd2.resolve_right (fun z => z.1 (by omega))
            subst hv2
            dsimp only [Option.toList, List.cons_append, List.nil_append]
            refine V_istore (lv' := [(5, _), (4, _), (3, _), (0, _), (1, _), (2, _)]) C d_Re_takeReferences_19 (by decide) rfl ?_
            refine V_aload_n C d_Re_takeReferences_21 rfl ?_
            refine V_iconst (v := 1) C d_Re_takeReferences_22 (by decide) ?_
            refine V_callV (as := [_]) C d_Re_takeReferences_23 (c_Re_take (a := (rb fb + 9 * i + 3)) (w := 1) (T := T) (fb := fb) hR2 hn1 (by omega) hT (by omega) hrow) m_Re_take cf_Re k_Re_19 (nn hR2.1) ⟨by decide, by decide⟩ (Nat.le_of_ble_eq_true rfl) ⟨by first | rfl | ((try dsimp only); omega), by first | rfl | ((try dsimp only); omega)⟩ rfl ?_
            rintro _ _ ι13 _ _ ⟨rfl, rfl, rfl, hx3, x3, rfl, hd3⟩
            have hrow : ∀ k, k < T → ι13 25 0 0 k = fb k := fun k hk => (hx3 25 0 0 k (by omega)).trans (hrow k hk)
            obtain ⟨_, hv3, hR3⟩ := hd3.resolve_right (fun z => z.1 (by omega))
            subst hv3
            dsimp only [Option.toList, List.cons_append, List.nil_append]
            refine V_istore (lv' := [(6, _), (5, _), (4, _), (3, _), (0, _), (1, _), (2, _)]) C d_Re_takeReferences_26 (by decide) rfl ?_
            refine V_aload_n C d_Re_takeReferences_28 rfl ?_
            refine V_iconst (v := 1) C d_Re_takeReferences_29 (by decide) ?_
            refine V_callV (as := [_]) C d_Re_takeReferences_30 (c_Re_take (a := (rb fb + 9 * i + 4)) (w := 1) (T := T) (fb := fb) hR3 hn1 (by omega) hT (by omega) hrow) m_Re_take cf_Re k_Re_19 (nn hR3.1) ⟨by decide, by decide⟩ (Nat.le_of_ble_eq_true rfl) ⟨by first | rfl | ((try dsimp only); omega), by first | rfl | ((try dsimp only); omega)⟩ rfl ?_
            rintro _ _ ι14 _ _ ⟨rfl, rfl, rfl, hx4, x4, rfl, hd4⟩
            have hrow : ∀ k, k < T → ι14 25 0 0 k = fb k := fun k hk => (hx4 25 0 0 k (by omega)).trans (hrow k hk)
            obtain ⟨_, hv4, hR4⟩ := hd4.resolve_right (fun z => z.1 (by omega))
            subst hv4
            dsimp only [Option.toList, List.cons_append, List.nil_append]
            refine V_istore (lv' := [(7, _), (6, _), (5, _), (4, _), (3, _), (0, _), (1, _), (2, _)]) C d_Re_takeReferences_33 (by decide) rfl ?_
            refine V_aload_n C d_Re_takeReferences_35 rfl ?_
            refine V_iconst (v := 4) C d_Re_takeReferences_36 (by decide) ?_
            refine V_callV (as := [_]) C d_Re_takeReferences_37 (c_Re_take (a := (rb fb + 9 * i + 5)) (w := 4) (T := T) (fb := fb) hR4 hn1 (by omega) hT (by omega) hrow) m_Re_take cf_Re k_Re_19 (nn hR4.1) ⟨by decide, by decide⟩ (Nat.le_of_ble_eq_true rfl) ⟨by first | rfl | ((try dsimp only); omega), by first | rfl | ((try dsimp only); omega)⟩ rfl ?_
            rintro _ _ ι15 _ _ ⟨rfl, rfl, rfl, hx5, x5, rfl, hd5⟩
            have hrow : ∀ k, k < T → ι15 25 0 0 k = fb k := fun k hk => (hx5 25 0 0 k (by omega)).trans (hrow k hk)
            obtain ⟨_, hv5, hR5⟩ := hd5.resolve_right (fun z => z.1 (by omega))
            subst hv5
            dsimp only [Option.toList, List.cons_append, List.nil_append]
            refine V_istore (lv' := [(8, _), (7, _), (6, _), (5, _), (4, _), (3, _), (0, _), (1, _), (2, _)]) C d_Re_takeReferences_40 (by decide) rfl ?_
            refine V_aload_n C d_Re_takeReferences_42 rfl ?_
            have hxx : Rx g ι1 ι15 := (((hx1.tr hx2).tr hx3).tr hx4).tr hx5
            have hU4 := hU1.x hxx
            have hS4 := hS1.x hxx
            have hN4 := hN1.x hxx
            have hQ4 := hQ1.x hxx
            have hiff := rfC (j := i) hc8 hS4
            refine V_getI (kx := 3) C d_Re_takeReferences_43 cf_Re (by decide) k_Re_49 (nn hR5.1) rfl ?_
            refine V_eqi (y := 0) hR5.2.2.2.2 ?_
            refine V_if_ne (tgt := 64) C d_Re_takeReferences_46 (by decide) (fun h46 => absurd rfl h46) (fun h46 => ?_)
            refine V_aload_n C d_Re_takeReferences_49 rfl ?_
            refine V_iload C d_Re_takeReferences_50 rfl ?_
            refine V_iload C d_Re_takeReferences_52 rfl ?_
            refine V_iload C d_Re_takeReferences_54 rfl ?_
            refine V_iload C d_Re_takeReferences_56 rfl ?_
            refine V_callV (as := [_, _, _, _]) C d_Re_takeReferences_58 (c_Un_canRefer hU4) m_Un_canRefer cf_Un k_Re_82 hU4.al ⟨by decide, by decide⟩ (Nat.le_of_ble_eq_true rfl) ⟨by first | rfl | ((try dsimp only); omega), by first | rfl | ((try dsimp only); omega)⟩ rfl ?_
            rintro _ _ _ _ _ ⟨rfl, rfl, rfl, rfl, rfl⟩
            dsimp only [Option.toList, List.cons_append, List.nil_append]
            refine V_if_ne (tgt := 66) C d_Re_takeReferences_61 (by decide) (fun h61 => absurd (hiff.mp (b2_n0.mp h61)) hok) (fun h61 => ?_)
            refine V_iconst (v := 0) C d_Re_takeReferences_64 (by decide) ?_
            refine V_zret C hQ (by first | rfl | ((try dsimp only); omega)) (by first | rfl | ((try dsimp only); omega)) d_Re_takeReferences_65 rfl rfl ?_
            exact ⟨rfl, hF1.x hxx, false, rfl, (fun z => nomatch z), fun _ z => hok (z i him).2⟩
        · obtain ⟨A0, a0, hA0, hq0, hl0⟩ : ∃ A0 a0 : Nat, a0 = rb fb + 9 * i ∧ ((0 : Int32) = 1 ∨ a0 = A0) ∧ a0 ≤ T := ⟨_, _, rfl, Or.inr rfl, hso⟩
          have hA1 : A0 = rb fb + 9 * i := by rcases hq0 with z | z; exact absurd z (by decide); omega
          rw [← hA0] at hR0
          refine V_iload_n C d_Re_takeReferences_2 rfl ?_
          refine V_iload_n C d_Re_takeReferences_3 rfl ?_
          refine V_icmp_ge (tgt := 94) C d_Re_takeReferences_4 (by decide) (fun h4 => absurd ((nI_leI (a := m9) (b := i) (by omega) (by omega)).mp h4) (by omega)) (fun h4 => ?_)
          refine V_aload_n C d_Re_takeReferences_7 rfl ?_
          refine V_iconst (v := 1) C d_Re_takeReferences_8 (by decide) ?_
          refine V_callV (as := [_]) C d_Re_takeReferences_9 (c_Re_take (a := a0) (w := 1) (T := T) (fb := fb) hR0 hn1 hl0 hT (by omega) hrow) m_Re_take cf_Re k_Re_19 (nn hR0.1) ⟨by decide, by decide⟩ (Nat.le_of_ble_eq_true rfl) ⟨by first | rfl | ((try dsimp only); omega), by first | rfl | ((try dsimp only); omega)⟩ rfl ?_
          rintro _ _ ι11 _ _ ⟨rfl, rfl, rfl, hx1, x1, rfl, hd1⟩
          have hrow : ∀ k, k < T → ι11 25 0 0 k = fb k := fun k hk => (hx1 25 0 0 k (by omega)).trans (hrow k hk)
          obtain ⟨a1, b1, hR1, hl1, hq1⟩ : ∃ a9 b9, RDR ν1 ι11 ρ1 g T a9 b9 ∧ a9 ≤ T ∧ (b9 = 1 ∨ a9 = A0 + 1) := by
            rcases hd1 with ⟨q1, q2, q3⟩ | ⟨q1, q3⟩
            · exact ⟨_, _, q3, by omega, hq0.imp id (fun z => by omega)⟩
            · exact ⟨_, _, q3, hl0, Or.inl rfl⟩
          dsimp only [Option.toList, List.cons_append, List.nil_append]
          refine V_istore (lv' := [(4, _), (3, _), (0, _), (1, _), (2, _)]) C d_Re_takeReferences_12 (by decide) rfl ?_
          refine V_aload_n C d_Re_takeReferences_14 rfl ?_
          refine V_iconst (v := 2) C d_Re_takeReferences_15 (by decide) ?_
          refine V_callV (as := [_]) C d_Re_takeReferences_16 (c_Re_take (a := a1) (w := 2) (T := T) (fb := fb) hR1 hn1 hl1 hT (by omega) hrow) m_Re_take cf_Re k_Re_19 (nn hR1.1) ⟨by decide, by decide⟩ (Nat.le_of_ble_eq_true rfl) ⟨by first | rfl | ((try dsimp only); omega), by first | rfl | ((try dsimp only); omega)⟩ rfl ?_
          rintro _ _ ι12 _ _ ⟨rfl, rfl, rfl, hx2, x2, rfl, hd2⟩
          have hrow : ∀ k, k < T → ι12 25 0 0 k = fb k := fun k hk => (hx2 25 0 0 k (by omega)).trans (hrow k hk)
          obtain ⟨a2, b2, hR2, hl2, hq2⟩ : ∃ a9 b9, RDR ν1 ι12 ρ1 g T a9 b9 ∧ a9 ≤ T ∧ (b9 = 1 ∨ a9 = A0 + 3) := by
            rcases hd2 with ⟨q1, q2, q3⟩ | ⟨q1, q3⟩
            · exact ⟨_, _, q3, by omega, hq1.imp id (fun z => by omega)⟩
            · exact ⟨_, _, q3, hl1, Or.inl rfl⟩
          dsimp only [Option.toList, List.cons_append, List.nil_append]
          refine V_istore (lv' := [(5, _), (4, _), (3, _), (0, _), (1, _), (2, _)]) C d_Re_takeReferences_19 (by decide) rfl ?_
          refine V_aload_n C d_Re_takeReferences_21 rfl ?_
          refine V_iconst (v := 1) C d_Re_takeReferences_22 (by decide) ?_
          refine V_callV (as := [_]) C d_Re_takeReferences_23 (c_Re_take (a := a2) (w := 1) (T := T) (fb := fb) hR2 hn1 hl2 hT (by omega) hrow) m_Re_take cf_Re k_Re_19 (nn hR2.1) ⟨by decide, by decide⟩ (Nat.le_of_ble_eq_true rfl) ⟨by first | rfl | ((try dsimp only); omega), by first | rfl | ((try dsimp only); omega)⟩ rfl ?_
          rintro _ _ ι13 _ _ ⟨rfl, rfl, rfl, hx3, x3, rfl, hd3⟩
          have hrow : ∀ k, k < T → ι13 25 0 0 k = fb k := fun k hk => (hx3 25 0 0 k (by omega)).trans (hrow k hk)
          obtain ⟨a3, b3, hR3, hl3, hq3⟩ : ∃ a9 b9, RDR ν1 ι13 ρ1 g T a9 b9 ∧ a9 ≤ T ∧ (b9 = 1 ∨ a9 = A0 + 4) := by
            rcases hd3 with ⟨q1, q2, q3⟩ | ⟨q1, q3⟩
            · exact ⟨_, _, q3, by omega, hq2.imp id (fun z => by omega)⟩
            · exact ⟨_, _, q3, hl2, Or.inl rfl⟩
          dsimp only [Option.toList, List.cons_append, List.nil_append]
          refine V_istore (lv' := [(6, _), (5, _), (4, _), (3, _), (0, _), (1, _), (2, _)]) C d_Re_takeReferences_26 (by decide) rfl ?_
          refine V_aload_n C d_Re_takeReferences_28 rfl ?_
          refine V_iconst (v := 1) C d_Re_takeReferences_29 (by decide) ?_
          refine V_callV (as := [_]) C d_Re_takeReferences_30 (c_Re_take (a := a3) (w := 1) (T := T) (fb := fb) hR3 hn1 hl3 hT (by omega) hrow) m_Re_take cf_Re k_Re_19 (nn hR3.1) ⟨by decide, by decide⟩ (Nat.le_of_ble_eq_true rfl) ⟨by first | rfl | ((try dsimp only); omega), by first | rfl | ((try dsimp only); omega)⟩ rfl ?_
          rintro _ _ ι14 _ _ ⟨rfl, rfl, rfl, hx4, x4, rfl, hd4⟩
          have hrow : ∀ k, k < T → ι14 25 0 0 k = fb k := fun k hk => (hx4 25 0 0 k (by omega)).trans (hrow k hk)
          obtain ⟨a4, b4, hR4, hl4, hq4⟩ : ∃ a9 b9, RDR ν1 ι14 ρ1 g T a9 b9 ∧ a9 ≤ T ∧ (b9 = 1 ∨ a9 = A0 + 5) := by
            rcases hd4 with ⟨q1, q2, q3⟩ | ⟨q1, q3⟩
            · exact ⟨_, _, q3, by omega, hq3.imp id (fun z => by omega)⟩
            · exact ⟨_, _, q3, hl3, Or.inl rfl⟩
          dsimp only [Option.toList, List.cons_append, List.nil_append]
          refine V_istore (lv' := [(7, _), (6, _), (5, _), (4, _), (3, _), (0, _), (1, _), (2, _)]) C d_Re_takeReferences_33 (by decide) rfl ?_
          refine V_aload_n C d_Re_takeReferences_35 rfl ?_
          refine V_iconst (v := 4) C d_Re_takeReferences_36 (by decide) ?_
          refine V_callV (as := [_]) C d_Re_takeReferences_37 (c_Re_take (a := a4) (w := 4) (T := T) (fb := fb) hR4 hn1 hl4 hT (by omega) hrow) m_Re_take cf_Re k_Re_19 (nn hR4.1) ⟨by decide, by decide⟩ (Nat.le_of_ble_eq_true rfl) ⟨by first | rfl | ((try dsimp only); omega), by first | rfl | ((try dsimp only); omega)⟩ rfl ?_
          rintro _ _ ι15 _ _ ⟨rfl, rfl, rfl, hx5, x5, rfl, hd5⟩
          have hrow : ∀ k, k < T → ι15 25 0 0 k = fb k := fun k hk => (hx5 25 0 0 k (by omega)).trans (hrow k hk)
          obtain ⟨a5, b5, hR5, hl5, hq5⟩ : ∃ a9 b9, RDR ν1 ι15 ρ1 g T a9 b9 ∧ a9 ≤ T ∧ (b9 = 1 ∨ a9 = A0 + 9) := by
            rcases hd5 with ⟨q1, q2, q3⟩ | ⟨q1, q3⟩
            · exact ⟨_, _, q3, by omega, hq4.imp id (fun z => by omega)⟩
            · exact ⟨_, _, q3, hl4, Or.inl rfl⟩
          dsimp only [Option.toList, List.cons_append, List.nil_append]
          refine V_istore (lv' := [(8, _), (7, _), (6, _), (5, _), (4, _), (3, _), (0, _), (1, _), (2, _)]) C d_Re_takeReferences_40 (by decide) rfl ?_
          refine V_aload_n C d_Re_takeReferences_42 rfl ?_
          refine V_getI (kx := 3) C d_Re_takeReferences_43 cf_Re (by decide) k_Re_49 (nn hR5.1) rfl ?_
          have hb5 : b5 = 1 := hq5.resolve_right (fun z => by omega)
          refine V_eqi (y := 1) (hR5.2.2.2.2.trans hb5) ?_
          refine V_if_ne (tgt := 64) C d_Re_takeReferences_46 (by decide) (fun h46 => ?_) (fun h46 => absurd h46 (by decide))
          refine V_iconst (v := 0) C d_Re_takeReferences_64 (by decide) ?_
          refine V_zret C hQ (by first | rfl | ((try dsimp only); omega)) (by first | rfl | ((try dsimp only); omega)) d_Re_takeReferences_65 rfl rfl ?_
          exact ⟨rfl, ((((hF1.x hx1).x hx2).x hx3).x hx4).x hx5, false, rfl, (fun z => nomatch z), fun _ z => h4b (z i him).1⟩
      · have him2 : i = m9 := by omega
        subst him2
        refine V_iload_n C d_Re_takeReferences_2 rfl ?_
        refine V_iload_n C d_Re_takeReferences_3 rfl ?_
        refine V_icmp_ge (tgt := 94) C d_Re_takeReferences_4 (by decide) (fun h4 => ?_) (fun h4 => absurd ((nI_leI (by omega) (by omega)).mpr (Nat.le_refl _)) h4)
        refine V_iconst (v := 1) C d_Re_takeReferences_94 (by decide) ?_
        refine V_zret C hQ (by first | rfl | ((try dsimp only); omega)) (by first | rfl | ((try dsimp only); omega)) d_Re_takeReferences_95 rfl rfl ?_
        exact ⟨rfl, hF1, true, rfl, fun _ => ⟨hok1, hU1, hS1, hN1, hQ1, hR0⟩, (fun z => nomatch z)⟩
  refine V_iconst (v := 0) C d_Re_takeReferences_0 (by decide) ?_
  refine V_istore_n (lv' := [(3, _), (0, _), (1, _), (2, _)]) C d_Re_takeReferences_1 (by decide) rfl ?_
  refine V_pick [0, 1, 2, 3] rfl ?_
  exact loop (m9 + 1) 0 ν ι ρ (by omega) (by omega) RFr.rf hU hR h5 hS hN (fun j hj => absurd hj (by omega)) (fun j hj => absurd hj (by omega))
