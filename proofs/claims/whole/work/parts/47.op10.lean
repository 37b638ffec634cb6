def Pm9 (r k : Nat) : Prop := Pl9 r k ∨ r = 31
theorem pm9_c {r k : Nat} (h : Pm9 r k) : isCl r ∧ ¬ (r = 0 ∧ k = 2) := by
  rcases h with h | h
  · exact pl9_c h
  · unfold isCl; omega
theorem RQ.cg {M ι ι1 : Io} {c z q : Nat} {en : Int32} {qs : Nat → Nat} (h : RQ M ι c z en q qs) (e0 : ι1 0 0 0 6 = ι 0 0 0 6) (e29 : ∀ t, ι1 29 0 0 t = ι 29 0 0 t) (e28 : ∀ t, ι1 28 0 0 t = ι 28 0 0 t) (e6 : ∀ k, ι1 1 k 0 6 = ι 1 k 0 6) (en0 : ∀ k, ι1 1 k 0 0 = ι 1 k 0 0) : RQ M ι1 c z en q qs := by
  unfold RQ at *
  simp only [e0, e29, e28, e6, en0]
  exact h
theorem bwF_c {A A' N N' : Nat → Nat} {D : Nat → Nat → Int32} : ∀ {ls : List Nat} {g : Nat → Int32}, (∀ t ∈ ls, A t = A' t ∧ N t = N' t) → bwF A N D ls g = bwF A' N' D ls g := by
  intro ls
  induction ls with
  | nil => intro g _; rfl
  | cons a ls ih =>
    intro g h
    show bwF A N D ls (bw (A a) (N a) (D a) g) = bwF A' N' D ls (bw (A' a) (N' a) (D a) g)
    rw [(h a List.mem_cons_self).1, (h a List.mem_cons_self).2]
    exact ih (fun t ht => h t (List.mem_cons_of_mem _ ht))
/-- the bytes that the class has copied are the reference's -/
theorem cop_c {M ι : Io} {ρ : Ro} {c z q n b N : Nat} {kx qs : Nat → Nat} {en : Int32} {L : Ls} (hF : FN M ι ρ c z kx L) (hY : LY M b N L) (hN : b + N ≤ 2000000) (hR : RQ M ι c z en q qs) (hn4 : n ≤ 4096) {k : Nat} (hk : k < n) : bwF (cqA ι) (cqN M) (cD M) ((List.range q).map qs) (cqG ι n) k = copL M (up2 L 10 29 (L 10 41 - L 10 20)) 73 k := by
  have e1 : ∀ r k, r ≠ 73 → ¬ (r = 10 ∧ (k = 25 ∨ k = 26 ∨ k = 27 ∨ k = 29)) → up2 L 10 29 (L 10 41 - L 10 20) r k = L r k := fun r k _ h2 => up2_ne (by omega)
  have hF2 := hF.cgL e1
  have hY2 := hY.cgL e1
  have key : ∀ t ∈ (List.range q).map qs, cqA ι t = cA (up2 L 10 29 (L 10 41 - L 10 20)) t ∧ cqN M t = cNn M (up2 L 10 29 (L 10 41 - L 10 20)) t := fun t ht => by
    obtain ⟨a, ha, rfl⟩ := List.mem_map.mp ht
    obtain ⟨u1, u2, u3, _⟩ := hR.2.1 a (List.mem_range.mp ha)
    have hr : up2 L 10 29 (L 10 41 - L 10 20) 61 (qs a) ≠ 0 := by
      rw [← hF2.2.1.2.2.2.2.2.2 _ u2]
      exact u3
    refine ⟨?_, ?_⟩
    · unfold cqA cA
      rw [hF2.2.1.2.2.2.2.2.1 _ u2 (hF2.2.2.2.1 _ u2 hr), hF2.2.1.1]
    · unfold cqN cNn
      by_cases h3 : M 43 0 0 (qs a) = 3
      · rw [if_pos h3, if_neg (fun z => z.2.2 h3)]
      · rw [if_neg h3, if_pos ⟨u2, hr, h3⟩]
  rw [bwF_c key, cop_e.2 k (by omega)]
  refine bw_2 (fun a t h1 h2 => cov_dj hY2 hN h1 h2 hF2.2.2.2.1) (fun t h1 => ?_) (by unfold cqG; rw [if_pos hk])
  have ht : t < 96 ∧ up2 L 10 29 (L 10 41 - L 10 20) 61 t ≠ 0 := by
    have := h1.2
    unfold cNn at this
    by_cases hc : t < 96 ∧ up2 L 10 29 (L 10 41 - L 10 20) 61 t ≠ 0 ∧ M 43 0 0 t ≠ 3
    · exact ⟨hc.1, hc.2.1⟩
    · rw [if_neg hc] at this
      omega
  refine ⟨fun _ => List.mem_range.mpr ht.1, fun _ => ?_⟩
  rw [← hF2.2.1.2.2.2.2.2.2 _ ht.1] at ht
  obtain ⟨_, a, a1, a2⟩ := (hR.2.2.1 t ht.1).resolve_left ht.2
  exact List.mem_map.mpr ⟨a, List.mem_range.mpr a1, a2⟩
set_option maxHeartbeats 1000000 in
set_option maxRecDepth 10000 in
theorem c_Li_layOut {ν : Nu} {ι : Io} {ρ : Ro} {ℓ : Lo} {M : Io} {ρ0 : Ro} {N c9 w9 n9 z9 kn g9 : Nat} (hI : IV ν M ρ0 N c9 w9 n9 z9 kn g9) (hC : CuL M ι ρ0 ρ c9) {z1 : Nat} {kx : Nat → Nat} (hT : T3 M ι ρ (sq M 12 47 c9) z1 kx) {x9 : Int32} {b9 q9 : Nat} {qs : Nat → Nat} {en : Int32} (hx : x9 = nI b9) (hb : b9 ≤ 1000000) (hR : RQ M ι c9 z1 en q9 qs) (hRd : ∀ L0, B0 x9 L0 → Rd M c9 en (mkL M ι c9 kx L0)) (h9 : ι 0 0 0 9 = x9) (h11 : ι 0 0 0 11 = 0) (h12 : ι 0 0 0 12 = 0) (h13 : ι 0 0 0 13 = 0) (h14 : ι 0 0 0 14 = 0) (hA : ∀ k, k < z1 → ι 1 k 0 7 = -1) : Ct y_Li_layOut (Cond.code y_Li_layOut b_Li_layOut 3 (some .boolean) :: tb_) { frames := 2, cells := 0, slots := 0, locals := 63 } [sR 0 0 0] ν ι ρ ℓ (fun v ν1 ι1 ρ1 ℓ1 => ν = ν1 ∧ ρ = ρ1 ∧ ℓ = ℓ1 ∧ CuL M ι1 ρ0 ρ1 c9 ∧ ∃ b : Bool, some (sI (b2 (b = true))) = v ∧ (b = true → Eqx Pm9 ι ι1 ∧ ∃ n, n ≤ 4096 ∧ ι1 0 0 0 11 = nI n ∧ ∀ L0, B0 x9 L0 → FN M ι1 ρ1 c9 z1 kx (orL M c9 (mkL M ι c9 kx L0)) ∧ LY M b9 264192 (orL M c9 (mkL M ι c9 kx L0)) ∧ (orL M c9 (mkL M ι c9 kx L0)) 10 41 - (orL M c9 (mkL M ι c9 kx L0)) 10 20 = nI n ∧ ∀ k, k < n → ι1 31 0 0 k = copL M (oeL M c9 (mkL M ι c9 kx L0)) 73 k) ∧ (b = false → (∃ ι2, Eqx Pl9 ι ι2 ∧ ι1 = up4 (up4 (up4 ι2 0 0 0 15 6) 0 0 0 16 (-1)) 0 0 0 17 (-1)) ∧ ∀ L0, B0 x9 L0 → 4096 < (orL M c9 (mkL M ι c9 kx L0)) 10 41 - (orL M c9 (mkL M ι c9 kx L0)) 10 20)) (noX) := by
  refine Ct.ofV (by decide) (Nat.le_of_ble_eq_true rfl) rfl ?_
  intro p l e s m args below meth c D B tW α0 Q C hQ
  have hO := hC.os hI.os
  have hc12 := hI.ic.2.2.1
  have loop : ∀ (f : Nat) (k : Nat) (ι1 : Io), 4 - k < f → k ≤ 4 → CuL M ι1 ρ0 ρ c9 → Eqx Pk9 ι ι1 → (∀ L0, B0 x9 L0 → LC ι1 (kinL M c9 k (bgL (mkL M ι c9 kx L0)))) → V p l e { frames := 2, cells := 0, slots := 0, locals := 63 } s m args below meth c D B α0 ν 3 Q 0 0 ν ι1 ρ ℓ 2 [(1, sI (nI k)), (0, sR 0 0 0)] [] := by
    intro f
    induction f with
    | zero => intros; omega
    | succ f ih =>
      intro k ι1 hf hk0 hC1 heq1 hL1
      have hO1 := hC1.os hI.os
      refine V_iload_n C d_Li_layOut_2 rfl ?_
      refine V_iconst (v := 4) C d_Li_layOut_3 (by decide) ?_
      refine V_icmp_ge (tgt := 40) C d_Li_layOut_4 (by decide) (fun h4 => ?_) (fun h4 => ?_)
      · have hk : k = 4 := by have := (nI_leI (a := 4) (b := k) (by omega) (by omega)).mp h4; omega
        subst hk
        have hT1 := hT.el (heq1.mo (fun _ _ => pk9l))
        refine V_aload_n C d_Li_layOut_40 rfl ?_
        refine V_callV (as := []) C d_Li_layOut_41 (c_Li_layOutCommons (F := fun L0 => (kinL M c9 4 (bgL (mkL M ι c9 kx L0)))) hI hC1 hT1 hL1 (fun L0 h0 => mk_cm.cg (fun k => heq1 1 k 0 6 (by unfold Pk9; omega)) (fun i => by rw [kin_62.1, bg_62 (by decide) (by decide)])) (fun k hk _ => (heq1 1 k 0 7 (by unfold Pk9; omega)).trans (hA k hk))) m_Li_layOutCommons cf_Li k_Li_175 (nn hO1.n0) ⟨by decide, by decide⟩ (Nat.le_of_ble_eq_true rfl) ⟨by decide, by decide⟩ rfl ?_
        rintro _ _ ι2 _ _ ⟨rfl, rfl, rfl, rfl, heq2, hL2⟩
        have hEq : Eqx Pl9 ι ι2 := (heq1.mo (fun _ _ => pk9l)).tr heq2
        have hC2 := hC.eqx hEq (fun _ _ => pl9_c) LFq.rf
        have hO2 := hC2.os hI.os
        have hT2 := hT.el hEq
        have e16 : ∀ k, ι2 1 k 0 6 = ι 1 k 0 6 := fun k => hEq 1 k 0 6 (by unfold Pl9; omega)
        have hR2 : RQ M ι2 c9 z1 en q9 qs := hR.cg (hEq 0 0 0 6 (by unfold Pl9; omega)) (fun t => hEq 29 0 0 t (by unfold Pl9; omega)) (fun t => hEq 28 0 0 t (by unfold Pl9; omega)) e16 (fun k => hEq 1 k 0 0 (by unfold Pl9; omega))
        have hFN : ∀ L0, B0 x9 L0 → FN M ι2 ρ c9 z1 kx (orL M c9 (mkL M ι c9 kx L0)) ∧ LY M b9 264192 (orL M c9 (mkL M ι c9 kx L0)) := fun L0 h0 => by
          have ho := or_cm (M := M) (c := c9) (mk_cm (M := M) (ι := ι) (c := c9) (kx := kx) (L := L0)) hI.nb hI.n7
          obtain ⟨u1, u2⟩ := hL2 L0 h0
          rw [← ho] at u1 u2
          exact FN.mk hT2 hI.nb hI.lk hI.di (hRd L0 h0).1 (by rw [mk10, h0.1, hx]) hb (mk_cm.cg e16 (fun _ => rfl)) u1 u2
        obtain ⟨n, hn, hnN⟩ := (hFN (LZ x9) LZ.b).2.n (by omega)
        have h11n : ι2 0 0 0 11 = nI n := (hFN (LZ x9) LZ.b).1.2.1.2.1.trans hn
        have hnA : ∀ L0, B0 x9 L0 → (orL M c9 (mkL M ι c9 kx L0)) 10 41 - (orL M c9 (mkL M ι c9 kx L0)) 10 20 = nI n := fun L0 h0 => ((hFN L0 h0).1.2.1.2.1.symm).trans h11n
        dsimp only [Option.toList, List.cons_append, List.nil_append]
        refine V_aload_n C d_Li_layOut_44 rfl ?_
        refine V_getI (kx := 11) C d_Li_layOut_45 cf_Li (by decide) k_Li_113 (nn hO2.n0) rfl ?_
        refine V_eqi (y := nI n) h11n ?_
        refine V_sipush (v := 4096) C d_Li_layOut_48 (by decide) ?_
        refine V_icmp_le (tgt := 63) C d_Li_layOut_51 (by decide) (fun h51 => ?_) (fun h51 => ?_)
        · have hn4 : n ≤ 4096 := (nI_leI (a := n) (b := 4096) (by omega) (by omega)).mp h51
          have hfit : ∀ t, t < q9 → ∃ d, ι2 30 0 0 (qs t) - ι2 0 0 0 9 = nI d ∧ d + cqN M (qs t) ≤ n := fun t ht => by
            obtain ⟨hF, hY⟩ := hFN (LZ x9) LZ.b
            obtain ⟨u1, u2, u3, _⟩ := hR2.2.1 t ht
            rw [hF.2.1.2.2.2.2.2.2 _ u2] at u3
            have hp := hF.2.2.2.1 _ u2 u3
            obtain ⟨a, a1, a2, a3, a4, a5⟩ := hY.hl (by omega) hn hn4 u2 hp
            refine ⟨a - b9, ?_, ?_⟩
            · rw [hF.2.1.2.2.2.2.2.1 _ u2 hp, hF.2.1.1]
              exact a4
            · unfold cqN
              split <;> omega
          refine V_aload_n C d_Li_layOut_63 rfl ?_
          refine V_callV (as := []) C d_Li_layOut_64 (c_Li_copyBytes hI hC2 hR2 h11n hn4 hfit) m_Li_copyBytes cf_Li k_Li_178 (nn hO1.n0) ⟨by decide, by decide⟩ (Nat.le_of_ble_eq_true rfl) ⟨by decide, by decide⟩ rfl ?_
          rintro _ _ _ _ _ ⟨rfl, rfl, rfl, rfl, rfl⟩
          dsimp only [Option.toList, List.cons_append, List.nil_append]
          refine V_iconst (v := 1) C d_Li_layOut_67 (by decide) ?_
          refine V_zret C hQ (by decide) (by decide) d_Li_layOut_68 rfl rfl ?_
          have hE3 : ∀ r i j k, r ≠ 31 → (upA ι2 31 0 0 (bwF (cqA ι2) (cqN M) (cD M) ((List.range q9).map qs) (cqG ι2 n))) r i j k = ι2 r i j k := fun r i j k hr => upA_ne (fun z => hr z.1)
          refine ⟨rfl, rfl, rfl, hC2.eqx (P := fun r _ => r = 31) (fun r i j k hr => hE3 r i j k hr) (fun r k hr => by unfold isCl; omega) LFq.rf, true, rfl, fun _ => ⟨fun r i j k hr => (hE3 r i j k (fun z => hr (Or.inr z))).trans (hEq r i j k (fun z => hr (Or.inl z))), n, hn4, (hE3 0 0 0 11 (by decide)).trans h11n, fun L0 h0 => ⟨(hFN L0 h0).1.cgi hE3, (hFN L0 h0).2, hnA L0 h0, fun k hk => ?_⟩⟩, (fun z => nomatch z)⟩
          rw [upA_s]
          exact cop_c (hFN L0 h0).1 (hFN L0 h0).2 (by omega) hR2 hn4 hk
        · refine V_aload_n C d_Li_layOut_54 rfl ?_
          refine V_bipush (v := 6) C d_Li_layOut_55 (by decide) ?_
          refine V_iconst (v := (-1)) C d_Li_layOut_57 (by decide) ?_
          refine V_iconst (v := (-1)) C d_Li_layOut_58 (by decide) ?_
          refine V_callV (as := [_, _, _]) C d_Li_layOut_59 (c_Li_tell hO2) m_Li_tell cf_Li k_Li_103 (nn hO1.n0) ⟨by decide, by decide⟩ (Nat.le_of_ble_eq_true rfl) ⟨by decide, by decide⟩ rfl ?_
          rintro _ _ _ _ _ ⟨rfl, rfl, rfl, rfl, rfl⟩
          dsimp only [Option.toList, List.cons_append, List.nil_append]
          refine V_zret C hQ (by decide) (by decide) d_Li_layOut_62 rfl rfl ?_
          refine ⟨rfl, rfl, rfl, ((hC2.up (Or.inl rfl) (by omega)).up (Or.inl rfl) (by omega)).up (Or.inl rfl) (by omega), false, rfl, (fun z => nomatch z), fun _ => ⟨⟨ι2, hEq, rfl⟩, fun L0 h0 => ?_⟩⟩
          rw [hnA L0 h0]
          exact Int32.not_le.mp h51
      · have hk4 : k < 4 := Nat.lt_of_not_le fun z => h4 ((nI_leI (a := 4) (b := k) (by omega) (by omega)).mpr z)
        refine V_iconst (v := 0) C d_Li_layOut_7 (by decide) ?_
        refine V_istore_n (lv' := [(2, _), (1, _), (0, _)]) C d_Li_layOut_8 (by decide) rfl ?_
        refine V_pick [0, 1, 2] rfl ?_
        have inner : ∀ (f2 : Nat) (i : Nat) (ι1 : Io), c9 - i < f2 → i ≤ c9 → CuL M ι1 ρ0 ρ c9 → Eqx Pk9 ι ι1 → (∀ L0, B0 x9 L0 → LC ι1 ((sq M 8 42 i).foldl (secS M k) (kinL M c9 k (bgL (mkL M ι c9 kx L0))))) → V p l e { frames := 2, cells := 0, slots := 0, locals := 63 } s m args below meth c D B α0 ν 3 Q 0 0 ν ι1 ρ ℓ 9 [(2, sI (nI i)), (1, sI (nI k)), (0, sR 0 0 0)] [] := by
          intro f2
          induction f2 with
          | zero => intros; omega
          | succ f2 ihi =>
            intro i ι1 hf2 hi0 hC1 heq1 hL1
            have hO1 := hC1.os hI.os
            refine V_iload_n C d_Li_layOut_9 rfl ?_
            refine V_aload_n C d_Li_layOut_10 rfl ?_
            refine V_getI (kx := 2) C d_Li_layOut_11 cf_Li (by decide) k_Li_48 (nn hO1.n0) rfl ?_
            refine V_eqi (y := nI c9) hC1.2.2 ?_
            refine V_icmp_ge (tgt := 34) C d_Li_layOut_14 (by decide) (fun h14 => ?_) (fun h14 => ?_)
            · have hi : i = c9 := by have := (nI_leI (a := c9) (b := i) (by omega) (by omega)).mp h14; omega
              refine V_iinc (v := nI (k + 1)) (lv' := [(1, _), (2, _), (0, _)]) C d_Li_layOut_34 rfl (nI_1 k) (by decide) rfl ?_
              refine V_goto (tgt := 2) C d_Li_layOut_37 (by decide) ?_
              refine V_pick [0, 2] rfl ?_
              exact ih (k + 1) ι1 (by omega) (by omega) hC1 heq1 (fun L0 h0 => by rw [kin_s, ← hi]; rw [hi]; rw [hi] at hL1; exact hL1 L0 h0)
            · have hi : i < c9 := Nat.lt_of_not_le fun z => h14 ((nI_leI (by omega) (by omega)).mpr z)
              obtain ⟨ho, h27, h26, hU⟩ := hC1.un hI hi
              refine V_aload_n C d_Li_layOut_17 rfl ?_
              refine V_iload_n C d_Li_layOut_18 rfl ?_
              refine V_aload_n C d_Li_layOut_19 rfl ?_
              refine V_getR (kx := 1) C d_Li_layOut_20 cf_Li (by decide) k_Li_17 (nn hO1.n0) rfl hO1.r01 ?_
              refine V_iload_n C d_Li_layOut_23 rfl ?_
              refine V_iald C d_Li_layOut_24 (by decide) rfl hO1.n27 rfl (by omega) rfl ?_
              refine V_eqi (y := nI (mn M 59 i)) h27 ?_
              refine V_callV (as := [_, _]) C d_Li_layOut_25 (c_Li_layOutKind (F := fun L0 => (sq M 8 42 i).foldl (secS M k) (kinL M c9 k (bgL (mkL M ι c9 kx L0)))) hI hC1 hL1 (k9 := k) hi rfl) m_Li_layOutKind cf_Li k_Li_172 (nn hO1.n0) ⟨by decide, by decide⟩ (Nat.le_of_ble_eq_true rfl) ⟨by decide, by decide⟩ rfl ?_
              rintro _ _ ι2 _ _ ⟨rfl, rfl, rfl, rfl, heq2, hL2⟩
              have hC2 := hC1.eqx heq2 (fun _ _ => pk9_c) LFq.rf
              dsimp only [Option.toList, List.cons_append, List.nil_append]
              refine V_iinc (v := nI (i + 1)) (lv' := [(2, _), (1, _), (0, _)]) C d_Li_layOut_28 rfl (nI_1 i) (by decide) rfl ?_
              refine V_goto (tgt := 9) C d_Li_layOut_31 (by decide) ?_
              refine V_pick [0, 1, 2] rfl ?_
              exact ihi (i + 1) ι2 (by omega) (by omega) hC2 (heq1.tr heq2) (fun L0 h0 => by rw [sq_s]; unfold sqP; rw [List.foldl_append]; exact hL2 L0 h0)
        exact inner (c9 + 1) 0 ι1 (by omega) (by omega) hC1 heq1 hL1
  refine V_iconst (v := 0) C d_Li_layOut_0 (by decide) ?_
  refine V_istore_n (lv' := [(1, _), (0, _)]) C d_Li_layOut_1 (by decide) rfl ?_
  refine V_pick [0, 1] rfl ?_
  exact loop 5 0 ι (by omega) (by omega) hC Eqx.rf (fun L0 h0 => LC.bg (x := x9) (by rw [mk10]; exact h0.1) h9 h11 h12 h13 h14 (fun s hs => (if_pos ⟨rfl, hs⟩ : (mkL M ι c9 kx L0) 61 s = ι 28 0 0 s).symm))
set_option maxHeartbeats 1000000 in
set_option maxRecDepth 10000 in
theorem c_Li_faultOfWay {ν : Nu} {ι : Io} {ρ : Ro} {ℓ : Lo} {w : Nat} (hw : w ≤ 4) {s9 a9 : Int64} : Ct y_Li_faultOfWay (Cond.code y_Li_faultOfWay b_Li_faultOfWay 5 (some .int) :: tb_) { frames := 0, cells := 0, slots := 0, locals := 0 } [sI (nI w), sL s9, sL a9] ν ι ρ ℓ (pEq (some (sI (fltV w s9 a9))) ν ι ρ ℓ) (noX) := by
  refine Ct.ofV (by decide) (Nat.le_of_ble_eq_true rfl) rfl ?_
  intro p l e s m args below meth c D B tW α0 Q C hQ
  refine V_iload_n C d_Li_faultOfWay_0 rfl ?_
  by_cases c1_0 : nI w = 1
  · rw [c1_0]
    refine V_tswI (tgt := 28) C d_Li_faultOfWay_1 (by decide) (by decide) rfl (by decide) ?_
    have hw9 : w = 1 := nI_inj (by omega) (by decide) (show nI w = nI 1 from c1_0)
    subst hw9
    refine V_lload_n C d_Li_faultOfWay_28 rfl ?_
    refine V_lconst (v := 0) C d_Li_faultOfWay_29 (by decide) ?_
    refine V_lcmp C d_Li_faultOfWay_30 ?_
    refine V_if_lt (tgt := 42) C d_Li_faultOfWay_31 (by decide) (fun h31 => ?_) (fun h31 => ?_)
    · have g9 : fltV 1 s9 a9 = 5 := by unfold fltV; rw [if_pos rfl, if_neg (fun z => Int64.not_lt.mpr z.1 (lgc_lt.mp h31))]
      refine V_iconst (v := 5) C d_Li_faultOfWay_42 (by decide) ?_
      refine V_goto (tgt := 47) C d_Li_faultOfWay_43 (by decide) ?_
      refine V_iret C hQ (by decide) (by decide) d_Li_faultOfWay_47 rfl ?_
      exact ⟨congrArg (fun z => some (sI z)) g9, rfl, rfl, rfl, rfl⟩
    · have g3 : 0 ≤ s9 := Int64.not_lt.mp (fun z => h31 (lgc_lt.mpr z))
      refine V_lload_n C d_Li_faultOfWay_34 rfl ?_
      refine V_ldc2 C d_Li_faultOfWay_35 k_Li_246 ?_
      refine V_lcmp C d_Li_faultOfWay_38 ?_
      refine V_if_le (tgt := 46) C d_Li_faultOfWay_39 (by decide) (fun h39 => ?_) (fun h39 => ?_)
      · have g9 : fltV 1 s9 a9 = 0 := by unfold fltV; rw [if_pos rfl, if_pos ⟨g3, Int64.not_lt.mp (fun z => Int32.not_lt.mpr h39 (lgc_gt.mpr z))⟩]
        refine V_iconst (v := 0) C d_Li_faultOfWay_46 (by decide) ?_
        refine V_iret C hQ (by decide) (by decide) d_Li_faultOfWay_47 rfl ?_
        exact ⟨congrArg (fun z => some (sI z)) g9, rfl, rfl, rfl, rfl⟩
      · have g9 : fltV 1 s9 a9 = 5 := by unfold fltV; rw [if_pos rfl, if_neg (fun z => Int64.not_lt.mpr z.2 (lgc_gt.mp (Int32.not_le.mp h39)))]
        refine V_iconst (v := 5) C d_Li_faultOfWay_42 (by decide) ?_
        refine V_goto (tgt := 47) C d_Li_faultOfWay_43 (by decide) ?_
        refine V_iret C hQ (by decide) (by decide) d_Li_faultOfWay_47 rfl ?_
        exact ⟨congrArg (fun z => some (sI z)) g9, rfl, rfl, rfl, rfl⟩
  by_cases c1_1 : nI w = 2
  · rw [c1_1]
    refine V_tswI (tgt := 48) C d_Li_faultOfWay_1 (by decide) (by decide) rfl (by decide) ?_
    have hw9 : w = 2 := nI_inj (by omega) (by decide) (show nI w = nI 2 from c1_1)
    subst hw9
    refine V_lload_n C d_Li_faultOfWay_48 rfl ?_
    refine V_ldc2 C d_Li_faultOfWay_49 k_Li_248 ?_
    refine V_lcmp C d_Li_faultOfWay_52 ?_
    refine V_if_lt (tgt := 64) C d_Li_faultOfWay_53 (by decide) (fun h53 => ?_) (fun h53 => ?_)
    · have g9 : fltV 2 s9 a9 = 5 := by unfold fltV; rw [if_neg (by decide), if_pos rfl, if_neg (fun z => Int64.not_lt.mpr z.1 (lgc_lt.mp h53))]
      refine V_iconst (v := 5) C d_Li_faultOfWay_64 (by decide) ?_
      refine V_goto (tgt := 69) C d_Li_faultOfWay_65 (by decide) ?_
      refine V_iret C hQ (by decide) (by decide) d_Li_faultOfWay_69 rfl ?_
      exact ⟨congrArg (fun z => some (sI z)) g9, rfl, rfl, rfl, rfl⟩
    · have g3 : (-32768) ≤ a9 := Int64.not_lt.mp (fun z => h53 (lgc_lt.mpr z))
      refine V_lload_n C d_Li_faultOfWay_56 rfl ?_
      refine V_ldc2 C d_Li_faultOfWay_57 k_Li_250 ?_
      refine V_lcmp C d_Li_faultOfWay_60 ?_
      refine V_if_le (tgt := 68) C d_Li_faultOfWay_61 (by decide) (fun h61 => ?_) (fun h61 => ?_)
      · have g9 : fltV 2 s9 a9 = 0 := by unfold fltV; rw [if_neg (by decide), if_pos rfl, if_pos ⟨g3, Int64.not_lt.mp (fun z => Int32.not_lt.mpr h61 (lgc_gt.mpr z))⟩]
        refine V_iconst (v := 0) C d_Li_faultOfWay_68 (by decide) ?_
        refine V_iret C hQ (by decide) (by decide) d_Li_faultOfWay_69 rfl ?_
        exact ⟨congrArg (fun z => some (sI z)) g9, rfl, rfl, rfl, rfl⟩
      · have g9 : fltV 2 s9 a9 = 5 := by unfold fltV; rw [if_neg (by decide), if_pos rfl, if_neg (fun z => Int64.not_lt.mpr z.2 (lgc_gt.mp (Int32.not_le.mp h61)))]
        refine V_iconst (v := 5) C d_Li_faultOfWay_64 (by decide) ?_
        refine V_goto (tgt := 69) C d_Li_faultOfWay_65 (by decide) ?_
        refine V_iret C hQ (by decide) (by decide) d_Li_faultOfWay_69 rfl ?_
        exact ⟨congrArg (fun z => some (sI z)) g9, rfl, rfl, rfl, rfl⟩
  by_cases c1_2 : nI w = 3
  · rw [c1_2]
    refine V_tswI (tgt := 70) C d_Li_faultOfWay_1 (by decide) (by decide) rfl (by decide) ?_
    have hw9 : w = 3 := nI_inj (by omega) (by decide) (show nI w = nI 3 from c1_2)
    subst hw9
    refine V_lload_n C d_Li_faultOfWay_70 rfl ?_
    refine V_ldc2 C d_Li_faultOfWay_71 k_Li_252 ?_
    refine V_land C d_Li_faultOfWay_74 ?_
    refine V_lconst (v := 0) C d_Li_faultOfWay_75 (by decide) ?_
    refine V_lcmp C d_Li_faultOfWay_76 ?_
    refine V_if_eq (tgt := 82) C d_Li_faultOfWay_77 (by decide) (fun h77 => ?_) (fun h77 => ?_)
    · have h3z : ¬ (a9 &&& 3 ≠ 0) := fun z => z (lgc_eq.mp h77)
      refine V_lload_n C d_Li_faultOfWay_82 rfl ?_
      refine V_iconst (v := 2) C d_Li_faultOfWay_83 (by decide) ?_
      refine V_lshr C d_Li_faultOfWay_84 ?_
      refine V_ldc2 C d_Li_faultOfWay_85 k_Li_254 ?_
      refine V_lcmp C d_Li_faultOfWay_88 ?_
      refine V_if_lt (tgt := 102) C d_Li_faultOfWay_89 (by decide) (fun h89 => ?_) (fun h89 => ?_)
      · have g9 : fltV 3 s9 a9 = 5 := by unfold fltV; rw [if_neg (by decide), if_neg (by decide), if_pos rfl, if_neg h3z, if_neg (fun z => Int64.not_lt.mpr z.1 (lgc_lt.mp h89))]
        refine V_iconst (v := 5) C d_Li_faultOfWay_102 (by decide) ?_
        refine V_goto (tgt := 107) C d_Li_faultOfWay_103 (by decide) ?_
        refine V_iret C hQ (by decide) (by decide) d_Li_faultOfWay_107 rfl ?_
        exact ⟨congrArg (fun z => some (sI z)) g9, rfl, rfl, rfl, rfl⟩
      · have g3 : (-128) ≤ (a9 >>> ((2 : Int32).toInt64 &&& 63)) := Int64.not_lt.mp (fun z => h89 (lgc_lt.mpr z))
        refine V_lload_n C d_Li_faultOfWay_92 rfl ?_
        refine V_iconst (v := 2) C d_Li_faultOfWay_93 (by decide) ?_
        refine V_lshr C d_Li_faultOfWay_94 ?_
        refine V_ldc2 C d_Li_faultOfWay_95 k_Li_256 ?_
        refine V_lcmp C d_Li_faultOfWay_98 ?_
        refine V_if_le (tgt := 106) C d_Li_faultOfWay_99 (by decide) (fun h99 => ?_) (fun h99 => ?_)
        · have g9 : fltV 3 s9 a9 = 0 := by unfold fltV; rw [if_neg (by decide), if_neg (by decide), if_pos rfl, if_neg h3z, if_pos ⟨g3, Int64.not_lt.mp (fun z => Int32.not_lt.mpr h99 (lgc_gt.mpr z))⟩]
          refine V_iconst (v := 0) C d_Li_faultOfWay_106 (by decide) ?_
          refine V_iret C hQ (by decide) (by decide) d_Li_faultOfWay_107 rfl ?_
          exact ⟨congrArg (fun z => some (sI z)) g9, rfl, rfl, rfl, rfl⟩
        · have g9 : fltV 3 s9 a9 = 5 := by unfold fltV; rw [if_neg (by decide), if_neg (by decide), if_pos rfl, if_neg h3z, if_neg (fun z => Int64.not_lt.mpr z.2 (lgc_gt.mp (Int32.not_le.mp h99)))]
          refine V_iconst (v := 5) C d_Li_faultOfWay_102 (by decide) ?_
          refine V_goto (tgt := 107) C d_Li_faultOfWay_103 (by decide) ?_
          refine V_iret C hQ (by decide) (by decide) d_Li_faultOfWay_107 rfl ?_
          exact ⟨congrArg (fun z => some (sI z)) g9, rfl, rfl, rfl, rfl⟩
    · have g9 : fltV 3 s9 a9 = 4 := by unfold fltV; rw [if_neg (by decide), if_neg (by decide), if_pos rfl, if_pos (fun z => h77 (lgc_eq.mpr z))]
      refine V_iconst (v := 4) C d_Li_faultOfWay_80 (by decide) ?_
      refine V_iret C hQ (by decide) (by decide) d_Li_faultOfWay_81 rfl ?_
      exact ⟨congrArg (fun z => some (sI z)) g9, rfl, rfl, rfl, rfl⟩
  refine V_tswO (tgt := 108) C d_Li_faultOfWay_1 (tsw_out (lo := 1) 3 (by decide) (fun t ht => ?_)) (by decide) ?_
  · rcases (show t = 0 ∨ t = 1 ∨ t = 2 by omega) with rfl | rfl | rfl <;> assumption
  refine V_iconst (v := 0) C d_Li_faultOfWay_108 (by decide) ?_
  refine V_iret C hQ (by decide) (by decide) d_Li_faultOfWay_109 rfl ?_
  have g9 : fltV w s9 a9 = 0 := by unfold fltV; rw [if_neg (fun z => c1_0 (by rw [z]; rfl)), if_neg (fun z => c1_1 (by rw [z]; rfl)), if_neg (fun z => c1_2 (by rw [z]; rfl))]
  exact ⟨congrArg (fun z => some (sI z)) g9, rfl, rfl, rfl, rfl⟩
set_option maxHeartbeats 1000000 in
set_option maxRecDepth 10000 in
theorem c_Li_valueOfWay {ν : Nu} {ι : Io} {ρ : Ro} {ℓ : Lo} {w : Nat} (hw : w ≤ 4) {s9 a9 : Int64} : Ct y_Li_valueOfWay (Cond.code y_Li_valueOfWay b_Li_valueOfWay 5 (some .long) :: tb_) { frames := 0, cells := 0, slots := 0, locals := 0 } [sI (nI w), sL s9, sL a9] ν ι ρ ℓ (pEq (some (sL (vluV w s9 a9))) ν ι ρ ℓ) (noX) := by
  refine Ct.ofV (by decide) (Nat.le_of_ble_eq_true rfl) rfl ?_
  intro p l e s m args below meth c D B tW α0 Q C hQ
  refine V_iload_n C d_Li_valueOfWay_0 rfl ?_
  by_cases c1_0 : nI w = 2
  · rw [c1_0]
    refine V_tswI (tgt := 28) C d_Li_valueOfWay_1 (by decide) (by decide) rfl (by decide) ?_
    have hw9 : w = 2 := nI_inj (by omega) (by decide) (show nI w = nI 2 from c1_0)
    subst hw9
    refine V_lload_n C d_Li_valueOfWay_28 rfl ?_
    refine V_lret C hQ (by decide) (by decide) d_Li_valueOfWay_29 rfl ?_
    exact ⟨rfl, rfl, rfl, rfl, rfl⟩
  by_cases c1_1 : nI w = 3
  · rw [c1_1]
    refine V_tswI (tgt := 30) C d_Li_valueOfWay_1 (by decide) (by decide) rfl (by decide) ?_
    have hw9 : w = 3 := nI_inj (by omega) (by decide) (show nI w = nI 3 from c1_1)
    subst hw9
    refine V_lload_n C d_Li_valueOfWay_30 rfl ?_
    refine V_iconst (v := 2) C d_Li_valueOfWay_31 (by decide) ?_
    refine V_lshr C d_Li_valueOfWay_32 ?_
    refine V_lret C hQ (by decide) (by decide) d_Li_valueOfWay_33 rfl ?_
    exact ⟨rfl, rfl, rfl, rfl, rfl⟩
  by_cases c1_2 : nI w = 4
  · rw [c1_2]
    refine V_tswI (tgt := 34) C d_Li_valueOfWay_1 (by decide) (by decide) rfl (by decide) ?_
    have hw9 : w = 4 := nI_inj (by omega) (by decide) (show nI w = nI 4 from c1_2)
    subst hw9
    refine V_lload_n C d_Li_valueOfWay_34 rfl ?_
    refine V_ldc2 C d_Li_valueOfWay_35 k_Li_258 ?_
    refine V_ladd C d_Li_valueOfWay_38 ?_
    refine V_bipush (v := 16) C d_Li_valueOfWay_39 (by decide) ?_
    refine V_lshr C d_Li_valueOfWay_41 ?_
    refine V_lret C hQ (by decide) (by decide) d_Li_valueOfWay_42 rfl ?_
    exact ⟨rfl, rfl, rfl, rfl, rfl⟩
  refine V_tswO (tgt := 43) C d_Li_valueOfWay_1 (tsw_out (lo := 2) 3 (by decide) (fun t ht => ?_)) (by decide) ?_
  · rcases (show t = 0 ∨ t = 1 ∨ t = 2 by omega) with rfl | rfl | rfl <;> assumption
  refine V_lload_n C d_Li_valueOfWay_43 rfl ?_
  refine V_lret C hQ (by decide) (by decide) d_Li_valueOfWay_44 rfl ?_
  have g9 : vluV w s9 a9 = s9 := by unfold vluV; rw [if_neg (fun z => c1_0 (by rw [z]; rfl)), if_neg (fun z => c1_1 (by rw [z]; rfl)), if_neg (fun z => c1_2 (by rw [z]; rfl))]
  exact ⟨congrArg (fun z => some (sL z)) g9, rfl, rfl, rfl, rfl⟩
set_option maxHeartbeats 1000000 in
set_option maxRecDepth 10000 in
theorem c_Li_putInto {ν : Nu} {ι : Io} {ρ : Ro} {ℓ : Lo} (hO : OS ν ρ) {a w : Nat} (ha : a + w ≤ 4096) {v : Int64} : Ct y_Li_putInto (Cond.code y_Li_putInto b_Li_putInto 6 none :: tb_) { frames := 0, cells := 0, slots := 0, locals := 0 } [sR 0 0 0, sI (nI a), sI (nI w), sL v] ν ι ρ ℓ (pEq none ν (filG ι 31 0 0 a w (byL v w)) ρ ℓ) (noX) := by
  refine Ct.ofV (by decide) (Nat.le_of_ble_eq_true rfl) rfl ?_
  intro p l e s m args below meth c D B tW α0 Q C hQ
  have loop : ∀ (f : Nat) (i : Nat), w - i < f → (i ≤ w) → V p l e { frames := 0, cells := 0, slots := 0, locals := 0 } s m args below meth c D B α0 ν 6 Q 0 0 ν (filG ι 31 0 0 a i (byL v w)) ρ ℓ 3 [(5, sI (nI i)), (0, sR 0 0 0), (1, sI (nI a)), (2, sI (nI w)), (3, sL v)] [] := by
    intro f
    induction f with
    | zero => intros; omega
    | succ f ih =>
      intro i hf hi0
      refine V_iload C d_Li_putInto_3 rfl ?_
      refine V_iload_n C d_Li_putInto_5 rfl ?_
      refine V_icmp_ge (tgt := 40) C d_Li_putInto_6 (by decide) (fun h6 => ?_) (fun h6 => ?_)
      · have hi : i = w := by have := (nI_leI (a := w) (b := i) (by omega) (by omega)).mp h6; omega
        subst hi
        refine V_vret C hQ (by decide) (by decide) d_Li_putInto_40 rfl ?_
        exact ⟨rfl, rfl, rfl, rfl, rfl⟩
      · have hi : i < w := Nat.lt_of_not_le fun z => h6 ((nI_leI (by omega) (by omega)).mpr z)
        refine V_aload_n C d_Li_putInto_9 rfl ?_
        refine V_getR (kx := 10) C d_Li_putInto_10 cf_Li (by decide) k_Li_38 (nn hO.n0) rfl hO.r010 ?_
        refine V_iload_n C d_Li_putInto_13 rfl ?_
        refine V_iload C d_Li_putInto_14 rfl ?_
        refine V_iadd C d_Li_putInto_16 ?_
        refine V_lload_n C d_Li_putInto_17 rfl ?_
        refine V_bipush (v := 8) C d_Li_putInto_18 (by decide) ?_
        refine V_iload_n C d_Li_putInto_20 rfl ?_
        refine V_iconst (v := 1) C d_Li_putInto_21 (by decide) ?_
        refine V_isub C d_Li_putInto_22 ?_
        refine V_iload C d_Li_putInto_23 rfl ?_
        refine V_isub C d_Li_putInto_25 ?_
        refine V_imul C d_Li_putInto_26 ?_
        refine V_lshr C d_Li_putInto_27 ?_
        refine V_l2i C d_Li_putInto_28 ?_
        refine V_sipush (v := 255) C d_Li_putInto_29 (by decide) ?_
        refine V_iand C d_Li_putInto_32 ?_
        refine V_eqi (y := byL v w i) byL_e.symm ?_
        refine V_iast C d_Li_putInto_33 (by decide) rfl hO.n31 (nI_add a i) (by omega) rfl ?_
        refine V_iinc (v := nI (i + 1)) (lv' := [(5, _), (0, _), (1, _), (2, _), (3, _)]) C d_Li_putInto_34 rfl (nI_1 i) (by decide) rfl ?_
        refine V_goto (tgt := 3) C d_Li_putInto_37 (by decide) ?_
        refine V_pick [0, 1, 2, 3, 4] rfl ?_
        refine V_io (filG_s (r := 31) (i0 := 0) (j0 := 0) (a := a) (g := byL v w) rfl) ?_
        exact ih (i + 1) (by omega) (by omega)
  refine V_iconst (v := 0) C d_Li_putInto_0 (by decide) ?_
  refine V_istore (lv' := [(5, _), (0, _), (1, _), (2, _), (3, _)]) C d_Li_putInto_1 (by decide) rfl ?_
  refine V_pick [0, 1, 2, 3, 4] rfl ?_
  refine V_io (filG_0 (r := 31) (i0 := 0) (j0 := 0) (a := a) (g := byL v w)).symm ?_
  exact loop (w + 1) 0 (by omega) (by omega)
theorem wid_wd {t : Nat} (h : t < 5) : wid_ t = .int (nI (wd t)) := by
  rcases (show t = 0 ∨ t = 1 ∨ t = 2 ∨ t = 3 ∨ t = 4 by omega) with rfl | rfl | rfl | rfl | rfl <;> rfl
theorem wd_le {t : Nat} : wd t ≤ 4 := by
  unfold wd
  split
  · omega
  · split <;> omega
set_option maxHeartbeats 1000000 in
set_option maxRecDepth 10000 in
theorem c_Li_workInOne {ν : Nu} {ι : Io} {ρ : Ro} {ℓ : Lo} {M : Io} {ρ0 : Ro} {N c9 w9 n9 z9 kn g9 : Nat} (hI : IV ν M ρ0 N c9 w9 n9 z9 kn g9) (hC : CuL M ι ρ0 ρ c9) {z1 : Nat} {kx : Nat → Nat} (hT : T3 M ι ρ (sq M 12 47 c9) z1 kx) {o9 r9 k0 : Nat} (hkc : k0 < c9) (hk0 : mn M 59 k0 = o9) (hr : r9 < mn M 52 o9) (hat : ¬ ι 28 0 0 (slR M (16 * o9 + r9)) = 0 → ¬ mn M 45 (slR M (16 * o9 + r9)) < mn M 54 (16 * o9 + r9) + wd (mn M 55 (16 * o9 + r9)) → ∃ a, oC M ι (16 * o9 + r9) - ι 0 0 0 9 = nI a ∧ a + wd (mn M 55 (16 * o9 + r9)) ≤ 4096) : Ct y_Li_workInOne (Cond.code y_Li_workInOne b_Li_workInOne 11 (some .int) :: tb_) { frames := 1, cells := 0, slots := 0, locals := 25 } [sR 0 0 0, sI (nI o9), sR 6 o9 r9] ν ι ρ ℓ (pEq (some (sI (fC M ι kx (16 * o9 + r9)))) ν (iC M ι kx (16 * o9 + r9)) ρ ℓ) (noX) := by
  refine Ct.ofV (by decide) (Nat.le_of_ble_eq_true rfl) rfl ?_
  intro p l e s m args below meth c D B tW α0 Q C hQ
  have hO := hC.os hI.os
  have h12 := hI.N12
  obtain ⟨ho, h27, h26, hU⟩ := hC.un hI hkc
  rw [hk0] at ho h26 hU
  have l16 := hU.r16
  have l8 := hU.c8
  have hcv := (hI.cv ho).2.2 r9 hr
  have hdo := (hI.dd ho).2 r9 hr
  have hs9 := hdo.1
  have e53 : ι 6 o9 r9 0 = nI (mn M 53 (16 * o9 + r9)) := ((hC.1 6 _ _ _ (by unfold isCl; omega)).trans hcv.1).trans (hI.bd.b53.eq (by omega))
  have e54m : ι 6 o9 r9 1 = M 54 0 0 (16 * o9 + r9) := (hC.1 6 _ _ _ (by unfold isCl; omega)).trans hcv.2.1
  have e54 : ι 6 o9 r9 1 = nI (mn M 54 (16 * o9 + r9)) := e54m.trans (hI.bd.b54.eq (by omega))
  have e55 : ι 6 o9 r9 2 = nI (mn M 55 (16 * o9 + r9)) := ((hC.1 6 _ _ _ (by unfold isCl; omega)).trans hcv.2.2.1).trans (hI.bd.b55.eq (by omega))
  have e56 : ι 6 o9 r9 3 = nI (mn M 56 (16 * o9 + r9)) := ((hC.1 6 _ _ _ (by unfold isCl; omega)).trans hcv.2.2.2.1).trans (hI.bd.b56.eq (by omega))
  have e57 : ι 6 o9 r9 4 = M 57 0 0 (16 * o9 + r9) := (hC.1 6 _ _ _ (by unfold isCl; omega)).trans hcv.2.2.2.2
  have l53 := hI.bd.b53.le (t := (16 * o9 + r9)) (by omega)
  have l54 := hI.bd.b54.le (t := (16 * o9 + r9)) (by omega)
  have l55 := hI.bd.b55.le (t := (16 * o9 + r9)) (by omega)
  have hdv9 : (16 * o9 + r9) / 16 = o9 := by omega
  have hsl : slR M (16 * o9 + r9) = 8 * o9 + mn M 53 (16 * o9 + r9) := by unfold slR; rw [hdv9]
  have hs96 : slR M (16 * o9 + r9) < 96 := by omega
  have l45 := hI.bd.b45.le (t := slR M (16 * o9 + r9)) (by omega)
  have lwd := wd_le (t := mn M 55 (16 * o9 + r9))
  have e45 : ι 7 o9 (mn M 53 (16 * o9 + r9)) 2 = nI (mn M 45 (slR M (16 * o9 + r9))) := by rw [hC.1 7 _ _ _ (by unfold isCl; omega), ((hI.cv ho).1 _ hs9).2.2.1, hsl]; exact hI.bd.b45.eq (by omega)
  have hin : 12 * o9 + mn M 56 (16 * o9 + r9) ∈ (sq M 12 47 c9) := by rw [← hk0]; exact sq_mem hkc (by rw [hk0]; exact hdo.2)
  obtain ⟨p1, p2, p3⟩ := hT.2.2.1 _ hin
  have hlen : (sq M 12 47 c9).length ≤ 144 := hI.lk.nl
  have hk144 : kx (12 * o9 + mn M 56 (16 * o9 + r9)) < 144 := by have := hT.2.1; omega
  have htz := hT.tz (fun _ h => h) hlen hI.rc
  by_cases hre : ι 28 0 0 (slR M (16 * o9 + r9)) = 0
  · skip
    refine V_iload_n C d_Li_workInOne_0 rfl ?_
    refine V_aload_n C d_Li_workInOne_1 rfl ?_
    refine V_getI (kx := 0) C d_Li_workInOne_2 cf_Rf (by decide) k_Li_154 (nn (hU.rf hr).1) rfl ?_
    refine V_eqi (y := nI (mn M 53 (16 * o9 + r9))) e53 ?_
    refine V_callSN (as := [_, _]) C d_Li_workInOne_5 (c_OL_slotOf (a := o9) (b := mn M 53 (16 * o9 + r9))) m_OL_slotOf k_Li_168 ⟨by decide, by decide⟩ (Nat.le_of_ble_eq_true rfl) ⟨by decide, by decide⟩ rfl ?_
    rintro _ _ _ _ _ ⟨rfl, rfl, rfl, rfl, rfl⟩
    dsimp only [Option.toList, List.cons_append, List.nil_append]
    refine V_eqi (y := nI (slR M (16 * o9 + r9))) (by rw [hsl]) ?_
    refine V_istore_n (lv' := [(3, _), (0, _), (1, _), (2, _)]) C d_Li_workInOne_8 (by decide) rfl ?_
    refine V_aload_n C d_Li_workInOne_9 rfl ?_
    refine V_getR (kx := 4) C d_Li_workInOne_10 cf_Li (by decide) k_Li_28 (nn hO.n0) rfl hO.r04 ?_
    refine V_iload_n C d_Li_workInOne_13 rfl ?_
    refine V_zald C d_Li_workInOne_14 (by decide) rfl hO.n28 rfl hs96 rfl ?_
    refine V_if_ne (tgt := 20) C d_Li_workInOne_15 (by decide) (fun h15 => absurd hre h15) (fun h15 => ?_)
    refine V_iconst (v := 0) C d_Li_workInOne_18 (by decide) ?_
    refine V_iret C hQ (by decide) (by decide) d_Li_workInOne_19 rfl ?_
    unfold fC iC
    rw [if_pos hre, if_pos hre]
    exact ⟨rfl, rfl, rfl, rfl, rfl⟩
  · by_cases hl9 : mn M 45 (slR M (16 * o9 + r9)) < mn M 54 (16 * o9 + r9) + wd (mn M 55 (16 * o9 + r9))
    · skip
      refine V_iload_n C d_Li_workInOne_0 rfl ?_
      refine V_aload_n C d_Li_workInOne_1 rfl ?_
      refine V_getI (kx := 0) C d_Li_workInOne_2 cf_Rf (by decide) k_Li_154 (nn (hU.rf hr).1) rfl ?_
      refine V_eqi (y := nI (mn M 53 (16 * o9 + r9))) e53 ?_
      refine V_callSN (as := [_, _]) C d_Li_workInOne_5 (c_OL_slotOf (a := o9) (b := mn M 53 (16 * o9 + r9))) m_OL_slotOf k_Li_168 ⟨by decide, by decide⟩ (Nat.le_of_ble_eq_true rfl) ⟨by decide, by decide⟩ rfl ?_
      rintro _ _ _ _ _ ⟨rfl, rfl, rfl, rfl, rfl⟩
      dsimp only [Option.toList, List.cons_append, List.nil_append]
      refine V_eqi (y := nI (slR M (16 * o9 + r9))) (by rw [hsl]) ?_
      refine V_istore_n (lv' := [(3, _), (0, _), (1, _), (2, _)]) C d_Li_workInOne_8 (by decide) rfl ?_
      refine V_aload_n C d_Li_workInOne_9 rfl ?_
      refine V_getR (kx := 4) C d_Li_workInOne_10 cf_Li (by decide) k_Li_28 (nn hO.n0) rfl hO.r04 ?_
      refine V_iload_n C d_Li_workInOne_13 rfl ?_
      refine V_zald C d_Li_workInOne_14 (by decide) rfl hO.n28 rfl hs96 rfl ?_
      refine V_if_ne (tgt := 20) C d_Li_workInOne_15 (by decide) (fun h15 => ?_) (fun h15 => absurd h15 hre)
      refine V_gWid (host := "ObjectLinks") C d_Li_workInOne_20 (by decide +kernel) ?_
      refine V_aload_n C d_Li_workInOne_23 rfl ?_
      refine V_getI (kx := 2) C d_Li_workInOne_24 cf_Rf (by decide) k_Li_227 (nn (hU.rf hr).1) rfl ?_
      refine V_eWid C d_Li_workInOne_27 (v := nI (wd (mn M 55 (16 * o9 + r9)))) e55 (by omega) (wid_wd (by omega)) ?_
      refine V_istore (lv' := [(4, _), (3, _), (0, _), (1, _), (2, _)]) C d_Li_workInOne_28 (by decide) rfl ?_
      refine V_aload_n C d_Li_workInOne_30 rfl ?_
      refine V_getI (kx := 1) C d_Li_workInOne_31 cf_Rf (by decide) k_Li_230 (nn (hU.rf hr).1) rfl ?_
      refine V_eqi (y := nI (mn M 54 (16 * o9 + r9))) e54 ?_
      refine V_iload C d_Li_workInOne_34 rfl ?_
      refine V_iadd C d_Li_workInOne_36 ?_
      refine V_eqi (y := nI (mn M 54 (16 * o9 + r9) + wd (mn M 55 (16 * o9 + r9)))) (nI_add _ _) ?_
      refine V_aload_n C d_Li_workInOne_37 rfl ?_
      refine V_getR (kx := 0) C d_Li_workInOne_38 cf_Li (by decide) k_Li_11 (nn hO.n0) rfl hO.r00 ?_
      refine V_iload_n C d_Li_workInOne_41 rfl ?_
      refine V_aald C d_Li_workInOne_42 (by decide) (by decide) rfl hO.n26 rfl (by omega) rfl h26 ?_
      refine V_getR (kx := 0) C d_Li_workInOne_43 cf_Un (by decide) k_Li_184 hU.al rfl hU.r0 ?_
      refine V_aload_n C d_Li_workInOne_46 rfl ?_
      refine V_getI (kx := 0) C d_Li_workInOne_47 cf_Rf (by decide) k_Li_154 (nn (hU.rf hr).1) rfl ?_
      refine V_eqi (y := nI (mn M 53 (16 * o9 + r9))) e53 ?_
      refine V_aald C d_Li_workInOne_50 (by decide) (by decide) rfl hU.n0 rfl (by omega) rfl (hU.se hs9).2.1 ?_
      refine V_getI (kx := 2) C d_Li_workInOne_51 cf_Se (by decide) k_Li_196 (nn (hU.se hs9).1) rfl ?_
      refine V_eqi (y := nI (mn M 45 (slR M (16 * o9 + r9)))) e45 ?_
      refine V_icmp_le (tgt := 59) C d_Li_workInOne_54 (by decide) (fun h54 => absurd ((nI_leI (by omega) (by omega)).mp h54) (by omega)) (fun h54 => ?_)
      refine V_iconst (v := 3) C d_Li_workInOne_57 (by decide) ?_
      refine V_iret C hQ (by decide) (by decide) d_Li_workInOne_58 rfl ?_
      unfold fC iC
      rw [if_neg hre, if_pos hl9, if_neg hre, if_pos hl9]
      exact ⟨rfl, rfl, rfl, rfl, rfl⟩
    · obtain ⟨a7, ha7, hfit⟩ := hat hre hl9
      by_cases hfl : fltV (mn M 55 (16 * o9 + r9)) (sC M ι kx (16 * o9 + r9)) (aC M ι kx (16 * o9 + r9)) = 0
      · skip
        refine V_iload_n C d_Li_workInOne_0 rfl ?_
        refine V_aload_n C d_Li_workInOne_1 rfl ?_
        refine V_getI (kx := 0) C d_Li_workInOne_2 cf_Rf (by decide) k_Li_154 (nn (hU.rf hr).1) rfl ?_
        refine V_eqi (y := nI (mn M 53 (16 * o9 + r9))) e53 ?_
        refine V_callSN (as := [_, _]) C d_Li_workInOne_5 (c_OL_slotOf (a := o9) (b := mn M 53 (16 * o9 + r9))) m_OL_slotOf k_Li_168 ⟨by decide, by decide⟩ (Nat.le_of_ble_eq_true rfl) ⟨by decide, by decide⟩ rfl ?_
        rintro _ _ _ _ _ ⟨rfl, rfl, rfl, rfl, rfl⟩
        dsimp only [Option.toList, List.cons_append, List.nil_append]
        refine V_eqi (y := nI (slR M (16 * o9 + r9))) (by rw [hsl]) ?_
        refine V_istore_n (lv' := [(3, _), (0, _), (1, _), (2, _)]) C d_Li_workInOne_8 (by decide) rfl ?_
        refine V_aload_n C d_Li_workInOne_9 rfl ?_
        refine V_getR (kx := 4) C d_Li_workInOne_10 cf_Li (by decide) k_Li_28 (nn hO.n0) rfl hO.r04 ?_
        refine V_iload_n C d_Li_workInOne_13 rfl ?_
        refine V_zald C d_Li_workInOne_14 (by decide) rfl hO.n28 rfl hs96 rfl ?_
        refine V_if_ne (tgt := 20) C d_Li_workInOne_15 (by decide) (fun h15 => ?_) (fun h15 => absurd h15 hre)
        refine V_gWid (host := "ObjectLinks") C d_Li_workInOne_20 (by decide +kernel) ?_
        refine V_aload_n C d_Li_workInOne_23 rfl ?_
        refine V_getI (kx := 2) C d_Li_workInOne_24 cf_Rf (by decide) k_Li_227 (nn (hU.rf hr).1) rfl ?_
        refine V_eWid C d_Li_workInOne_27 (v := nI (wd (mn M 55 (16 * o9 + r9)))) e55 (by omega) (wid_wd (by omega)) ?_
        refine V_istore (lv' := [(4, _), (3, _), (0, _), (1, _), (2, _)]) C d_Li_workInOne_28 (by decide) rfl ?_
        refine V_aload_n C d_Li_workInOne_30 rfl ?_
        refine V_getI (kx := 1) C d_Li_workInOne_31 cf_Rf (by decide) k_Li_230 (nn (hU.rf hr).1) rfl ?_
        refine V_eqi (y := nI (mn M 54 (16 * o9 + r9))) e54 ?_
        refine V_iload C d_Li_workInOne_34 rfl ?_
        refine V_iadd C d_Li_workInOne_36 ?_
        refine V_eqi (y := nI (mn M 54 (16 * o9 + r9) + wd (mn M 55 (16 * o9 + r9)))) (nI_add _ _) ?_
        refine V_aload_n C d_Li_workInOne_37 rfl ?_
        refine V_getR (kx := 0) C d_Li_workInOne_38 cf_Li (by decide) k_Li_11 (nn hO.n0) rfl hO.r00 ?_
        refine V_iload_n C d_Li_workInOne_41 rfl ?_
        refine V_aald C d_Li_workInOne_42 (by decide) (by decide) rfl hO.n26 rfl (by omega) rfl h26 ?_
        refine V_getR (kx := 0) C d_Li_workInOne_43 cf_Un (by decide) k_Li_184 hU.al rfl hU.r0 ?_
        refine V_aload_n C d_Li_workInOne_46 rfl ?_
        refine V_getI (kx := 0) C d_Li_workInOne_47 cf_Rf (by decide) k_Li_154 (nn (hU.rf hr).1) rfl ?_
        refine V_eqi (y := nI (mn M 53 (16 * o9 + r9))) e53 ?_
        refine V_aald C d_Li_workInOne_50 (by decide) (by decide) rfl hU.n0 rfl (by omega) rfl (hU.se hs9).2.1 ?_
        refine V_getI (kx := 2) C d_Li_workInOne_51 cf_Se (by decide) k_Li_196 (nn (hU.se hs9).1) rfl ?_
        refine V_eqi (y := nI (mn M 45 (slR M (16 * o9 + r9)))) e45 ?_
        refine V_icmp_le (tgt := 59) C d_Li_workInOne_54 (by decide) (fun h54 => ?_) (fun h54 => absurd ((nI_leI (by omega) (by omega)).mpr (by omega)) h54)
        refine V_aload_n C d_Li_workInOne_59 rfl ?_
        refine V_getR (kx := 7) C d_Li_workInOne_60 cf_Li (by decide) k_Li_35 (nn hO.n0) rfl hO.r07 ?_
        refine V_iload_n C d_Li_workInOne_63 rfl ?_
        refine V_iald C d_Li_workInOne_64 (by decide) rfl hO.n30 rfl hs96 rfl ?_
        refine V_aload_n C d_Li_workInOne_65 rfl ?_
        refine V_getI (kx := 1) C d_Li_workInOne_66 cf_Rf (by decide) k_Li_230 (nn (hU.rf hr).1) rfl ?_
        refine V_eqi (y := M 54 0 0 (16 * o9 + r9)) e54m ?_
        refine V_iadd C d_Li_workInOne_69 ?_
        refine V_istore (lv' := [(5, _), (4, _), (3, _), (0, _), (1, _), (2, _)]) C d_Li_workInOne_70 (by decide) rfl ?_
        refine V_aload_n C d_Li_workInOne_72 rfl ?_
        refine V_aload_n C d_Li_workInOne_73 rfl ?_
        refine V_getR (kx := 3) C d_Li_workInOne_74 cf_Li (by decide) k_Li_24 (nn hO.n0) rfl hO.r03 ?_
        refine V_iload_n C d_Li_workInOne_77 rfl ?_
        refine V_aload_n C d_Li_workInOne_78 rfl ?_
        refine V_getI (kx := 3) C d_Li_workInOne_79 cf_Rf (by decide) k_Li_159 (nn (hU.rf hr).1) rfl ?_
        refine V_eqi (y := nI (mn M 56 (16 * o9 + r9))) e56 ?_
        refine V_callV (as := [_, _]) C d_Li_workInOne_82 (c_NT_meaningOf hO (o9 := o9) (t9 := mn M 56 (16 * o9 + r9)) (k9 := kx (12 * o9 + mn M 56 (16 * o9 + r9))) (by have := hI.nb _ hin; omega) p3) m_NT_meaningOf cf_NT k_Li_162 (nn hO.n3) ⟨by decide, by decide⟩ (Nat.le_of_ble_eq_true rfl) ⟨by decide, by decide⟩ rfl ?_
        rintro _ _ _ _ _ ⟨rfl, rfl, rfl, rfl, rfl⟩
        dsimp only [Option.toList, List.cons_append, List.nil_append]
        refine V_callV (as := [_]) C d_Li_workInOne_85 (c_Li_addressOf hO hk144 (htz.2.2 _ p1)) m_Li_addressOf cf_Li k_Li_62 (nn hO.n0) ⟨by decide, by decide⟩ (Nat.le_of_ble_eq_true rfl) ⟨by decide, by decide⟩ rfl ?_
        rintro _ _ _ _ _ ⟨rfl, rfl, rfl, rfl, rfl⟩
        dsimp only [Option.toList, List.cons_append, List.nil_append]
        refine V_i2l C d_Li_workInOne_88 ?_
        refine V_aload_n C d_Li_workInOne_89 rfl ?_
        refine V_getI (kx := 4) C d_Li_workInOne_90 cf_Rf (by decide) k_Li_231 (nn (hU.rf hr).1) rfl ?_
        refine V_eqi (y := M 57 0 0 (16 * o9 + r9)) e57 ?_
        refine V_i2l C d_Li_workInOne_93 ?_
        refine V_ladd C d_Li_workInOne_94 ?_
        refine V_eql (y := (sC M ι kx (16 * o9 + r9))) (by unfold sC; rw [hdv9]) ?_
        refine V_lstore (lv' := [(6, _), (5, _), (4, _), (3, _), (0, _), (1, _), (2, _)]) C d_Li_workInOne_95 (by decide) rfl ?_
        refine V_lload C d_Li_workInOne_97 rfl ?_
        refine V_iload C d_Li_workInOne_99 rfl ?_
        refine V_i2l C d_Li_workInOne_101 ?_
        refine V_lsub C d_Li_workInOne_102 ?_
        refine V_lstore (lv' := [(8, _), (6, _), (5, _), (4, _), (3, _), (0, _), (1, _), (2, _)]) C d_Li_workInOne_103 (by decide) rfl ?_
        refine V_aload_n C d_Li_workInOne_105 rfl ?_
        refine V_getI (kx := 2) C d_Li_workInOne_106 cf_Rf (by decide) k_Li_227 (nn (hU.rf hr).1) rfl ?_
        refine V_eqi (y := nI (mn M 55 (16 * o9 + r9))) e55 ?_
        refine V_lload C d_Li_workInOne_109 rfl ?_
        refine V_lload C d_Li_workInOne_111 rfl ?_
        refine V_callS (as := [_, _, _]) C d_Li_workInOne_113 (c_Li_faultOfWay (w := mn M 55 (16 * o9 + r9)) (by omega)) m_Li_faultOfWay k_Li_234 ⟨by decide, by decide⟩ (Nat.le_of_ble_eq_true rfl) ⟨by decide, by decide⟩ rfl ?_
        rintro _ _ _ _ _ ⟨rfl, rfl, rfl, rfl, rfl⟩
        dsimp only [Option.toList, List.cons_append, List.nil_append]
        refine V_istore (lv' := [(10, _), (8, _), (6, _), (5, _), (4, _), (3, _), (0, _), (1, _), (2, _)]) C d_Li_workInOne_116 (by decide) rfl ?_
        refine V_iload C d_Li_workInOne_118 rfl ?_
        refine V_if_ne (tgt := 147) C d_Li_workInOne_120 (by decide) (fun h120 => absurd hfl h120) (fun h120 => ?_)
        refine V_aload_n C d_Li_workInOne_123 rfl ?_
        refine V_iload C d_Li_workInOne_124 rfl ?_
        refine V_aload_n C d_Li_workInOne_126 rfl ?_
        refine V_getI (kx := 9) C d_Li_workInOne_127 cf_Li (by decide) k_Li_55 (nn hO.n0) rfl ?_
        refine V_isub C d_Li_workInOne_130 ?_
        refine V_eqi (y := nI a7) ha7 ?_
        refine V_iload C d_Li_workInOne_131 rfl ?_
        refine V_aload_n C d_Li_workInOne_133 rfl ?_
        refine V_getI (kx := 2) C d_Li_workInOne_134 cf_Rf (by decide) k_Li_227 (nn (hU.rf hr).1) rfl ?_
        refine V_eqi (y := nI (mn M 55 (16 * o9 + r9))) e55 ?_
        refine V_lload C d_Li_workInOne_137 rfl ?_
        refine V_lload C d_Li_workInOne_139 rfl ?_
        refine V_callS (as := [_, _, _]) C d_Li_workInOne_141 (c_Li_valueOfWay (w := mn M 55 (16 * o9 + r9)) (by omega)) m_Li_valueOfWay k_Li_238 ⟨by decide, by decide⟩ (Nat.le_of_ble_eq_true rfl) ⟨by decide, by decide⟩ rfl ?_
        rintro _ _ _ _ _ ⟨rfl, rfl, rfl, rfl, rfl⟩
        dsimp only [Option.toList, List.cons_append, List.nil_append]
        refine V_callV (as := [_, _, _]) C d_Li_workInOne_144 (c_Li_putInto hO (a := a7) (w := wd (mn M 55 (16 * o9 + r9))) (by omega)) m_Li_putInto cf_Li k_Li_242 (nn hO.n0) ⟨by decide, by decide⟩ (Nat.le_of_ble_eq_true rfl) ⟨by decide, by decide⟩ rfl ?_
        rintro _ _ _ _ _ ⟨rfl, rfl, rfl, rfl, rfl⟩
        dsimp only [Option.toList, List.cons_append, List.nil_append]
        refine V_iload C d_Li_workInOne_147 rfl ?_
        refine V_iret C hQ (by decide) (by decide) d_Li_workInOne_149 rfl ?_
        unfold fC iC
        rw [if_neg hre, if_neg hl9, if_neg hre, if_neg hl9, if_pos hfl, ha7, nI_clamp (by omega)]
        exact ⟨rfl, rfl, rfl, rfl, rfl⟩
      · skip
        refine V_iload_n C d_Li_workInOne_0 rfl ?_
        refine V_aload_n C d_Li_workInOne_1 rfl ?_
        refine V_getI (kx := 0) C d_Li_workInOne_2 cf_Rf (by decide) k_Li_154 (nn (hU.rf hr).1) rfl ?_
        refine V_eqi (y := nI (mn M 53 (16 * o9 + r9))) e53 ?_
        refine V_callSN (as := [_, _]) C d_Li_workInOne_5 (c_OL_slotOf (a := o9) (b := mn M 53 (16 * o9 + r9))) m_OL_slotOf k_Li_168 ⟨by decide, by decide⟩ (Nat.le_of_ble_eq_true rfl) ⟨by decide, by decide⟩ rfl ?_
        rintro _ _ _ _ _ ⟨rfl, rfl, rfl, rfl, rfl⟩
        dsimp only [Option.toList, List.cons_append, List.nil_append]
        refine V_eqi (y := nI (slR M (16 * o9 + r9))) (by rw [hsl]) ?_
        refine V_istore_n (lv' := [(3, _), (0, _), (1, _), (2, _)]) C d_Li_workInOne_8 (by decide) rfl ?_
        refine V_aload_n C d_Li_workInOne_9 rfl ?_
        refine V_getR (kx := 4) C d_Li_workInOne_10 cf_Li (by decide) k_Li_28 (nn hO.n0) rfl hO.r04 ?_
        refine V_iload_n C d_Li_workInOne_13 rfl ?_
        refine V_zald C d_Li_workInOne_14 (by decide) rfl hO.n28 rfl hs96 rfl ?_
        refine V_if_ne (tgt := 20) C d_Li_workInOne_15 (by decide) (fun h15 => ?_) (fun h15 => absurd h15 hre)
        refine V_gWid (host := "ObjectLinks") C d_Li_workInOne_20 (by decide +kernel) ?_
        refine V_aload_n C d_Li_workInOne_23 rfl ?_
        refine V_getI (kx := 2) C d_Li_workInOne_24 cf_Rf (by decide) k_Li_227 (nn (hU.rf hr).1) rfl ?_
        refine V_eWid C d_Li_workInOne_27 (v := nI (wd (mn M 55 (16 * o9 + r9)))) e55 (by omega) (wid_wd (by omega)) ?_
        refine V_istore (lv' := [(4, _), (3, _), (0, _), (1, _), (2, _)]) C d_Li_workInOne_28 (by decide) rfl ?_
        refine V_aload_n C d_Li_workInOne_30 rfl ?_
        refine V_getI (kx := 1) C d_Li_workInOne_31 cf_Rf (by decide) k_Li_230 (nn (hU.rf hr).1) rfl ?_
        refine V_eqi (y := nI (mn M 54 (16 * o9 + r9))) e54 ?_
        refine V_iload C d_Li_workInOne_34 rfl ?_
        refine V_iadd C d_Li_workInOne_36 ?_
        refine V_eqi (y := nI (mn M 54 (16 * o9 + r9) + wd (mn M 55 (16 * o9 + r9)))) (nI_add _ _) ?_
        refine V_aload_n C d_Li_workInOne_37 rfl ?_
        refine V_getR (kx := 0) C d_Li_workInOne_38 cf_Li (by decide) k_Li_11 (nn hO.n0) rfl hO.r00 ?_
        refine V_iload_n C d_Li_workInOne_41 rfl ?_
        refine V_aald C d_Li_workInOne_42 (by decide) (by decide) rfl hO.n26 rfl (by omega) rfl h26 ?_
        refine V_getR (kx := 0) C d_Li_workInOne_43 cf_Un (by decide) k_Li_184 hU.al rfl hU.r0 ?_
        refine V_aload_n C d_Li_workInOne_46 rfl ?_
        refine V_getI (kx := 0) C d_Li_workInOne_47 cf_Rf (by decide) k_Li_154 (nn (hU.rf hr).1) rfl ?_
        refine V_eqi (y := nI (mn M 53 (16 * o9 + r9))) e53 ?_
        refine V_aald C d_Li_workInOne_50 (by decide) (by decide) rfl hU.n0 rfl (by omega) rfl (hU.se hs9).2.1 ?_
        refine V_getI (kx := 2) C d_Li_workInOne_51 cf_Se (by decide) k_Li_196 (nn (hU.se hs9).1) rfl ?_
        refine V_eqi (y := nI (mn M 45 (slR M (16 * o9 + r9)))) e45 ?_
        refine V_icmp_le (tgt := 59) C d_Li_workInOne_54 (by decide) (fun h54 => ?_) (fun h54 => absurd ((nI_leI (by omega) (by omega)).mpr (by omega)) h54)
        refine V_aload_n C d_Li_workInOne_59 rfl ?_
        refine V_getR (kx := 7) C d_Li_workInOne_60 cf_Li (by decide) k_Li_35 (nn hO.n0) rfl hO.r07 ?_
        refine V_iload_n C d_Li_workInOne_63 rfl ?_
        refine V_iald C d_Li_workInOne_64 (by decide) rfl hO.n30 rfl hs96 rfl ?_
        refine V_aload_n C d_Li_workInOne_65 rfl ?_
        refine V_getI (kx := 1) C d_Li_workInOne_66 cf_Rf (by decide) k_Li_230 (nn (hU.rf hr).1) rfl ?_
        refine V_eqi (y := M 54 0 0 (16 * o9 + r9)) e54m ?_
        refine V_iadd C d_Li_workInOne_69 ?_
        refine V_istore (lv' := [(5, _), (4, _), (3, _), (0, _), (1, _), (2, _)]) C d_Li_workInOne_70 (by decide) rfl ?_
        refine V_aload_n C d_Li_workInOne_72 rfl ?_
        refine V_aload_n C d_Li_workInOne_73 rfl ?_
        refine V_getR (kx := 3) C d_Li_workInOne_74 cf_Li (by decide) k_Li_24 (nn hO.n0) rfl hO.r03 ?_
        refine V_iload_n C d_Li_workInOne_77 rfl ?_
        refine V_aload_n C d_Li_workInOne_78 rfl ?_
        refine V_getI (kx := 3) C d_Li_workInOne_79 cf_Rf (by decide) k_Li_159 (nn (hU.rf hr).1) rfl ?_
        refine V_eqi (y := nI (mn M 56 (16 * o9 + r9))) e56 ?_
        refine V_callV (as := [_, _]) C d_Li_workInOne_82 (c_NT_meaningOf hO (o9 := o9) (t9 := mn M 56 (16 * o9 + r9)) (k9 := kx (12 * o9 + mn M 56 (16 * o9 + r9))) (by have := hI.nb _ hin; omega) p3) m_NT_meaningOf cf_NT k_Li_162 (nn hO.n3) ⟨by decide, by decide⟩ (Nat.le_of_ble_eq_true rfl) ⟨by decide, by decide⟩ rfl ?_
        rintro _ _ _ _ _ ⟨rfl, rfl, rfl, rfl, rfl⟩
        dsimp only [Option.toList, List.cons_append, List.nil_append]
        refine V_callV (as := [_]) C d_Li_workInOne_85 (c_Li_addressOf hO hk144 (htz.2.2 _ p1)) m_Li_addressOf cf_Li k_Li_62 (nn hO.n0) ⟨by decide, by decide⟩ (Nat.le_of_ble_eq_true rfl) ⟨by decide, by decide⟩ rfl ?_
        rintro _ _ _ _ _ ⟨rfl, rfl, rfl, rfl, rfl⟩
        dsimp only [Option.toList, List.cons_append, List.nil_append]
        refine V_i2l C d_Li_workInOne_88 ?_
        refine V_aload_n C d_Li_workInOne_89 rfl ?_
        refine V_getI (kx := 4) C d_Li_workInOne_90 cf_Rf (by decide) k_Li_231 (nn (hU.rf hr).1) rfl ?_
        refine V_eqi (y := M 57 0 0 (16 * o9 + r9)) e57 ?_
        refine V_i2l C d_Li_workInOne_93 ?_
        refine V_ladd C d_Li_workInOne_94 ?_
        refine V_eql (y := (sC M ι kx (16 * o9 + r9))) (by unfold sC; rw [hdv9]) ?_
        refine V_lstore (lv' := [(6, _), (5, _), (4, _), (3, _), (0, _), (1, _), (2, _)]) C d_Li_workInOne_95 (by decide) rfl ?_
        refine V_lload C d_Li_workInOne_97 rfl ?_
        refine V_iload C d_Li_workInOne_99 rfl ?_
        refine V_i2l C d_Li_workInOne_101 ?_
        refine V_lsub C d_Li_workInOne_102 ?_
        refine V_lstore (lv' := [(8, _), (6, _), (5, _), (4, _), (3, _), (0, _), (1, _), (2, _)]) C d_Li_workInOne_103 (by decide) rfl ?_
        refine V_aload_n C d_Li_workInOne_105 rfl ?_
        refine V_getI (kx := 2) C d_Li_workInOne_106 cf_Rf (by decide) k_Li_227 (nn (hU.rf hr).1) rfl ?_
        refine V_eqi (y := nI (mn M 55 (16 * o9 + r9))) e55 ?_
        refine V_lload C d_Li_workInOne_109 rfl ?_
        refine V_lload C d_Li_workInOne_111 rfl ?_
        refine V_callS (as := [_, _, _]) C d_Li_workInOne_113 (c_Li_faultOfWay (w := mn M 55 (16 * o9 + r9)) (by omega)) m_Li_faultOfWay k_Li_234 ⟨by decide, by decide⟩ (Nat.le_of_ble_eq_true rfl) ⟨by decide, by decide⟩ rfl ?_
        rintro _ _ _ _ _ ⟨rfl, rfl, rfl, rfl, rfl⟩
        dsimp only [Option.toList, List.cons_append, List.nil_append]
        refine V_istore (lv' := [(10, _), (8, _), (6, _), (5, _), (4, _), (3, _), (0, _), (1, _), (2, _)]) C d_Li_workInOne_116 (by decide) rfl ?_
        refine V_iload C d_Li_workInOne_118 rfl ?_
        refine V_if_ne (tgt := 147) C d_Li_workInOne_120 (by decide) (fun h120 => ?_) (fun h120 => absurd h120 hfl)
        refine V_iload C d_Li_workInOne_147 rfl ?_
        refine V_iret C hQ (by decide) (by decide) d_Li_workInOne_149 rfl ?_
        unfold fC iC
        rw [if_neg hre, if_neg hl9, if_neg hre, if_neg hl9, if_neg hfl]
        exact ⟨rfl, rfl, rfl, rfl, rfl⟩
