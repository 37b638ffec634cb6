def FR3 (N : Nat) (ι ι1 : Io) : Prop := ∀ r i j k, ¬ (i = 0 ∧ j = 0 ∧ (inO 12 r k ∨ inO N r k)) → ¬ (r = 10 ∧ i = 0 ∧ j = 0 ∧ (k = 0 ∨ k = 1 ∨ k = 39 ∨ k = 40)) → ι1 r i j k = ι r i j k
def RG (f : Nat → Int32) (n : Nat) : Prop := 7 ≤ n ∧ GOOD f (n - 2) ∧ sumR f (n - 2) &&& 65535 = 256 * f (n - 2) + f (n - 1)
theorem FR3.u {N k : Nat} {ι ι1 : Io} {x : Int32} (h : FR3 N ι ι1) (hk : k = 0 ∨ k = 1 ∨ k = 39 ∨ k = 40) : FR3 N ι (up4 ι1 10 0 0 k x) := by
  intro r i j q h1 h2
  rw [up4_ne (fun z => h2 ⟨z.1, z.2.1, z.2.2.1, by rw [z.2.2.2]; exact hk⟩)]
  exact h r i j q h1 h2
theorem FR3.rf {N : Nat} {ι : Io} : FR3 N ι ι := fun _ _ _ _ _ _ => rfl
theorem FR3.fo {N o : Nat} {ι ι1 ι2 : Io} (h : FR3 N ι ι1) (h2 : FO o ι1 ι2) (ho : o = 12 ∨ o = N) : FR3 N ι ι2 := by
  intro r i j q g1 g2
  rw [h2 r i j q (fun z => g1 ⟨z.1, z.2.1, by rcases ho with rfl | rfl; exact Or.inl z.2.2; exact Or.inr z.2.2⟩)]
  exact h r i j q g1 g2
theorem FR3.to {N : Nat} {ι ι1 : Io} (h : FR3 12 ι ι1) : FR3 N ι ι1 := fun r i j k h1 h2 => h r i j k (fun z => h1 ⟨z.1, z.2.1, Or.inl (z.2.2.elim id id)⟩) h2
theorem FR3tS {N a : Nat} {ι ι1 : Io} {g : Int32} (h : FR3 N ι ι1) : FR3 N ι (tS ι1 a g) := (h.u (by omega)).u (by omega)
theorem BDtS {ι : Io} {a : Nat} {g : Int32} (h : BD ι) : BD (tS ι a g) := h.m10.m10
set_option maxHeartbeats 1000000 in
set_option maxRecDepth 10000 in
theorem c_Mo_read_b {ν : Nu} {ι : Io} {ρ : Ro} {ℓ : Lo} (hM : MoS ν ρ) {x : Int32} (hx : ¬ (0 ≤ x ∧ x ≤ ι 10 0 0 37)) : Ct y_Mo_read (Cond.code y_Mo_read b_Mo_read 3 (some .int) :: tb_) { frames := 4, cells := 0, slots := 0, locals := 100 } [sR 10 0 0, sI x] ν ι ρ ℓ (pEq (some (sI 0)) ν (up4 ι 10 0 0 0 1) ρ ℓ) (noX) := by
  refine Ct.ofV (by decide) (Nat.le_of_ble_eq_true rfl) rfl ?_
  intro p l e s m args below meth c D B tW α0 Q C hQ
  refine V_aload_n C d_Mo_read_0 rfl ?_
  refine V_iconst (v := 0) C d_Mo_read_1 (by decide) ?_
  refine V_putI (kx := 0) C d_Mo_read_2 cf_Mo (by decide) k_Mo_93 hM.al rfl rfl rfl rfl ?_
  refine V_iload_n C d_Mo_read_5 rfl ?_
  refine V_iconst (v := 0) C d_Mo_read_6 (by decide) ?_
  refine V_aload_n C d_Mo_read_7 rfl ?_
  refine V_getI (kx := 37) C d_Mo_read_8 cf_Mo (by decide) k_Mo_252 hM.al rfl ?_
  refine V_callS (as := [_, _, _]) C d_Mo_read_11 (c_Mo_within) m_Mo_within k_Mo_99 ⟨by decide, by decide⟩ (Nat.le_of_ble_eq_true rfl) ⟨by decide, by decide⟩ rfl ?_
  rintro _ _ _ _ _ ⟨rfl, rfl, rfl, rfl, rfl⟩
  dsimp only [Option.toList, List.cons_append, List.nil_append]
  refine V_if_ne (tgt := 23) C d_Mo_read_14 (by decide) (fun h14 => absurd (b2_n0.mp h14) hx) (fun h14 => ?_)
  refine V_aload_n C d_Mo_read_17 rfl ?_
  refine V_iconst (v := 1) C d_Mo_read_18 (by decide) ?_
  refine V_callV (as := [_]) C d_Mo_read_19 (c_Mo_fail hM) m_Mo_fail cf_Mo k_Mo_103 hM.al ⟨by decide, by decide⟩ (Nat.le_of_ble_eq_true rfl) ⟨by decide, by decide⟩ rfl ?_
  rintro _ _ _ _ _ ⟨rfl, rfl, rfl, rfl, rfl⟩
  dsimp only [Option.toList, List.cons_append, List.nil_append]
  refine V_iret C hQ (by decide) (by decide) d_Mo_read_22 rfl ?_
  exact ⟨rfl, rfl, up4_up4.symm, rfl, rfl⟩
set_option maxHeartbeats 1000000 in
set_option maxRecDepth 10000 in
theorem c_Mo_read {ν : Nu} {ι : Io} {ρ : Ro} {ℓ : Lo} (hM : MoS ν ρ) (hB : BD ι) (hby : bd ι 78 1400 255) {N w c8 : Nat} (hN : ι 10 0 0 1 = nI N) (hN12 : N ≤ 12) (hw : ι 10 0 0 37 = nI w) (hw14 : w ≤ 1400) (hcw : c8 ≤ w) : Ct y_Mo_read (Cond.code y_Mo_read b_Mo_read 3 (some .int) :: tb_) { frames := 4, cells := 0, slots := 0, locals := 100 } [sR 10 0 0, sI (nI c8)] ν ι ρ ℓ (fun v ν1 ι1 ρ1 ℓ1 => ν = ν1 ∧ ρ = ρ1 ∧ ℓ = ℓ1 ∧ BD ι1 ∧ FR3 N ι ι1 ∧ ((RG (ι 78 0 0) (w - c8) ∧ N < 12 ∧ v = some (sI (nI N)) ∧ ι1 10 0 0 0 = 0 ∧ ι1 10 0 0 1 = nI (N + 1) ∧ MSo ι1 N (ι 78 0 0) (cS (ι 78 0 0)) ∧ MNo ι1 N (ι 78 0 0) (cN (ι 78 0 0)) ∧ MRo ι1 N (ι 78 0 0) (cR (ι 78 0 0))) ∨ (((RG (ι 78 0 0) (w - c8) ∧ N = 12 ∧ ι1 10 0 0 0 = 2) ∨ (¬ RG (ι 78 0 0) (w - c8) ∧ ι1 10 0 0 0 = 1)) ∧ v = some (sI 0) ∧ ι1 10 0 0 1 = nI N ∧ FR3 12 ι ι1))) (noX) := by
  refine Ct.ofV (by decide) (Nat.le_of_ble_eq_true rfl) rfl ?_
  intro p l e s m args below meth c D B tW α0 Q C hQ
  have hx : 0 ≤ nI c8 ∧ nI c8 ≤ up4 ι 10 0 0 0 0 10 0 0 37 := ⟨nI_pos' (by omega), by rw [show up4 ι 10 0 0 0 0 10 0 0 37 = nI w from hw]; exact nI_le hcw (by omega)⟩
  by_cases h7 : 7 ≤ w - c8
  · skip
    refine V_aload_n C d_Mo_read_0 rfl ?_
    refine V_iconst (v := 0) C d_Mo_read_1 (by decide) ?_
    refine V_putI (kx := 0) C d_Mo_read_2 cf_Mo (by decide) k_Mo_93 hM.al rfl rfl rfl rfl ?_
    refine V_iload_n C d_Mo_read_5 rfl ?_
    refine V_iconst (v := 0) C d_Mo_read_6 (by decide) ?_
    refine V_aload_n C d_Mo_read_7 rfl ?_
    refine V_getI (kx := 37) C d_Mo_read_8 cf_Mo (by decide) k_Mo_252 hM.al rfl ?_
    refine V_callS (as := [_, _, _]) C d_Mo_read_11 (c_Mo_within) m_Mo_within k_Mo_99 ⟨by decide, by decide⟩ (Nat.le_of_ble_eq_true rfl) ⟨by decide, by decide⟩ rfl ?_
    rintro _ _ _ _ _ ⟨rfl, rfl, rfl, rfl, rfl⟩
    dsimp only [Option.toList, List.cons_append, List.nil_append]
    refine V_if_ne (tgt := 23) C d_Mo_read_14 (by decide) (fun h14 => ?_) (fun h14 => absurd hx (b2_0.mp h14))
    refine V_aload_n C d_Mo_read_23 rfl ?_
    refine V_getI (kx := 37) C d_Mo_read_24 cf_Mo (by decide) k_Mo_252 hM.al rfl ?_
    refine V_iload_n C d_Mo_read_27 rfl ?_
    refine V_isub C d_Mo_read_28 ?_
    refine V_iconst (v := 2) C d_Mo_read_29 (by decide) ?_
    refine V_isub C d_Mo_read_30 ?_
    refine V_eqi (y := nI (w - c8 - 2)) (by rw [show up4 ι 10 0 0 0 0 10 0 0 37 = nI w from hw, pk_sub hcw, show (2 : Int32) = nI 2 from rfl, pk_sub (by omega)]) ?_
    refine V_istore_n (lv' := [(2, _), (0, _), (1, _)]) C d_Mo_read_31 (by decide) rfl ?_
    refine V_aload_n C d_Mo_read_32 rfl ?_
    refine V_iload_n C d_Mo_read_33 rfl ?_
    refine V_iconst (v := 5) C d_Mo_read_34 (by decide) ?_
    refine V_icmp_lt (tgt := 42) C d_Mo_read_35 (by decide) (fun h35 => absurd ((nI_ltI (b := 5) (by omega) (by decide)).mp h35) (by omega)) (fun h35 => ?_)
    refine V_iconst (v := 1) C d_Mo_read_38 (by decide) ?_
    refine V_goto (tgt := 43) C d_Mo_read_39 (by decide) ?_
    refine V_putI (kx := 40) C d_Mo_read_43 cf_Mo (by decide) k_Mo_265 hM.al rfl rfl rfl rfl ?_
    refine V_aload_n C d_Mo_read_46 rfl ?_
    refine V_getI (kx := 40) C d_Mo_read_47 cf_Mo (by decide) k_Mo_265 hM.al rfl ?_
    refine V_if_eq (tgt := 60) C d_Mo_read_50 (by decide) (fun h50 => absurd (show (1 : Int32) = 0 from h50) (by decide)) (fun h50 => ?_)
    refine V_aload_n C d_Mo_read_53 rfl ?_
    refine V_bipush (v := 12) C d_Mo_read_54 (by decide) ?_
    refine V_iload_n C d_Mo_read_56 rfl ?_
    refine V_callV (as := [_, _]) C d_Mo_read_57 (c_Mo_fill (ι := (up4 (z0 ι) 10 0 0 40 1)) hM (o := 12) (T := (w - c8 - 2)) (by omega) (by omega) (by omega) hB.m10.m10 hby) m_Mo_fill cf_Mo k_Mo_275 hM.al ⟨by decide, by decide⟩ (Nat.le_of_ble_eq_true rfl) ⟨by decide, by decide⟩ rfl ?_
    rintro _ _ _ _ _ ⟨rfl, rfl, rfl, rfl, ι1, a1, g1, rfl, hFO1, hBD1, hg1⟩
    have hr9 : FR3 12 ι ι1 := ((FR3.rf.u (by omega)).u (by omega)).fo hFO1 (Or.inl rfl)
    have hf1 : ι1 78 0 0 = ι 78 0 0 := hFO1.f78
    have hN1 : ι1 10 0 0 1 = nI N := (hFO1 10 0 0 1 (by unfold inO; omega)).trans hN
    have ht1 : ι1 10 0 0 0 = 0 := hFO1 10 0 0 0 (by unfold inO; omega)
    dsimp only [Option.toList, List.cons_append, List.nil_append]
    refine V_aload_n C d_Mo_read_60 rfl ?_
    refine V_iload_n C d_Mo_read_61 rfl ?_
    refine V_iconst (v := 5) C d_Mo_read_62 (by decide) ?_
    refine V_icmp_lt (tgt := 97) C d_Mo_read_63 (by decide) (fun h63 => absurd ((nI_ltI (b := 5) (by omega) (by decide)).mp h63) (by omega)) (fun h63 => ?_)
    refine V_aload_n C d_Mo_read_66 rfl ?_
    refine V_iload_n C d_Mo_read_67 rfl ?_
    refine V_callV (as := [_]) C d_Mo_read_68 (c_Mo_sumOf hM (n := (w - c8 - 2)) (by omega)) m_Mo_sumOf cf_Mo k_Mo_259 hM.al ⟨by decide, by decide⟩ (Nat.le_of_ble_eq_true rfl) ⟨by decide, by decide⟩ rfl ?_
    rintro _ _ _ _ _ ⟨rfl, rfl, rfl, rfl, rfl⟩
    dsimp only [Option.toList, List.cons_append, List.nil_append]
    refine V_eqi (y := sumR (ι 78 0 0) (w - c8 - 2) &&& 65535) (by rw [show tS ι1 a1 g1 78 0 0 = ι 78 0 0 from hf1]) ?_
    refine V_sipush (v := 256) C d_Mo_read_71 (by decide) ?_
    refine V_aload_n C d_Mo_read_74 rfl ?_
    refine V_getR (kx := 38) C d_Mo_read_75 cf_Mo (by decide) k_Mo_90 hM.al rfl hM.r38 ?_
    refine V_iload_n C d_Mo_read_78 rfl ?_
    refine V_iald C d_Mo_read_79 (by decide) rfl hM.n38 rfl (by omega) rfl ?_
    refine V_eqi (y := (ι 78 0 0) (w - c8 - 2)) (congrFun hf1 _) ?_
    refine V_imul C d_Mo_read_80 ?_
    refine V_aload_n C d_Mo_read_81 rfl ?_
    refine V_getR (kx := 38) C d_Mo_read_82 cf_Mo (by decide) k_Mo_90 hM.al rfl hM.r38 ?_
    refine V_iload_n C d_Mo_read_85 rfl ?_
    refine V_iconst (v := 1) C d_Mo_read_86 (by decide) ?_
    refine V_iadd C d_Mo_read_87 ?_
    refine V_iald C d_Mo_read_88 (by decide) rfl hM.n38 (nI_1 (w - c8 - 2)) (by omega) rfl ?_
    refine V_eqi (y := (ι 78 0 0) ((w - c8 - 2) + 1)) (congrFun hf1 _) ?_
    refine V_iadd C d_Mo_read_89 ?_
    refine V_icmp_ne (tgt := 97) C d_Mo_read_90 (by decide) (fun h90 => ?_) (fun h90 => ?_)
    · have hs9 : ¬ (sumR (ι 78 0 0) (w - c8 - 2) &&& 65535 = 256 * (ι 78 0 0) (w - c8 - 2) + (ι 78 0 0) (w - c8 - 1)) := by rw [show w - c8 - 1 = (w - c8 - 2) + 1 by omega]; exact h90
      have hnr : ¬ RG (ι 78 0 0) (w - c8) := fun z => hs9 z.2.2
      refine V_iconst (v := 0) C d_Mo_read_97 (by decide) ?_
      refine V_callV (as := [_]) C d_Mo_read_98 (k_need hM) m_Mo_need cf_Mo k_Mo_271 hM.al ⟨by decide, by decide⟩ (Nat.le_of_ble_eq_true rfl) ⟨by decide, by decide⟩ rfl ?_
      rintro _ _ _ _ _ ⟨rfl, rfl, rfl, rfl, rfl⟩
      dsimp only [Option.toList, List.cons_append, List.nil_append]
      refine V_aload_n C d_Mo_read_101 rfl ?_
      refine V_getI (kx := 40) C d_Mo_read_102 cf_Mo (by decide) k_Mo_265 hM.al rfl ?_
      refine V_if_ne (tgt := 114) C d_Mo_read_105 (by decide) (fun h105 => absurd (b2_f (fun z => z.2 rfl)) h105) (fun h105 => ?_)
      refine V_aload_n C d_Mo_read_108 rfl ?_
      refine V_iconst (v := 1) C d_Mo_read_109 (by decide) ?_
      refine V_callV (as := [_]) C d_Mo_read_110 (c_Mo_fail hM) m_Mo_fail cf_Mo k_Mo_103 hM.al ⟨by decide, by decide⟩ (Nat.le_of_ble_eq_true rfl) ⟨by decide, by decide⟩ rfl ?_
      rintro _ _ _ _ _ ⟨rfl, rfl, rfl, rfl, rfl⟩
      dsimp only [Option.toList, List.cons_append, List.nil_append]
      refine V_iret C hQ (by decide) (by decide) d_Mo_read_113 rfl ?_
      exact ⟨rfl, rfl, rfl, (BDtS hBD1).m10, FR3.to ((FR3tS hr9).u (by omega)), Or.inr ⟨Or.inr ⟨hnr, rfl⟩, rfl, hN1, (FR3tS hr9).u (by omega)⟩⟩
    · have hs9 : sumR (ι 78 0 0) (w - c8 - 2) &&& 65535 = 256 * (ι 78 0 0) (w - c8 - 2) + (ι 78 0 0) (w - c8 - 1) := by rw [show w - c8 - 1 = (w - c8 - 2) + 1 by omega]; exact h90
      refine V_iconst (v := 1) C d_Mo_read_93 (by decide) ?_
      refine V_goto (tgt := 98) C d_Mo_read_94 (by decide) ?_
      refine V_callV (as := [_]) C d_Mo_read_98 (k_need hM) m_Mo_need cf_Mo k_Mo_271 hM.al ⟨by decide, by decide⟩ (Nat.le_of_ble_eq_true rfl) ⟨by decide, by decide⟩ rfl ?_
      rintro _ _ _ _ _ ⟨rfl, rfl, rfl, rfl, rfl⟩
      dsimp only [Option.toList, List.cons_append, List.nil_append]
      refine V_aload_n C d_Mo_read_101 rfl ?_
      refine V_getI (kx := 40) C d_Mo_read_102 cf_Mo (by decide) k_Mo_265 hM.al rfl ?_
      refine V_if_ne (tgt := 114) C d_Mo_read_105 (by decide) (fun h105 => ?_) (fun h105 => ?_)
      · have hgg : ¬ g1 = 0 := (b2_n0.mp h105).1
        obtain ⟨hg9, hGD, _⟩ := hg1.resolve_left (fun z => hgg z.1)
        have hrg : RG (ι 78 0 0) (w - c8) := ⟨h7, hGD, hs9⟩
        refine V_aload_n C d_Mo_read_114 rfl ?_
        refine V_getI (kx := 1) C d_Mo_read_115 cf_Mo (by decide) k_Mo_96 hM.al rfl ?_
        refine V_bipush (v := 12) C d_Mo_read_118 (by decide) ?_
        refine V_icmp_ne (tgt := 129) C d_Mo_read_120 (by decide) (fun h120 => ?_) (fun h120 => ?_)
        · have hne : N ≠ 12 := fun z => h120 (by rw [show (tS ι1 a1 _ 10 0 0 1 : Int32) = nI N from hN1, z]; rfl)
          refine V_aload_n C d_Mo_read_129 rfl ?_
          refine V_aload_n C d_Mo_read_130 rfl ?_
          refine V_getI (kx := 1) C d_Mo_read_131 cf_Mo (by decide) k_Mo_96 hM.al rfl ?_
          refine V_eqi (y := nI N) hN1 ?_
          refine V_iload_n C d_Mo_read_134 rfl ?_
          refine V_callV (as := [_, _]) C d_Mo_read_135 (c_Mo_fill hM (o := N) (T := (w - c8 - 2)) (by omega) (by omega) (by omega) (BDtS hBD1) (show bd ι1 78 1400 255 from fun k hk => by rw [congrFun hf1 k]; exact hby k hk)) m_Mo_fill cf_Mo k_Mo_275 hM.al ⟨by decide, by decide⟩ (Nat.le_of_ble_eq_true rfl) ⟨by decide, by decide⟩ rfl ?_
          rintro _ _ _ _ _ ⟨rfl, rfl, rfl, rfl, ι2, a2, g2, rfl, hFO2, hBD2, hg2⟩
          dsimp only [Option.toList, List.cons_append, List.nil_append]
          refine V_aload_n C d_Mo_read_138 rfl ?_
          refine V_dup C d_Mo_read_139 rfl ?_
          refine V_getI (kx := 1) C d_Mo_read_140 cf_Mo (by decide) k_Mo_96 hM.al rfl ?_
          refine V_iconst (v := 1) C d_Mo_read_143 (by decide) ?_
          refine V_iadd C d_Mo_read_144 ?_
          refine V_putI (kx := 1) C d_Mo_read_145 cf_Mo (by decide) k_Mo_96 hM.al rfl rfl rfl rfl ?_
          refine V_aload_n C d_Mo_read_148 rfl ?_
          refine V_getI (kx := 1) C d_Mo_read_149 cf_Mo (by decide) k_Mo_96 hM.al rfl ?_
          refine V_iconst (v := 1) C d_Mo_read_152 (by decide) ?_
          refine V_isub C d_Mo_read_153 ?_
          refine V_iret C hQ (by decide) (by decide) d_Mo_read_154 rfl ?_
          have hr10 : FR3 N ι ι2 := (FR3tS (FR3.to (N := N) hr9)).fo hFO2 (Or.inr rfl)
          have hN2 : ι2 10 0 0 1 = nI N := (hFO2 10 0 0 1 (by unfold inO; omega)).trans hN1
          have ht2 : ι2 10 0 0 0 = 0 := (hFO2 10 0 0 0 (by unfold inO; omega)).trans ht1
          obtain ⟨hg9, _, hm1, hm2, hm3⟩ := hg2.resolve_left (fun z => z.2 (by rw [show tS ι1 a1 _ 78 0 0 = ι 78 0 0 from hf1]; exact hrg.2.1))
          rw [show tS ι1 a1 _ 78 0 0 = ι 78 0 0 from hf1] at hm1 hm2 hm3
          refine ⟨rfl, rfl, rfl, (BDtS hBD2).m10, (FR3tS hr10).u (by omega), Or.inl ⟨hrg, by omega, congrArg (fun z => some (sI z)) ?_, ht2, ?_, hm1, hm2, hm3⟩⟩
          · show ι2 10 0 0 1 + 1 - 1 = nI N
            rw [hN2]
            rw [nI_1]
            exact nI_pred N
          · show ι2 10 0 0 1 + 1 = _
            rw [hN2]
            exact nI_1 N
        · refine V_aload_n C d_Mo_read_123 rfl ?_
          refine V_iconst (v := 2) C d_Mo_read_124 (by decide) ?_
          refine V_callV (as := [_]) C d_Mo_read_125 (c_Mo_fail hM) m_Mo_fail cf_Mo k_Mo_103 hM.al ⟨by decide, by decide⟩ (Nat.le_of_ble_eq_true rfl) ⟨by decide, by decide⟩ rfl ?_
          rintro _ _ _ _ _ ⟨rfl, rfl, rfl, rfl, rfl⟩
          dsimp only [Option.toList, List.cons_append, List.nil_append]
          refine V_iret C hQ (by decide) (by decide) d_Mo_read_128 rfl ?_
          exact ⟨rfl, rfl, rfl, (BDtS hBD1).m10, FR3.to ((FR3tS hr9).u (by omega)), Or.inr ⟨Or.inl ⟨hrg, (nI_eq (b := 12) (by omega) (by decide)).mp (hN1.symm.trans h120), rfl⟩, rfl, hN1, (FR3tS hr9).u (by omega)⟩⟩
      · have hgg : g1 = 0 := Decidable.byContradiction (fun z => absurd h105 (b2_n0.mpr ⟨z, by decide⟩))
        have hnr : ¬ RG (ι 78 0 0) (w - c8) := fun z => (hg1.resolve_right (fun q => absurd hgg (by rw [q.1]; decide))).2 z.2.1
        refine V_aload_n C d_Mo_read_108 rfl ?_
        refine V_iconst (v := 1) C d_Mo_read_109 (by decide) ?_
        refine V_callV (as := [_]) C d_Mo_read_110 (c_Mo_fail hM) m_Mo_fail cf_Mo k_Mo_103 hM.al ⟨by decide, by decide⟩ (Nat.le_of_ble_eq_true rfl) ⟨by decide, by decide⟩ rfl ?_
        rintro _ _ _ _ _ ⟨rfl, rfl, rfl, rfl, rfl⟩
        dsimp only [Option.toList, List.cons_append, List.nil_append]
        refine V_iret C hQ (by decide) (by decide) d_Mo_read_113 rfl ?_
        exact ⟨rfl, rfl, rfl, (BDtS hBD1).m10, FR3.to ((FR3tS hr9).u (by omega)), Or.inr ⟨Or.inr ⟨hnr, rfl⟩, rfl, hN1, (FR3tS hr9).u (by omega)⟩⟩
  · have hlt : nI (w - c8) - 2 < 5 := Int32.lt_iff_toInt_lt.mpr (by rw [show (nI (w - c8) - 2).toInt = ((w - c8 : Nat) : Int) - (2 : Nat) from pk_sub_toInt (a := w - c8) (b := 2) (by omega) (by decide)]; show _ < (5 : Int); omega)
    refine V_aload_n C d_Mo_read_0 rfl ?_
    refine V_iconst (v := 0) C d_Mo_read_1 (by decide) ?_
    refine V_putI (kx := 0) C d_Mo_read_2 cf_Mo (by decide) k_Mo_93 hM.al rfl rfl rfl rfl ?_
    refine V_iload_n C d_Mo_read_5 rfl ?_
    refine V_iconst (v := 0) C d_Mo_read_6 (by decide) ?_
    refine V_aload_n C d_Mo_read_7 rfl ?_
    refine V_getI (kx := 37) C d_Mo_read_8 cf_Mo (by decide) k_Mo_252 hM.al rfl ?_
    refine V_callS (as := [_, _, _]) C d_Mo_read_11 (c_Mo_within) m_Mo_within k_Mo_99 ⟨by decide, by decide⟩ (Nat.le_of_ble_eq_true rfl) ⟨by decide, by decide⟩ rfl ?_
    rintro _ _ _ _ _ ⟨rfl, rfl, rfl, rfl, rfl⟩
    dsimp only [Option.toList, List.cons_append, List.nil_append]
    refine V_if_ne (tgt := 23) C d_Mo_read_14 (by decide) (fun h14 => ?_) (fun h14 => absurd hx (b2_0.mp h14))
    refine V_aload_n C d_Mo_read_23 rfl ?_
    refine V_getI (kx := 37) C d_Mo_read_24 cf_Mo (by decide) k_Mo_252 hM.al rfl ?_
    refine V_iload_n C d_Mo_read_27 rfl ?_
    refine V_isub C d_Mo_read_28 ?_
    refine V_iconst (v := 2) C d_Mo_read_29 (by decide) ?_
    refine V_isub C d_Mo_read_30 ?_
    refine V_eqi (y := nI (w - c8) - 2) (by rw [show up4 ι 10 0 0 0 0 10 0 0 37 = nI w from hw, pk_sub hcw]) ?_
    refine V_istore_n (lv' := [(2, _), (0, _), (1, _)]) C d_Mo_read_31 (by decide) rfl ?_
    refine V_aload_n C d_Mo_read_32 rfl ?_
    refine V_iload_n C d_Mo_read_33 rfl ?_
    refine V_iconst (v := 5) C d_Mo_read_34 (by decide) ?_
    refine V_icmp_lt (tgt := 42) C d_Mo_read_35 (by decide) (fun h35 => ?_) (fun h35 => absurd hlt h35)
    refine V_iconst (v := 0) C d_Mo_read_42 (by decide) ?_
    refine V_putI (kx := 40) C d_Mo_read_43 cf_Mo (by decide) k_Mo_265 hM.al rfl rfl rfl rfl ?_
    refine V_aload_n C d_Mo_read_46 rfl ?_
    refine V_getI (kx := 40) C d_Mo_read_47 cf_Mo (by decide) k_Mo_265 hM.al rfl ?_
    refine V_if_eq (tgt := 60) C d_Mo_read_50 (by decide) (fun h50 => ?_) (fun h50 => absurd rfl h50)
    refine V_aload_n C d_Mo_read_60 rfl ?_
    refine V_iload_n C d_Mo_read_61 rfl ?_
    refine V_iconst (v := 5) C d_Mo_read_62 (by decide) ?_
    refine V_icmp_lt (tgt := 97) C d_Mo_read_63 (by decide) (fun h63 => ?_) (fun h63 => absurd hlt h63)
    refine V_iconst (v := 0) C d_Mo_read_97 (by decide) ?_
    refine V_callV (as := [_]) C d_Mo_read_98 (c_Mo_need hM) m_Mo_need cf_Mo k_Mo_271 hM.al ⟨by decide, by decide⟩ (Nat.le_of_ble_eq_true rfl) ⟨by decide, by decide⟩ rfl ?_
    rintro _ _ _ _ _ ⟨rfl, rfl, rfl, rfl, rfl⟩
    dsimp only [Option.toList, List.cons_append, List.nil_append]
    refine V_aload_n C d_Mo_read_101 rfl ?_
    refine V_getI (kx := 40) C d_Mo_read_102 cf_Mo (by decide) k_Mo_265 hM.al rfl ?_
    refine V_if_ne (tgt := 114) C d_Mo_read_105 (by decide) (fun h105 => absurd (show b2 (¬ (0 : Int32) = 0 ∧ ¬ (0 : Int32) = 0) = 0 by decide) h105) (fun h105 => ?_)
    refine V_aload_n C d_Mo_read_108 rfl ?_
    refine V_iconst (v := 1) C d_Mo_read_109 (by decide) ?_
    refine V_callV (as := [_]) C d_Mo_read_110 (c_Mo_fail hM) m_Mo_fail cf_Mo k_Mo_103 hM.al ⟨by decide, by decide⟩ (Nat.le_of_ble_eq_true rfl) ⟨by decide, by decide⟩ rfl ?_
    rintro _ _ _ _ _ ⟨rfl, rfl, rfl, rfl, rfl⟩
    dsimp only [Option.toList, List.cons_append, List.nil_append]
    refine V_iret C hQ (by decide) (by decide) d_Mo_read_113 rfl ?_
    exact ⟨rfl, rfl, rfl, hB.m10.m10.m10.m10, (FR3.to ((((FR3.rf.u (by omega)).u (by omega)).u (by omega)).u (by omega))), Or.inr ⟨Or.inr ⟨fun z => h7 z.1, rfl⟩, rfl, hN, ((((FR3.rf.u (by omega)).u (by omega)).u (by omega)).u (by omega))⟩⟩
