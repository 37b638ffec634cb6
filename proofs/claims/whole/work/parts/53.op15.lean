set_option maxHeartbeats 1000000 in
set_option maxRecDepth 10000 in
theorem c_Re_sumIsRight {ν : Nu} {ι : Io} {ρ : Ro} {ℓ : Lo} (hO : OS ν ρ) {g T a : Nat} {b : Int32} {fb : Nat → Int32} (hR : RDR ν ι ρ g T a b) (hT : T + 2 ≤ 1303) (hf : ∀ k, k < T + 2 → ι 25 0 0 k = fb k) : Ct y_Re_sumIsRight (Cond.code y_Re_sumIsRight b_Re_sumIsRight 2 (some .boolean) :: tb_) { frames := 1, cells := 0, slots := 0, locals := 23 } [sR 5 g 0] ν ι ρ ℓ (pEq (some (sI (b2 (sumR fb T &&& 65535 = fb T * 256 + fb (T + 1))))) ν ι ρ ℓ) (noX) := by
  refine Ct.ofV (by decide) (Nat.le_of_ble_eq_true rfl) rfl ?_
  intro p l e s m args below meth c D B tW α0 Q C hQ
  refine V_aload_n C d_Re_sumIsRight_0 rfl ?_
  refine V_getR (kx := 0) C d_Re_sumIsRight_1 cf_Re (by decide) k_Re_9 (nn hR.1) rfl hR.2.1 ?_
  refine V_aload_n C d_Re_sumIsRight_4 rfl ?_
  refine V_getI (kx := 1) C d_Re_sumIsRight_5 cf_Re (by decide) k_Re_15 (nn hR.1) rfl ?_
  refine V_eqi (y := nI (T + 2)) hR.2.2.1 ?_
  refine V_iconst (v := 2) C d_Re_sumIsRight_8 (by decide) ?_
  refine V_isub C d_Re_sumIsRight_9 ?_
  refine V_eqi (y := nI T) ((pk_sub (a := T + 2) (b := 2) (by omega)).trans (congrArg nI (by omega))) ?_
  refine V_iald C d_Re_sumIsRight_10 (by decide) rfl hO.n25 rfl (by omega) rfl ?_
  refine V_eqi (y := fb T) (hf T (by omega)) ?_
  refine V_sipush (v := 256) C d_Re_sumIsRight_11 (by decide) ?_
  refine V_imul C d_Re_sumIsRight_14 ?_
  refine V_aload_n C d_Re_sumIsRight_15 rfl ?_
  refine V_getR (kx := 0) C d_Re_sumIsRight_16 cf_Re (by decide) k_Re_9 (nn hR.1) rfl hR.2.1 ?_
  refine V_aload_n C d_Re_sumIsRight_19 rfl ?_
  refine V_getI (kx := 1) C d_Re_sumIsRight_20 cf_Re (by decide) k_Re_15 (nn hR.1) rfl ?_
  refine V_eqi (y := nI (T + 2)) hR.2.2.1 ?_
  refine V_iconst (v := 1) C d_Re_sumIsRight_23 (by decide) ?_
  refine V_isub C d_Re_sumIsRight_24 ?_
  refine V_eqi (y := nI (T + 1)) ((pk_sub (a := T + 2) (b := 1) (by omega)).trans (congrArg nI (by omega))) ?_
  refine V_iald C d_Re_sumIsRight_25 (by decide) rfl hO.n25 rfl (by omega) rfl ?_
  refine V_eqi (y := fb (T + 1)) (hf (T + 1) (by omega)) ?_
  refine V_iadd C d_Re_sumIsRight_26 ?_
  refine V_istore_n (lv' := [(1, _), (0, _)]) C d_Re_sumIsRight_27 (by decide) rfl ?_
  refine V_aload_n C d_Re_sumIsRight_28 rfl ?_
  refine V_getR (kx := 0) C d_Re_sumIsRight_29 cf_Re (by decide) k_Re_9 (nn hR.1) rfl hR.2.1 ?_
  refine V_aload_n C d_Re_sumIsRight_32 rfl ?_
  refine V_getI (kx := 1) C d_Re_sumIsRight_33 cf_Re (by decide) k_Re_15 (nn hR.1) rfl ?_
  refine V_eqi (y := nI (T + 2)) hR.2.2.1 ?_
  refine V_iconst (v := 2) C d_Re_sumIsRight_36 (by decide) ?_
  refine V_isub C d_Re_sumIsRight_37 ?_
  refine V_eqi (y := nI T) ((pk_sub (a := T + 2) (b := 2) (by omega)).trans (congrArg nI (by omega))) ?_
  refine V_callS (as := [_, _]) C d_Re_sumIsRight_38 (c_Oc_sumOf hO (n := T) (by omega)) m_Oc_sumOf k_Re_43 ⟨by decide, by decide⟩ (Nat.le_of_ble_eq_true rfl) ⟨by decide, by decide⟩ rfl ?_
  rintro _ _ _ _ _ ⟨rfl, rfl, rfl, rfl, rfl⟩
  dsimp only [Option.toList, List.cons_append, List.nil_append]
  refine V_eqi (y := sumR fb T &&& 65535) (by rw [sumR_c (fun k hk => hf k (by omega))]) ?_
  refine V_iload_n C d_Re_sumIsRight_41 rfl ?_
  refine V_icmp_ne (tgt := 49) C d_Re_sumIsRight_42 (by decide) (fun h42 => ?_) (fun h42 => ?_)
  · refine V_iconst (v := 0) C d_Re_sumIsRight_49 (by decide) ?_
    refine V_zret C hQ (by decide) (by decide) d_Re_sumIsRight_50 rfl rfl ?_
    exact ⟨congrArg (fun z => some (sI z)) (by first | exact b2_t h42 | exact b2_f h42), rfl, rfl, rfl, rfl⟩
  · refine V_iconst (v := 1) C d_Re_sumIsRight_45 (by decide) ?_
    refine V_goto (tgt := 50) C d_Re_sumIsRight_46 (by decide) ?_
    refine V_zret C hQ (by decide) (by decide) d_Re_sumIsRight_50 rfl rfl ?_
    exact ⟨congrArg (fun z => some (sI z)) (by first | exact b2_t h42 | exact b2_f h42), rfl, rfl, rfl, rfl⟩
theorem RG_i {fb : Nat → Int32} {T : Nat} : RG fb (T + 2) ↔ 5 ≤ T ∧ GOOD fb T ∧ sumR fb T &&& 65535 = fb T * 256 + fb (T + 1) := by
  unfold RG
  rw [show T + 2 - 2 = T by omega, show T + 2 - 1 = T + 1 by omega, Int32.mul_comm 256]
  constructor
  · rintro ⟨h1, h2, h3⟩; exact ⟨by omega, h2, h3⟩
  · rintro ⟨h1, h2, h3⟩; exact ⟨by omega, h2, h3⟩
set_option maxHeartbeats 1000000 in
set_option maxRecDepth 10000 in
theorem c_Re_unitOrNull {ν : Nu} {ι : Io} {ρ : Ro} {ℓ : Lo} (hO : OS ν ρ) {o g E : Nat} {fb : Nat → Int32} (hA : ν 5 g 0 = some 4) (hr9 : ρ 5 g 0 0 = some (25, 0, 0)) (he : ι 5 g 0 1 = nI E) (ha : ι 5 g 0 2 = 0) (hb : ι 5 g 0 3 = 0) (hE : E ≤ 1303) (hFU : FU ν o) (hf : ∀ k, k < E → ι 25 0 0 k = fb k) (hby : ∀ k, k < 1400 → ∃ x, x ≤ 255 ∧ fb k = nI x) : Ct y_Re_unitOrNull (Cond.code y_Re_unitOrNull b_Re_unitOrNull 6 (some (.object "ObjectLinks$Unit")) :: tb_) { frames := 4, cells := 48, slots := 1226, locals := 96 } [sR 5 g 0] ν ι ρ ℓ (fun v ν1 ι1 ρ1 ℓ1 => ℓ = ℓ1 ∧ RFr o g ν ν1 ι ι1 ρ ρ1 ∧ ∃ q, some (sQ q) = v ∧ ((q = some (8, o, 0) ∧ RG fb E ∧ UI ν1 ι1 ρ1 o (cS fb) (cN fb) (cR fb) ∧ CSo ι1 o fb (cS fb) ∧ CNo ι1 o fb (cN fb) ∧ CRo ι1 o fb (cR fb)) ∨ (q = none ∧ ¬ RG fb E))) (noX) := by
  refine Ct.ofV (by decide) (Nat.le_of_ble_eq_true rfl) rfl ?_
  intro p l e s m args below meth c D B tW α0 Q C hQ
  by_cases h7 : E < 7
  · skip
    refine V_aload_n C d_Re_unitOrNull_0 rfl ?_
    refine V_getI (kx := 1) C d_Re_unitOrNull_1 cf_Re (by decide) k_Re_15 (nn hA) rfl ?_
    refine V_eqi (y := nI E) he ?_
    refine V_bipush (v := 7) C d_Re_unitOrNull_4 (by decide) ?_
    refine V_icmp_lt (tgt := 20) C d_Re_unitOrNull_6 (by decide) (fun h6 => ?_) (fun h6 => absurd ((nI_ltI (a := E) (b := 7) (by omega) (by decide)).mpr h7) h6)
    refine V_null C d_Re_unitOrNull_20 ?_
    refine V_aret C hQ (by first | rfl | ((try dsimp only); omega)) (by first | rfl | ((try dsimp only); omega)) d_Re_unitOrNull_21 rfl ?_
    exact ⟨rfl, RFr.rf, none, rfl, Or.inr ⟨rfl, fun z => absurd z.1 (by omega)⟩⟩
  · obtain ⟨T, hTe⟩ : ∃ T, E = T + 2 := ⟨E - 2, by omega⟩
    subst hTe
    have hT := hE
    have h5 : 5 ≤ T := by omega
    have hR0 : RDR ν ι ρ g T 0 0 := ⟨hA, hr9, he, ha, hb⟩
    have hr0 := hf
    have nul : ∀ (ν5 : Nu) (ι5 : Io) (ρ5 : Ro) (c5 s5 : Nat), RFr o g ν ν5 ι ι5 ρ ρ5 → ¬ RG fb (T + 2) → c5 ≤ 48 → s5 ≤ 1226 → V p l e { frames := 4, cells := 48, slots := 1226, locals := 96 } s m args below meth c D B α0 ν 6 Q c5 s5 ν5 ι5 ρ5 ℓ 112 [(0, sR 5 g 0)] [] := by
      intro ν5 ι5 ρ5 c5 s5 hF5 hnr hc5 hs5
      refine V_iconst (v := 0) C d_Re_unitOrNull_112 (by decide) ?_
      refine V_istore (lv' := [(5, _), (0, _)]) C d_Re_unitOrNull_113 (by decide) rfl ?_
      refine V_iload C d_Re_unitOrNull_115 rfl ?_
      refine V_if_eq (tgt := 138) C d_Re_unitOrNull_117 (by decide) (fun h117 => ?_) (fun h117 => absurd rfl h117)
      refine V_null C d_Re_unitOrNull_138 ?_
      refine V_aret C hQ hc5 hs5 d_Re_unitOrNull_139 rfl ?_
      exact ⟨rfl, hF5, none, rfl, Or.inr ⟨rfl, hnr⟩⟩
    by_cases hmk : beV fb 0 2 = 20290
    · by_cases hcn : beV fb 2 1 ≤ 8 ∧ beV fb 3 1 ≤ 12 ∧ beV fb 4 1 ≤ 16
      · by_cases hsm : sumR fb T &&& 65535 = fb T * 256 + fb (T + 1)
        · skip
          refine V_aload_n C d_Re_unitOrNull_0 rfl ?_
          refine V_getI (kx := 1) C d_Re_unitOrNull_1 cf_Re (by decide) k_Re_15 (nn hR0.1) rfl ?_
          refine V_eqi (y := nI (T + 2)) hR0.2.2.1 ?_
          refine V_bipush (v := 7) C d_Re_unitOrNull_4 (by decide) ?_
          refine V_icmp_lt (tgt := 20) C d_Re_unitOrNull_6 (by decide) (fun h6 => absurd ((nI_ltI (a := T + 2) (b := 7) (by omega) (by decide)).mp h6) (by omega)) (fun h6 => ?_)
          refine V_aload_n C d_Re_unitOrNull_9 rfl ?_
          refine V_iconst (v := 2) C d_Re_unitOrNull_10 (by decide) ?_
          refine V_callV (as := [_]) C d_Re_unitOrNull_11 (c_Re_take (a := 0) (w := 2) (T := T) (fb := fb) hR0 hO.n25 (by omega) hT (by omega) (fun k hk => hr0 k (by omega))) m_Re_take cf_Re k_Re_19 (nn hR0.1) ⟨by decide, by decide⟩ (Nat.le_of_ble_eq_true rfl) ⟨by first | rfl | ((try dsimp only); omega), by first | rfl | ((try dsimp only); omega)⟩ rfl ?_
          rintro _ _ ι1 _ _ ⟨rfl, rfl, rfl, hx1, x1, rfl, hd1⟩
          obtain ⟨_, hv1, hR1⟩ := hd1.resolve_right (fun z => z.1 (by omega))
          subst hv1
          have hr1 : ∀ k, k < T + 2 → ι1 25 0 0 k = fb k := fun k hk => (hx1 25 0 0 k (by omega)).trans (hr0 k hk)
          dsimp only [Option.toList, List.cons_append, List.nil_append]
          refine V_sipush (v := 20290) C d_Re_unitOrNull_14 (by decide) ?_
          refine V_icmp_eq (tgt := 22) C d_Re_unitOrNull_17 (by decide) (fun h17 => ?_) (fun h17 => absurd hmk h17)
          refine V_aload_n C d_Re_unitOrNull_22 rfl ?_
          refine V_iconst (v := 1) C d_Re_unitOrNull_23 (by decide) ?_
          refine V_callV (as := [_]) C d_Re_unitOrNull_24 (c_Re_take (a := 2) (w := 1) (T := T) (fb := fb) hR1 hO.n25 (by omega) hT (by omega) (fun k hk => hr1 k (by omega))) m_Re_take cf_Re k_Re_19 (nn hR1.1) ⟨by decide, by decide⟩ (Nat.le_of_ble_eq_true rfl) ⟨by first | rfl | ((try dsimp only); omega), by first | rfl | ((try dsimp only); omega)⟩ rfl ?_
          rintro _ _ ι2 _ _ ⟨rfl, rfl, rfl, hx2, x2, rfl, hd2⟩
          obtain ⟨_, hv2, hR2⟩ := hd2.resolve_right (fun z => z.1 (by omega))
          subst hv2
          have hr2 : ∀ k, k < T + 2 → ι2 25 0 0 k = fb k := fun k hk => (hx2 25 0 0 k (by omega)).trans (hr1 k hk)
          dsimp only [Option.toList, List.cons_append, List.nil_append]
          refine V_istore_n (lv' := [(1, _), (0, _)]) C d_Re_unitOrNull_27 (by decide) rfl ?_
          refine V_aload_n C d_Re_unitOrNull_28 rfl ?_
          refine V_iconst (v := 1) C d_Re_unitOrNull_29 (by decide) ?_
          refine V_callV (as := [_]) C d_Re_unitOrNull_30 (c_Re_take (a := 3) (w := 1) (T := T) (fb := fb) hR2 hO.n25 (by omega) hT (by omega) (fun k hk => hr2 k (by omega))) m_Re_take cf_Re k_Re_19 (nn hR2.1) ⟨by decide, by decide⟩ (Nat.le_of_ble_eq_true rfl) ⟨by first | rfl | ((try dsimp only); omega), by first | rfl | ((try dsimp only); omega)⟩ rfl ?_
          rintro _ _ ι3 _ _ ⟨rfl, rfl, rfl, hx3, x3, rfl, hd3⟩
          obtain ⟨_, hv3, hR3⟩ := hd3.resolve_right (fun z => z.1 (by omega))
          subst hv3
          have hr3 : ∀ k, k < T + 2 → ι3 25 0 0 k = fb k := fun k hk => (hx3 25 0 0 k (by omega)).trans (hr2 k hk)
          dsimp only [Option.toList, List.cons_append, List.nil_append]
          refine V_istore_n (lv' := [(2, _), (1, _), (0, _)]) C d_Re_unitOrNull_33 (by decide) rfl ?_
          refine V_aload_n C d_Re_unitOrNull_34 rfl ?_
          refine V_iconst (v := 1) C d_Re_unitOrNull_35 (by decide) ?_
          refine V_callV (as := [_]) C d_Re_unitOrNull_36 (c_Re_take (a := 4) (w := 1) (T := T) (fb := fb) hR3 hO.n25 (by omega) hT (by omega) (fun k hk => hr3 k (by omega))) m_Re_take cf_Re k_Re_19 (nn hR3.1) ⟨by decide, by decide⟩ (Nat.le_of_ble_eq_true rfl) ⟨by first | rfl | ((try dsimp only); omega), by first | rfl | ((try dsimp only); omega)⟩ rfl ?_
          rintro _ _ ι4 _ _ ⟨rfl, rfl, rfl, hx4, x4, rfl, hd4⟩
          obtain ⟨_, hv4, hR4⟩ := hd4.resolve_right (fun z => z.1 (by omega))
          subst hv4
          have hr4 : ∀ k, k < T + 2 → ι4 25 0 0 k = fb k := fun k hk => (hx4 25 0 0 k (by omega)).trans (hr3 k hk)
          dsimp only [Option.toList, List.cons_append, List.nil_append]
          refine V_istore_n (lv' := [(3, _), (2, _), (1, _), (0, _)]) C d_Re_unitOrNull_39 (by decide) rfl ?_
          refine V_iload_n C d_Re_unitOrNull_40 rfl ?_
          refine V_bipush (v := 8) C d_Re_unitOrNull_41 (by decide) ?_
          refine V_icmp_gt (tgt := 58) C d_Re_unitOrNull_43 (by decide) (fun h43 => absurd h43 (Int32.not_lt.mpr hcn.1)) (fun h43 => ?_)
          refine V_iload_n C d_Re_unitOrNull_46 rfl ?_
          refine V_bipush (v := 12) C d_Re_unitOrNull_47 (by decide) ?_
          refine V_icmp_gt (tgt := 58) C d_Re_unitOrNull_49 (by decide) (fun h49 => absurd h49 (Int32.not_lt.mpr hcn.2.1)) (fun h49 => ?_)
          refine V_iload_n C d_Re_unitOrNull_52 rfl ?_
          refine V_bipush (v := 16) C d_Re_unitOrNull_53 (by decide) ?_
          refine V_icmp_le (tgt := 60) C d_Re_unitOrNull_55 (by decide) (fun h55 => ?_) (fun h55 => absurd hcn.2.2 h55)
          refine V_aload_n C d_Re_unitOrNull_60 rfl ?_
          refine V_callV (as := []) C d_Re_unitOrNull_61 (c_Re_sumIsRight hO hR4 hT hr4) m_Re_sumIsRight cf_Re k_Re_23 (nn hR4.1) ⟨by decide, by decide⟩ (Nat.le_of_ble_eq_true rfl) ⟨by first | rfl | ((try dsimp only); omega), by first | rfl | ((try dsimp only); omega)⟩ rfl ?_
          rintro _ _ _ _ _ ⟨rfl, rfl, rfl, rfl, rfl⟩
          dsimp only [Option.toList, List.cons_append, List.nil_append]
          refine V_if_ne (tgt := 69) C d_Re_unitOrNull_64 (by decide) (fun h64 => ?_) (fun h64 => absurd hsm (b2_0.mp h64))
          refine V_new (i := o) (j := 0) C d_Re_unitOrNull_69 cf_Un k_Re_27 hFU.1 (fun k hk => ?_) (by first | rfl | ((try dsimp only); omega)) (by first | rfl | ((try dsimp only); omega)) ?_
          · rcases (show k = 0 ∨ k = 1 ∨ k = 2 ∨ k = 3 ∨ k = 4 ∨ k = 5 by omega) with rfl | rfl | rfl | rfl | rfl | rfl <;> first | exact Or.inl ⟨rfl, rfl⟩ | exact Or.inr ⟨rfl, rfl⟩
          refine V_dup C d_Re_unitOrNull_72 rfl ?_
          refine V_callIN (as := []) C d_Re_unitOrNull_73 (c_Un_init (ν := up3 ν 8 o 0 (some 6)) (o := o) (nn up3_s) hFU.2.1 hFU.2.2.1 hFU.2.2.2.1) m_Un_init k_Re_29 ⟨by decide, by decide⟩ (Nat.le_of_ble_eq_true rfl) ⟨by first | rfl | ((try dsimp only); omega), by first | rfl | ((try dsimp only); omega)⟩ rfl ?_
          rintro _ _ _ _ _ ⟨rfl, rfl, rfl, rfl, rfl⟩
          dsimp only [Option.toList, List.cons_append, List.nil_append]
          refine V_astore (lv' := [(4, _), (3, _), (2, _), (1, _), (0, _)]) C d_Re_unitOrNull_76 (by decide) rfl ?_
          have hxx : Rx g ι ι4 := ((hx1.tr hx2).tr hx3).tr hx4
          have hF0 : RFr o g ν (oν ν o) ι (upA ι4 8 o 0 (fun _ => 0)) ρ (oρ ρ o) := (((((((((((((RFr.rf.x hxx).n g8).iA g8).qA g8).n g21).qA g21).q g8).n g22).qA g22).q g8).n g23).qA g23).q g8)
          have hU0 : UI (oν ν o) (upA ι4 8 o 0 (fun _ => 0)) (oρ ρ o) o 0 0 0 := UI.emp hFU
          have hR5 : RDR (oν ν o) (upA ι4 8 o 0 (fun _ => 0)) (oρ ρ o) g T 5 0 := hR4
          have h25 : (oν ν o) 25 0 0 = some 1303 := hO.n25
          have hrw : ∀ k, k < T → (upA ι4 8 o 0 (fun _ => 0)) 25 0 0 k = fb k := fun k hk => hr4 k (by omega)
          obtain ⟨l8, l12, l16⟩ := hd_le ⟨(mark2 (hby 0 (by omega)) (hby 1 (by omega))).mp hmk |>.1, (mark2 (hby 0 (by omega)) (hby 1 (by omega))).mp hmk |>.2, hcn⟩ hby
          have hHD : HD fb := ⟨(mark2 (hby 0 (by omega)) (hby 1 (by omega))).mp hmk |>.1, (mark2 (hby 0 (by omega)) (hby 1 (by omega))).mp hmk |>.2, hcn⟩
          refine V_aload_n C d_Re_unitOrNull_78 rfl ?_
          refine V_aload C d_Re_unitOrNull_79 rfl ?_
          refine V_iload_n C d_Re_unitOrNull_81 rfl ?_
          refine V_eqi (y := nI (cS fb)) (by_nI (hby 2 (by omega))).1 ?_
          refine V_callV (as := [_, _]) C d_Re_unitOrNull_82 (c_Re_takeSections (o := o) (m9 := cS fb) hR5 hU0 h25 (by omega) hT l8 hrw) m_Re_takeSections cf_Re k_Re_30 (nn hR5.1) ⟨by decide, by decide⟩ (Nat.le_of_ble_eq_true rfl) ⟨by first | rfl | ((try dsimp only); omega), by first | rfl | ((try dsimp only); omega)⟩ rfl ?_
          rintro _ ν6 ι6 ρ6 _ ⟨rfl, hF6, b6, rfl, ht6, hf6⟩
          have hF06 := hF0.tr hF6
          dsimp only [Option.toList, List.cons_append, List.nil_append]
          refine V_if_eq (tgt := 112) C d_Re_unitOrNull_85 (by decide) (fun h85 => ?_) (fun h85 => ?_)
          · have hnr : ¬ RG fb (T + 2) := fun z => hf6 (b2f h85) (fun j hj => (RG_i.mp z).2.1.2.1 j hj)
            refine V_pick [4] rfl ?_
            first
              | exact nul _ _ _ _ _ hF08 hnr (by first | rfl | ((try dsimp only); omega)) (by first | rfl | ((try dsimp only); omega))
              | exact nul _ _ _ _ _ hF07 hnr (by first | rfl | ((try dsimp only); omega)) (by first | rfl | ((try dsimp only); omega))
              | exact nul _ _ _ _ _ hF06 hnr (by first | rfl | ((try dsimp only); omega)) (by first | rfl | ((try dsimp only); omega))
          · obtain ⟨ok6, hU6, hS6, hR6, hl6⟩ := ht6 (b2t h85)
            have h256 : ν6 25 0 0 = some 1303 := (hF06.1 25 0 0 (by unfold isG isC; omega)).trans hO.n25
            have hrw6 : ∀ k, k < T → ι6 25 0 0 k = fb k := fun k hk => (hF6.2.1 25 0 0 k (by unfold isG isC; omega)).trans (hrw k hk)
            refine V_aload_n C d_Re_unitOrNull_88 rfl ?_
            refine V_aload C d_Re_unitOrNull_89 rfl ?_
            refine V_iload_n C d_Re_unitOrNull_91 rfl ?_
            refine V_eqi (y := nI (cN fb)) (by_nI (hby 3 (by omega))).1 ?_
            refine V_callV (as := [_, _]) C d_Re_unitOrNull_92 (c_Re_takeNames (o := o) (m9 := cN fb) hR6 hU6 hS6 l8 h256 hl6 hT l12 hrw6) m_Re_takeNames cf_Re k_Re_34 (nn hR6.1) ⟨by decide, by decide⟩ (Nat.le_of_ble_eq_true rfl) ⟨by first | rfl | ((try dsimp only); omega), by first | rfl | ((try dsimp only); omega)⟩ rfl ?_
            rintro _ ν7 ι7 ρ7 _ ⟨rfl, hF7, b7, rfl, ht7, hf7⟩
            have hF07 := hF06.tr hF7
            dsimp only [Option.toList, List.cons_append, List.nil_append]
            refine V_if_eq (tgt := 112) C d_Re_unitOrNull_95 (by decide) (fun h95 => ?_) (fun h95 => ?_)
            · have hnr : ¬ RG fb (T + 2) := fun z => hf7 (b2f h95) (fun j hj => (RG_i.mp z).2.1.2.2.1 j hj)
              refine V_pick [4] rfl ?_
              first
                | exact nul _ _ _ _ _ hF08 hnr (by first | rfl | ((try dsimp only); omega)) (by first | rfl | ((try dsimp only); omega))
                | exact nul _ _ _ _ _ hF07 hnr (by first | rfl | ((try dsimp only); omega)) (by first | rfl | ((try dsimp only); omega))
                | exact nul _ _ _ _ _ hF06 hnr (by first | rfl | ((try dsimp only); omega)) (by first | rfl | ((try dsimp only); omega))
            · obtain ⟨ok7, hU7, hS7, hN7, hR7, hl7⟩ := ht7 (b2t h95)
              have h257 : ν7 25 0 0 = some 1303 := (hF07.1 25 0 0 (by unfold isG isC; omega)).trans hO.n25
              have hrw7 : ∀ k, k < T → ι7 25 0 0 k = fb k := fun k hk => (hF7.2.1 25 0 0 k (by unfold isG isC; omega)).trans (hrw6 k hk)
              refine V_aload_n C d_Re_unitOrNull_98 rfl ?_
              refine V_aload C d_Re_unitOrNull_99 rfl ?_
              refine V_iload_n C d_Re_unitOrNull_101 rfl ?_
              refine V_eqi (y := nI (cR fb)) (by_nI (hby 4 (by omega))).1 ?_
              refine V_callV (as := [_, _]) C d_Re_unitOrNull_102 (c_Re_takeReferences (o := o) (m9 := cR fb) hR7 hU7 hS7 hN7 l8 h257 hl7 hT l16 hrw7) m_Re_takeReferences cf_Re k_Re_37 (nn hR7.1) ⟨by decide, by decide⟩ (Nat.le_of_ble_eq_true rfl) ⟨by first | rfl | ((try dsimp only); omega), by first | rfl | ((try dsimp only); omega)⟩ rfl ?_
              rintro _ ν8 ι8 ρ8 _ ⟨rfl, hF8, b8, rfl, ht8, hf8⟩
              have hF08 := hF07.tr hF8
              dsimp only [Option.toList, List.cons_append, List.nil_append]
              refine V_if_eq (tgt := 112) C d_Re_unitOrNull_105 (by decide) (fun h105 => ?_) (fun h105 => ?_)
              · have hnr : ¬ RG fb (T + 2) := fun z => hf8 (b2f h105) (fun j hj => (RG_i.mp z).2.1.2.2.2.1 j hj)
                refine V_pick [4] rfl ?_
                first
                  | exact nul _ _ _ _ _ hF08 hnr (by first | rfl | ((try dsimp only); omega)) (by first | rfl | ((try dsimp only); omega))
                  | exact nul _ _ _ _ _ hF07 hnr (by first | rfl | ((try dsimp only); omega)) (by first | rfl | ((try dsimp only); omega))
                  | exact nul _ _ _ _ _ hF06 hnr (by first | rfl | ((try dsimp only); omega)) (by first | rfl | ((try dsimp only); omega))
              · obtain ⟨ok8, hU8, hS8, hN8, hQ8, hR8⟩ := ht8 (b2t h105)
                have hrbT : rb fb + 9 * cR fb ≤ 2000 := by unfold rb; omega
                refine V_iconst (v := 1) C d_Re_unitOrNull_108 (by decide) ?_
                refine V_goto (tgt := 113) C d_Re_unitOrNull_109 (by decide) ?_
                refine V_istore (lv' := [(5, _), (4, _), (3, _), (2, _), (1, _), (0, _)]) C d_Re_unitOrNull_113 (by decide) rfl ?_
                refine V_iload C d_Re_unitOrNull_115 rfl ?_
                refine V_if_eq (tgt := 138) C d_Re_unitOrNull_117 (by decide) (fun h117 => absurd h117 (by decide)) (fun h117 => ?_)
                refine V_aload_n C d_Re_unitOrNull_120 rfl ?_
                refine V_getI (kx := 2) C d_Re_unitOrNull_121 cf_Re (by decide) k_Re_40 (nn hR8.1) rfl ?_
                refine V_eqi (y := nI (rb fb + 9 * cR fb)) hR8.2.2.2.1 ?_
                refine V_aload_n C d_Re_unitOrNull_124 rfl ?_
                refine V_getI (kx := 1) C d_Re_unitOrNull_125 cf_Re (by decide) k_Re_15 (nn hR8.1) rfl ?_
                refine V_eqi (y := nI (T + 2)) hR8.2.2.1 ?_
                refine V_iconst (v := 2) C d_Re_unitOrNull_128 (by decide) ?_
                refine V_isub C d_Re_unitOrNull_129 ?_
                refine V_eqi (y := nI T) ((pk_sub (a := T + 2) (b := 2) (by omega)).trans (congrArg nI (by omega))) ?_
                refine V_icmp_ne (tgt := 138) C d_Re_unitOrNull_130 (by decide) (fun h130 => ?_) (fun h130 => ?_)
                · refine V_null C d_Re_unitOrNull_138 ?_
                  refine V_aret C hQ (by first | rfl | ((try dsimp only); omega)) (by first | rfl | ((try dsimp only); omega)) d_Re_unitOrNull_139 rfl ?_
                  first
                    | exact ⟨rfl, hF08, none, rfl, Or.inr ⟨rfl, fun z => h130 (by rw [(RG_i.mp z).2.1.2.2.2.2])⟩⟩
                    | exact ⟨rfl, hF08, _, rfl, Or.inl ⟨rfl, RG_i.mpr ⟨h5, ⟨hHD, ok6, ok7, ok8, nI_inj (by omega) (by omega) h130⟩, hsm⟩, hU8, hS8, hN8, hQ8⟩⟩
                · refine V_aload C d_Re_unitOrNull_133 rfl ?_
                  refine V_goto (tgt := 139) C d_Re_unitOrNull_135 (by decide) ?_
                  refine V_aret C hQ (by first | rfl | ((try dsimp only); omega)) (by first | rfl | ((try dsimp only); omega)) d_Re_unitOrNull_139 rfl ?_
                  first
                    | exact ⟨rfl, hF08, none, rfl, Or.inr ⟨rfl, fun z => h130 (by rw [(RG_i.mp z).2.1.2.2.2.2])⟩⟩
                    | exact ⟨rfl, hF08, _, rfl, Or.inl ⟨rfl, RG_i.mpr ⟨h5, ⟨hHD, ok6, ok7, ok8, nI_inj (by omega) (by omega) h130⟩, hsm⟩, hU8, hS8, hN8, hQ8⟩⟩
        · skip
          refine V_aload_n C d_Re_unitOrNull_0 rfl ?_
          refine V_getI (kx := 1) C d_Re_unitOrNull_1 cf_Re (by decide) k_Re_15 (nn hR0.1) rfl ?_
          refine V_eqi (y := nI (T + 2)) hR0.2.2.1 ?_
          refine V_bipush (v := 7) C d_Re_unitOrNull_4 (by decide) ?_
          refine V_icmp_lt (tgt := 20) C d_Re_unitOrNull_6 (by decide) (fun h6 => absurd ((nI_ltI (a := T + 2) (b := 7) (by omega) (by decide)).mp h6) (by omega)) (fun h6 => ?_)
          refine V_aload_n C d_Re_unitOrNull_9 rfl ?_
          refine V_iconst (v := 2) C d_Re_unitOrNull_10 (by decide) ?_
          refine V_callV (as := [_]) C d_Re_unitOrNull_11 (c_Re_take (a := 0) (w := 2) (T := T) (fb := fb) hR0 hO.n25 (by omega) hT (by omega) (fun k hk => hr0 k (by omega))) m_Re_take cf_Re k_Re_19 (nn hR0.1) ⟨by decide, by decide⟩ (Nat.le_of_ble_eq_true rfl) ⟨by first | rfl | ((try dsimp only); omega), by first | rfl | ((try dsimp only); omega)⟩ rfl ?_
          rintro _ _ ι1 _ _ ⟨rfl, rfl, rfl, hx1, x1, rfl, hd1⟩
          obtain ⟨_, hv1, hR1⟩ := hd1.resolve_right (fun z => z.1 (by omega))
          subst hv1
          have hr1 : ∀ k, k < T + 2 → ι1 25 0 0 k = fb k := fun k hk => (hx1 25 0 0 k (by omega)).trans (hr0 k hk)
          dsimp only [Option.toList, List.cons_append, List.nil_append]
          refine V_sipush (v := 20290) C d_Re_unitOrNull_14 (by decide) ?_
          refine V_icmp_eq (tgt := 22) C d_Re_unitOrNull_17 (by decide) (fun h17 => ?_) (fun h17 => absurd hmk h17)
          refine V_aload_n C d_Re_unitOrNull_22 rfl ?_
          refine V_iconst (v := 1) C d_Re_unitOrNull_23 (by decide) ?_
          refine V_callV (as := [_]) C d_Re_unitOrNull_24 (c_Re_take (a := 2) (w := 1) (T := T) (fb := fb) hR1 hO.n25 (by omega) hT (by omega) (fun k hk => hr1 k (by omega))) m_Re_take cf_Re k_Re_19 (nn hR1.1) ⟨by decide, by decide⟩ (Nat.le_of_ble_eq_true rfl) ⟨by first | rfl | ((try dsimp only); omega), by first | rfl | ((try dsimp only); omega)⟩ rfl ?_
          rintro _ _ ι2 _ _ ⟨rfl, rfl, rfl, hx2, x2, rfl, hd2⟩
          obtain ⟨_, hv2, hR2⟩ := hd2.resolve_right (fun z => z.1 (by omega))
          subst hv2
          have hr2 : ∀ k, k < T + 2 → ι2 25 0 0 k = fb k := fun k hk => (hx2 25 0 0 k (by omega)).trans (hr1 k hk)
          dsimp only [Option.toList, List.cons_append, List.nil_append]
          refine V_istore_n (lv' := [(1, _), (0, _)]) C d_Re_unitOrNull_27 (by decide) rfl ?_
          refine V_aload_n C d_Re_unitOrNull_28 rfl ?_
          refine V_iconst (v := 1) C d_Re_unitOrNull_29 (by decide) ?_
          refine V_callV (as := [_]) C d_Re_unitOrNull_30 (c_Re_take (a := 3) (w := 1) (T := T) (fb := fb) hR2 hO.n25 (by omega) hT (by omega) (fun k hk => hr2 k (by omega))) m_Re_take cf_Re k_Re_19 (nn hR2.1) ⟨by decide, by decide⟩ (Nat.le_of_ble_eq_true rfl) ⟨by first | rfl | ((try dsimp only); omega), by first | rfl | ((try dsimp only); omega)⟩ rfl ?_
          rintro _ _ ι3 _ _ ⟨rfl, rfl, rfl, hx3, x3, rfl, hd3⟩
          obtain ⟨_, hv3, hR3⟩ := hd3.resolve_right (fun z => z.1 (by omega))
          subst hv3
          have hr3 : ∀ k, k < T + 2 → ι3 25 0 0 k = fb k := fun k hk => (hx3 25 0 0 k (by omega)).trans (hr2 k hk)
          dsimp only [Option.toList, List.cons_append, List.nil_append]
          refine V_istore_n (lv' := [(2, _), (1, _), (0, _)]) C d_Re_unitOrNull_33 (by decide) rfl ?_
          refine V_aload_n C d_Re_unitOrNull_34 rfl ?_
          refine V_iconst (v := 1) C d_Re_unitOrNull_35 (by decide) ?_
          refine V_callV (as := [_]) C d_Re_unitOrNull_36 (c_Re_take (a := 4) (w := 1) (T := T) (fb := fb) hR3 hO.n25 (by omega) hT (by omega) (fun k hk => hr3 k (by omega))) m_Re_take cf_Re k_Re_19 (nn hR3.1) ⟨by decide, by decide⟩ (Nat.le_of_ble_eq_true rfl) ⟨by first | rfl | ((try dsimp only); omega), by first | rfl | ((try dsimp only); omega)⟩ rfl ?_
          rintro _ _ ι4 _ _ ⟨rfl, rfl, rfl, hx4, x4, rfl, hd4⟩
          obtain ⟨_, hv4, hR4⟩ := hd4.resolve_right (fun z => z.1 (by omega))
          subst hv4
          have hr4 : ∀ k, k < T + 2 → ι4 25 0 0 k = fb k := fun k hk => (hx4 25 0 0 k (by omega)).trans (hr3 k hk)
          dsimp only [Option.toList, List.cons_append, List.nil_append]
          refine V_istore_n (lv' := [(3, _), (2, _), (1, _), (0, _)]) C d_Re_unitOrNull_39 (by decide) rfl ?_
          refine V_iload_n C d_Re_unitOrNull_40 rfl ?_
          refine V_bipush (v := 8) C d_Re_unitOrNull_41 (by decide) ?_
          refine V_icmp_gt (tgt := 58) C d_Re_unitOrNull_43 (by decide) (fun h43 => absurd h43 (Int32.not_lt.mpr hcn.1)) (fun h43 => ?_)
          refine V_iload_n C d_Re_unitOrNull_46 rfl ?_
          refine V_bipush (v := 12) C d_Re_unitOrNull_47 (by decide) ?_
          refine V_icmp_gt (tgt := 58) C d_Re_unitOrNull_49 (by decide) (fun h49 => absurd h49 (Int32.not_lt.mpr hcn.2.1)) (fun h49 => ?_)
          refine V_iload_n C d_Re_unitOrNull_52 rfl ?_
          refine V_bipush (v := 16) C d_Re_unitOrNull_53 (by decide) ?_
          refine V_icmp_le (tgt := 60) C d_Re_unitOrNull_55 (by decide) (fun h55 => ?_) (fun h55 => absurd hcn.2.2 h55)
          refine V_aload_n C d_Re_unitOrNull_60 rfl ?_
          refine V_callV (as := []) C d_Re_unitOrNull_61 (c_Re_sumIsRight hO hR4 hT hr4) m_Re_sumIsRight cf_Re k_Re_23 (nn hR4.1) ⟨by decide, by decide⟩ (Nat.le_of_ble_eq_true rfl) ⟨by first | rfl | ((try dsimp only); omega), by first | rfl | ((try dsimp only); omega)⟩ rfl ?_
          rintro _ _ _ _ _ ⟨rfl, rfl, rfl, rfl, rfl⟩
          dsimp only [Option.toList, List.cons_append, List.nil_append]
          refine V_if_ne (tgt := 69) C d_Re_unitOrNull_64 (by decide) (fun h64 => absurd (b2_n0.mp h64) hsm) (fun h64 => ?_)
          refine V_null C d_Re_unitOrNull_67 ?_
          refine V_aret C hQ (by first | rfl | ((try dsimp only); omega)) (by first | rfl | ((try dsimp only); omega)) d_Re_unitOrNull_68 rfl ?_
          exact ⟨rfl, (RFr.rf.x hx1).x hx2 |>.x hx3 |>.x hx4, none, rfl, Or.inr ⟨rfl, fun z => hsm (RG_i.mp z).2.2⟩⟩
      · skip
        refine V_aload_n C d_Re_unitOrNull_0 rfl ?_
        refine V_getI (kx := 1) C d_Re_unitOrNull_1 cf_Re (by decide) k_Re_15 (nn hR0.1) rfl ?_
        refine V_eqi (y := nI (T + 2)) hR0.2.2.1 ?_
        refine V_bipush (v := 7) C d_Re_unitOrNull_4 (by decide) ?_
        refine V_icmp_lt (tgt := 20) C d_Re_unitOrNull_6 (by decide) (fun h6 => absurd ((nI_ltI (a := T + 2) (b := 7) (by omega) (by decide)).mp h6) (by omega)) (fun h6 => ?_)
        refine V_aload_n C d_Re_unitOrNull_9 rfl ?_
        refine V_iconst (v := 2) C d_Re_unitOrNull_10 (by decide) ?_
        refine V_callV (as := [_]) C d_Re_unitOrNull_11 (c_Re_take (a := 0) (w := 2) (T := T) (fb := fb) hR0 hO.n25 (by omega) hT (by omega) (fun k hk => hr0 k (by omega))) m_Re_take cf_Re k_Re_19 (nn hR0.1) ⟨by decide, by decide⟩ (Nat.le_of_ble_eq_true rfl) ⟨by first | rfl | ((try dsimp only); omega), by first | rfl | ((try dsimp only); omega)⟩ rfl ?_
        rintro _ _ ι1 _ _ ⟨rfl, rfl, rfl, hx1, x1, rfl, hd1⟩
        obtain ⟨_, hv1, hR1⟩ := hd1.resolve_right (fun z => z.1 (by omega))
        subst hv1
        have hr1 : ∀ k, k < T + 2 → ι1 25 0 0 k = fb k := fun k hk => (hx1 25 0 0 k (by omega)).trans (hr0 k hk)
        dsimp only [Option.toList, List.cons_append, List.nil_append]
        refine V_sipush (v := 20290) C d_Re_unitOrNull_14 (by decide) ?_
        refine V_icmp_eq (tgt := 22) C d_Re_unitOrNull_17 (by decide) (fun h17 => ?_) (fun h17 => absurd hmk h17)
        refine V_aload_n C d_Re_unitOrNull_22 rfl ?_
        refine V_iconst (v := 1) C d_Re_unitOrNull_23 (by decide) ?_
        refine V_callV (as := [_]) C d_Re_unitOrNull_24 (c_Re_take (a := 2) (w := 1) (T := T) (fb := fb) hR1 hO.n25 (by omega) hT (by omega) (fun k hk => hr1 k (by omega))) m_Re_take cf_Re k_Re_19 (nn hR1.1) ⟨by decide, by decide⟩ (Nat.le_of_ble_eq_true rfl) ⟨by first | rfl | ((try dsimp only); omega), by first | rfl | ((try dsimp only); omega)⟩ rfl ?_
        rintro _ _ ι2 _ _ ⟨rfl, rfl, rfl, hx2, x2, rfl, hd2⟩
        obtain ⟨_, hv2, hR2⟩ := hd2.resolve_right (fun z => z.1 (by omega))
        subst hv2
        have hr2 : ∀ k, k < T + 2 → ι2 25 0 0 k = fb k := fun k hk => (hx2 25 0 0 k (by omega)).trans (hr1 k hk)
        dsimp only [Option.toList, List.cons_append, List.nil_append]
        refine V_istore_n (lv' := [(1, _), (0, _)]) C d_Re_unitOrNull_27 (by decide) rfl ?_
        refine V_aload_n C d_Re_unitOrNull_28 rfl ?_
        refine V_iconst (v := 1) C d_Re_unitOrNull_29 (by decide) ?_
        refine V_callV (as := [_]) C d_Re_unitOrNull_30 (c_Re_take (a := 3) (w := 1) (T := T) (fb := fb) hR2 hO.n25 (by omega) hT (by omega) (fun k hk => hr2 k (by omega))) m_Re_take cf_Re k_Re_19 (nn hR2.1) ⟨by decide, by decide⟩ (Nat.le_of_ble_eq_true rfl) ⟨by first | rfl | ((try dsimp only); omega), by first | rfl | ((try dsimp only); omega)⟩ rfl ?_
        rintro _ _ ι3 _ _ ⟨rfl, rfl, rfl, hx3, x3, rfl, hd3⟩
        obtain ⟨_, hv3, hR3⟩ := hd3.resolve_right (fun z => z.1 (by omega))
        subst hv3
        have hr3 : ∀ k, k < T + 2 → ι3 25 0 0 k = fb k := fun k hk => (hx3 25 0 0 k (by omega)).trans (hr2 k hk)
        dsimp only [Option.toList, List.cons_append, List.nil_append]
        refine V_istore_n (lv' := [(2, _), (1, _), (0, _)]) C d_Re_unitOrNull_33 (by decide) rfl ?_
        refine V_aload_n C d_Re_unitOrNull_34 rfl ?_
        refine V_iconst (v := 1) C d_Re_unitOrNull_35 (by decide) ?_
        refine V_callV (as := [_]) C d_Re_unitOrNull_36 (c_Re_take (a := 4) (w := 1) (T := T) (fb := fb) hR3 hO.n25 (by omega) hT (by omega) (fun k hk => hr3 k (by omega))) m_Re_take cf_Re k_Re_19 (nn hR3.1) ⟨by decide, by decide⟩ (Nat.le_of_ble_eq_true rfl) ⟨by first | rfl | ((try dsimp only); omega), by first | rfl | ((try dsimp only); omega)⟩ rfl ?_
        rintro _ _ ι4 _ _ ⟨rfl, rfl, rfl, hx4, x4, rfl, hd4⟩
        obtain ⟨_, hv4, hR4⟩ := hd4.resolve_right (fun z => z.1 (by omega))
        subst hv4
        have hr4 : ∀ k, k < T + 2 → ι4 25 0 0 k = fb k := fun k hk => (hx4 25 0 0 k (by omega)).trans (hr3 k hk)
        dsimp only [Option.toList, List.cons_append, List.nil_append]
        refine V_istore_n (lv' := [(3, _), (2, _), (1, _), (0, _)]) C d_Re_unitOrNull_39 (by decide) rfl ?_
        refine V_iload_n C d_Re_unitOrNull_40 rfl ?_
        refine V_bipush (v := 8) C d_Re_unitOrNull_41 (by decide) ?_
        refine V_icmp_gt (tgt := 58) C d_Re_unitOrNull_43 (by decide) (fun h43 => ?_) (fun h43 => ?_)
        · refine V_null C d_Re_unitOrNull_58 ?_
          refine V_aret C hQ (by first | rfl | ((try dsimp only); omega)) (by first | rfl | ((try dsimp only); omega)) d_Re_unitOrNull_59 rfl ?_
          exact ⟨rfl, (RFr.rf.x hx1).x hx2 |>.x hx3 |>.x hx4, none, rfl, Or.inr ⟨rfl, fun z => hcn (RG_i.mp z).2.1.1.2.2⟩⟩
        · refine V_iload_n C d_Re_unitOrNull_46 rfl ?_
          refine V_bipush (v := 12) C d_Re_unitOrNull_47 (by decide) ?_
          refine V_icmp_gt (tgt := 58) C d_Re_unitOrNull_49 (by decide) (fun h49 => ?_) (fun h49 => ?_)
          · refine V_null C d_Re_unitOrNull_58 ?_
            refine V_aret C hQ (by first | rfl | ((try dsimp only); omega)) (by first | rfl | ((try dsimp only); omega)) d_Re_unitOrNull_59 rfl ?_
            exact ⟨rfl, (RFr.rf.x hx1).x hx2 |>.x hx3 |>.x hx4, none, rfl, Or.inr ⟨rfl, fun z => hcn (RG_i.mp z).2.1.1.2.2⟩⟩
          · refine V_iload_n C d_Re_unitOrNull_52 rfl ?_
            refine V_bipush (v := 16) C d_Re_unitOrNull_53 (by decide) ?_
            refine V_icmp_le (tgt := 60) C d_Re_unitOrNull_55 (by decide) (fun h55 => absurd ⟨Int32.not_lt.mp h43, Int32.not_lt.mp h49, h55⟩ hcn) (fun h55 => ?_)
            refine V_null C d_Re_unitOrNull_58 ?_
            refine V_aret C hQ (by first | rfl | ((try dsimp only); omega)) (by first | rfl | ((try dsimp only); omega)) d_Re_unitOrNull_59 rfl ?_
            exact ⟨rfl, (RFr.rf.x hx1).x hx2 |>.x hx3 |>.x hx4, none, rfl, Or.inr ⟨rfl, fun z => hcn (RG_i.mp z).2.1.1.2.2⟩⟩
    · skip
      refine V_aload_n C d_Re_unitOrNull_0 rfl ?_
      refine V_getI (kx := 1) C d_Re_unitOrNull_1 cf_Re (by decide) k_Re_15 (nn hR0.1) rfl ?_
      refine V_eqi (y := nI (T + 2)) hR0.2.2.1 ?_
      refine V_bipush (v := 7) C d_Re_unitOrNull_4 (by decide) ?_
      refine V_icmp_lt (tgt := 20) C d_Re_unitOrNull_6 (by decide) (fun h6 => absurd ((nI_ltI (a := T + 2) (b := 7) (by omega) (by decide)).mp h6) (by omega)) (fun h6 => ?_)
      refine V_aload_n C d_Re_unitOrNull_9 rfl ?_
      refine V_iconst (v := 2) C d_Re_unitOrNull_10 (by decide) ?_
      refine V_callV (as := [_]) C d_Re_unitOrNull_11 (c_Re_take (a := 0) (w := 2) (T := T) (fb := fb) hR0 hO.n25 (by omega) hT (by omega) (fun k hk => hr0 k (by omega))) m_Re_take cf_Re k_Re_19 (nn hR0.1) ⟨by decide, by decide⟩ (Nat.le_of_ble_eq_true rfl) ⟨by first | rfl | ((try dsimp only); omega), by first | rfl | ((try dsimp only); omega)⟩ rfl ?_
      rintro _ _ ι1 _ _ ⟨rfl, rfl, rfl, hx1, x1, rfl, hd1⟩
      obtain ⟨_, hv1, hR1⟩ := hd1.resolve_right (fun z => z.1 (by omega))
      subst hv1
      have hr1 : ∀ k, k < T + 2 → ι1 25 0 0 k = fb k := fun k hk => (hx1 25 0 0 k (by omega)).trans (hr0 k hk)
      dsimp only [Option.toList, List.cons_append, List.nil_append]
      refine V_sipush (v := 20290) C d_Re_unitOrNull_14 (by decide) ?_
      refine V_icmp_eq (tgt := 22) C d_Re_unitOrNull_17 (by decide) (fun h17 => absurd h17 hmk) (fun h17 => ?_)
      refine V_null C d_Re_unitOrNull_20 ?_
      refine V_aret C hQ (by first | rfl | ((try dsimp only); omega)) (by first | rfl | ((try dsimp only); omega)) d_Re_unitOrNull_21 rfl ?_
      exact ⟨rfl, RFr.rf.x hx1, none, rfl, Or.inr ⟨rfl, fun z => hmk ((mark2 (hby 0 (by omega)) (hby 1 (by omega))).mpr ⟨(RG_i.mp z).2.1.1.1, (RG_i.mp z).2.1.1.2.1⟩)⟩⟩
theorem BD_c {ι ι1 : Io} (h : BD ι) (e : ∀ r k, 42 ≤ r → ι1 r 0 0 k = ι r 0 0 k) : BD ι1 := ⟨h.b42.cg (fun k => e 42 k (by omega)), h.b47.cg (fun k => e 47 k (by omega)), h.b52.cg (fun k => e 52 k (by omega)), h.b43.cg (fun k => e 43 k (by omega)), h.b44.cg (fun k => e 44 k (by omega)), h.b45.cg (fun k => e 45 k (by omega)), h.b49.cg (fun k => e 49 k (by omega)), h.b50.cg (fun k => e 50 k (by omega)), h.b51.cg (fun k => e 51 k (by omega)), h.b53.cg (fun k => e 53 k (by omega)), h.b54.cg (fun k => e 54 k (by omega)), h.b55.cg (fun k => e 55 k (by omega)), h.b56.cg (fun k => e 56 k (by omega))⟩
theorem CSo.c {ι ι' : Io} {o i : Nat} {fb : Nat → Int32} (h : CSo ι o fb i) (e : ∀ r j k, isU r → ι' r o j k = ι r o j k) : CSo ι' o fb i := fun j hj => by
  obtain ⟨a, b, d, k⟩ := h j hj
  rw [e 7 j 0 u7, e 7 j 1 u7, e 7 j 2 u7]
  exact ⟨a, b, d, fun h3 t ht => (e 24 j t u24).trans (k h3 t ht)⟩
theorem CNo.c {ι ι' : Io} {o i : Nat} {fb : Nat → Int32} (h : CNo ι o fb i) (e : ∀ r j k, isU r → ι' r o j k = ι r o j k) : CNo ι' o fb i := fun j hj => by
  rw [e 2 j 0 u2, e 2 j 1 u2, e 2 j 2 u2, e 2 j 3 u2]
  exact h j hj
theorem CRo.c {ι ι' : Io} {o i : Nat} {fb : Nat → Int32} (h : CRo ι o fb i) (e : ∀ r j k, isU r → ι' r o j k = ι r o j k) : CRo ι' o fb i := fun j hj => by
  rw [e 6 j 0 u6, e 6 j 1 u6, e 6 j 2 u6, e 6 j 3 u6, e 6 j 4 u6]
  exact h j hj
theorem RFr.om {N c w n z kn g : Nat} {ν ν1 : Nu} {ι ι1 : Io} {ρ ρ1 : Ro} (hI : IV ν ι ρ N c w n z kn g) (h : RFr N g ν ν1 ι ι1 ρ ρ1) : OS ν1 ρ1 ∧ MoS ν1 ρ1 ∧ BD ι1 ∧ ι1 78 0 0 = ι 78 0 0 ∧ (∀ k, ι1 10 0 0 k = ι 10 0 0 k) ∧ ι1 9 0 0 1 = ι 9 0 0 1 := by
  obtain ⟨f1, _, f3⟩ := FrW_rs (h.w (ι2 := ι1) (ρ2 := ρ1) (fun _ _ _ _ _ _ => rfl) (fun _ _ _ _ _ => rfl))
  have h1 : OS (rs ν) (rq ρ) := hI.os
  have h2 : MoS (rs ν) (rq ρ) := hI.mo
  rw [← f1, ← f3] at h1 h2
  exact ⟨h1, h2, BD_c hI.bd (fun r k hr => h.2.1 r 0 0 k (by unfold isG isC; omega)), funext (fun k => h.2.1 78 0 0 k (by unfold isG isC; omega)), fun k => h.2.1 10 0 0 k (by unfold isG isC; omega), h.2.1 9 0 0 1 (by unfold isG isC; omega)⟩
theorem FR3.w {N : Nat} {ι ι1 : Io} (h : FR3 N ι ι1) : ∀ r i j k, ¬ (i = 0 ∧ j = 0 ∧ (inO 12 r k ∨ inO N r k)) → ¬ ((r = 10 ∧ (k = 0 ∨ k = 1 ∨ k = 39 ∨ k = 40)) ∨ (r = 9 ∧ k = 1)) → ι1 r i j k = ι r i j k := fun r i j k a b => h r i j k a (fun z => b (Or.inl ⟨z.1, z.2.2.2⟩))
theorem FR3.w2 {N : Nat} {ι ι1 : Io} (h : FR3 12 ι ι1) : ∀ r i j k, ¬ (i = 0 ∧ j = 0 ∧ (inO 12 r k ∨ inO N r k)) → ¬ ((r = 10 ∧ (k = 0 ∨ k = 1 ∨ k = 39 ∨ k = 40)) ∨ (r = 9 ∧ k = 1)) → ι1 r i j k = ι r i j k := fun r i j k a b => h r i j k (fun z => a ⟨z.1, z.2.1, z.2.2.elim Or.inl Or.inl⟩) (fun z => b (Or.inl ⟨z.1, z.2.2.2⟩))
theorem FR3.uu {N : Nat} {ι ι1 : Io} (h : FR3 N ι ι1) {r i j k : Nat} (hr : isU r ∨ r = 9) : ι1 r i j k = ι r i j k := by
  have hr2 : r < 42 ∧ r ≠ 10 := by
    rcases hr with hr | hr
    · exact ⟨hr.n5.2.1, hr.n5.2.2.2.1⟩
    · omega
  exact h r i j k (fun z => by have := z.2.2; unfold inO at this; omega) (fun z => hr2.2 z.1)
/-- nothing read -/
theorem rd_no {N c w n z kn g : Nat} {ν ν1 : Nu} {ι ι1 ι2 : Io} {ρ ρ1 : Ro} (hI : IV ν ι ρ N c w n z kn g) (hF : RFr N g ν ν1 ι ι1 ρ ρ1) (hB : BD ι2) (hf : FR3 12 ι1 ι2) (e2 : ι2 10 0 0 1 = nI N) : ∃ νd, INV νd ι2 ρ1 ∧ Dr ν ρ ν1 ρ1 νd :=
  ⟨ν, ⟨N, c, w, n, z, kn, g, IV_no hI (hF.w hf.w2 (fun _ _ _ _ _ => rfl)) (hF.2.2 20 0 0 N (by unfold isG isC; omega)) (((hf.uu (Or.inr rfl)).trans (hF.om hI).2.2.2.2.2).trans hI.iu.1) e2 hB⟩, hF.dr (hI.iu.2.2.2.2 N (Nat.le_refl N)) (hI.ir g (Nat.le_refl g))⟩
/-- an object read -/
theorem rd_ok {N c w n z kn g T : Nat} {ν ν1 : Nu} {ι ι1 ι2 : Io} {ρ ρ1 : Ro} (hI : IV ν ι ρ N c w n z kn g) (hF : RFr N g ν ν1 ι ι1 ρ ρ1) (hN : N < 12) (hg : GOOD (ι 78 0 0) T) (hU : UI ν1 ι1 ρ1 N (cS (ι 78 0 0)) (cN (ι 78 0 0)) (cR (ι 78 0 0))) (hS : CSo ι1 N (ι 78 0 0) (cS (ι 78 0 0))) (hNn : CNo ι1 N (ι 78 0 0) (cN (ι 78 0 0))) (hQ : CRo ι1 N (ι 78 0 0) (cR (ι 78 0 0))) (hB : BD ι2) (hf : FR3 N (up4 ι1 9 0 0 1 (nI (N + 1))) ι2) (e2 : ι2 10 0 0 1 = nI (N + 1)) (m1 : MSo ι2 N (ι 78 0 0) (cS (ι 78 0 0))) (m2 : MNo ι2 N (ι 78 0 0) (cN (ι 78 0 0))) (m3 : MRo ι2 N (ι 78 0 0) (cR (ι 78 0 0))) : ∃ νd, INV νd ι2 (up4 ρ1 20 0 0 N (some (8, N, 0))) ∧ Dr ν ρ ν1 (up4 ρ1 20 0 0 N (some (8, N, 0))) νd := by
  obtain ⟨l8, l12, l16⟩ := hd_le hg.1 hI.bm.2.1
  have eU : ∀ r j k, isU r → ι2 r N j k = ι1 r N j k := fun r j k hr => by
    rw [hf.uu (Or.inl hr), up4_ne (by have := hr.n5; omega)]
  obtain ⟨c1, c2, c3, hcv⟩ := rd_cv l8 l12 l16 (hS.c eU) (hNn.c eU) (hQ.c eU) m1 m2 m3
  have hW : FrW N ν ν1 ι ι2 ρ (up4 ρ1 20 0 0 N (some (8, N, 0))) := hF.w (fun r i j k a b => by
    rw [hf.w r i j k a b]
    exact up4_ne (by omega)) (fun r i j k h => up4_ne (by omega))
  refine ⟨ν1, ⟨N + 1, c, w, n, z, kn, g + 1, IV_rd hI hW hN ?_ e2 up4_s hB ?_ hcv (rd_do l8 l12 l16 hg m1 m2 m3) (fun g' hg' => ?_)⟩, Dr.rf (fun r i j h => by rw [hF.1 r i j (hF.live (hI.iu.2.2.2.2 N (Nat.le_refl N)) (hI.ir g (Nat.le_refl g)) h)]; exact h)⟩
  · rw [hf.uu (Or.inr rfl), up4_s]
  · unfold UM
    rw [c1, c2, c3]
    exact hU.cg (fun _ _ _ => rfl) eU (fun r j k hr => up4_ne (by have := hr.n5; omega))
  · rw [hF.1 5 g' 0 (by unfold isG isC; omega)]
    exact hI.ir g' (by omega)
set_option maxHeartbeats 1000000 in
set_option maxRecDepth 10000 in
theorem c_OL_read {ν : Nu} {ι : Io} {ρ : Ro} {ℓ : Lo} {N c9 w9 n9 z9 kn g9 : Nat} (hI : IV ν ι ρ N c9 w9 n9 z9 kn g9) {x : Int32} : Ct y_OL_read (Cond.code y_OL_read b_OL_read 3 (some .int) :: tb_) { frames := 6, cells := 60, slots := 2000, locals := 121 } [sR 9 0 0, sI x] ν ι ρ ℓ (fun r9 ν1 ι1 ρ1 ℓ1 => ℓ = ℓ1 ∧ ν1 90 0 0 = ν 90 0 0 ∧ ∃ b, r9 = some (sI b) ∧ MC y_Mo_read (Cond.code y_Mo_read b_Mo_read 3 (some .int) :: tb_) { frames := 4, cells := 0, slots := 0, locals := 100 } [sR 10 0 0, sI x] 0 b ν ρ ν1 ι1 ρ1) (fun E ν1 ι1 ρ1 ℓ1 => ℓ = ℓ1 ∧ ν1 90 0 0 = ν 90 0 0 ∧ ∃ k7, (E, k7) ∈ ([("java/lang/IllegalArgumentException", 1), ("java/lang/UnsupportedOperationException", 2)] : List (String × Int32)) ∧ MC y_Mo_read (Cond.code y_Mo_read b_Mo_read 3 (some .int) :: tb_) { frames := 4, cells := 0, slots := 0, locals := 100 } [sR 10 0 0, sI x] k7 0 ν ρ ν1 ι1 ρ1) := by
  refine Ct.ofV (by decide) (Nat.le_of_ble_eq_true rfl) rfl ?_
  intro p l e s m args below meth c D B tW α0 Q C hQ
  have h12 := hI.N12
  have hw := hI.io.2.2.1
  by_cases hx : 0 ≤ x ∧ x ≤ nI w9
  · obtain ⟨c8, hc8, hxc⟩ := rgN (by omega) hx
    subst hxc
    by_cases hrg : RG (ι 78 0 0) (w9 - c8)
    · by_cases hN : N = 12
      · skip
        refine V_iload_n C d_OL_read_0 rfl ?_
        refine V_if_lt (tgt := 15) C d_OL_read_1 (by decide) (fun h1 => absurd h1 (nI_nneg (by omega))) (fun h1 => ?_)
        refine V_iload_n C d_OL_read_4 rfl ?_
        refine V_aload_n C d_OL_read_5 rfl ?_
        refine V_getR (kx := 3) C d_OL_read_6 cf_OL (by decide) k_OL_25 (nn hI.os.n9) rfl hI.os.r93 ?_
        refine V_getI (kx := 1) C d_OL_read_9 cf_Oc (by decide) k_OL_195 (nn hI.os.n4) rfl ?_
        refine V_eqi (y := nI w9) hI.io.1 ?_
        refine V_icmp_le (tgt := 25) C d_OL_read_12 (by decide) (fun h12 => ?_) (fun h12 => absurd ((nI_leI (by omega) (by omega)).mpr hc8) h12)
        refine V_new (i := g9) (j := 0) C d_OL_read_25 cf_Re k_OL_205 (hI.ir g9 (Nat.le_refl g9)) (fun k hk => ?_) (by decide) (by decide) ?_
        · rcases (show k = 0 ∨ k = 1 ∨ k = 2 ∨ k = 3 by omega) with rfl | rfl | rfl | rfl <;> first | exact Or.inl ⟨rfl, rfl⟩ | exact Or.inr ⟨rfl, rfl⟩
        refine V_dup C d_OL_read_28 rfl ?_
        refine V_aload_n C d_OL_read_29 rfl ?_
        refine V_getR (kx := 3) C d_OL_read_30 cf_OL (by decide) k_OL_25 (nn hI.os.n9) rfl hI.os.r93 ?_
        refine V_getR (kx := 0) C d_OL_read_33 cf_Oc (by decide) k_OL_198 (nn hI.os.n4) rfl hI.os.r40 ?_
        refine V_aload_n C d_OL_read_36 rfl ?_
        refine V_getR (kx := 3) C d_OL_read_37 cf_OL (by decide) k_OL_25 (nn hI.os.n9) rfl hI.os.r93 ?_
        refine V_getI (kx := 1) C d_OL_read_40 cf_Oc (by decide) k_OL_195 (nn hI.os.n4) rfl ?_
        refine V_eqi (y := nI w9) hI.io.1 ?_
        refine V_iload_n C d_OL_read_43 rfl ?_
        refine V_isub C d_OL_read_44 ?_
        refine V_eqi (y := nI (w9 - c8)) (pk_sub hc8) ?_
        refine V_callI (as := [_, _]) C d_OL_read_45 (c_Re_init (ν := (up3 ν 5 g9 0 (some 4))) (g := g9) (nn up3_s)) m_Re_init k_OL_207 ⟨by decide, by decide⟩ (Nat.le_of_ble_eq_true rfl) ⟨by decide, by decide⟩ rfl ?_
        rintro _ _ _ _ _ ⟨rfl, rfl, rfl, rfl, rfl⟩
        dsimp only [Option.toList, List.cons_append, List.nil_append]
        refine V_callV (as := []) C d_OL_read_48 (c_Re_unitOrNull (ν := (up3 ν 5 g9 0 (some 4))) (ι := (up4 (upA ι 5 g9 0 (fun _ => 0)) 5 g9 0 1 (nI (w9 - c8)))) (ρ := (up4 (upA ρ 5 g9 0 (fun _ => none)) 5 g9 0 0 (some (25, 0, 0)))) hI.os (o := N) (g := g9) (E := w9 - c8) (fb := ι 78 0 0) up3_s up4_s up4_s (by rw [up4_ne (by omega), upA_s]) (by rw [up4_ne (by omega), upA_s]) (by omega) (hI.iu.2.2.2.2 N (Nat.le_refl N)) (fun k hk => hI.io.2.2.2 k (by omega)) hI.bm.2.1) m_Re_unitOrNull cf_Re k_OL_210 (nn up3_s) ⟨by decide, by decide⟩ (Nat.le_of_ble_eq_true rfl) ⟨by decide, by decide⟩ rfl ?_
        rintro _ ν1 ι1 ρ1 _ ⟨rfl, hF1, q, rfl, hres⟩
        have hF : RFr N g9 ν ν1 ι ι1 ρ ρ1 := RFr.tr (((((RFr.rf.n g5).iA g5).qA g5).io g5).q g5) hF1
        obtain ⟨hO1, hM1, hB1, e78, e10, e91⟩ := hF.om hI
        obtain ⟨hq, hRG, hU1, hS1, hN1, hQ1⟩ := hres.resolve_right (fun z => z.2 hrg)
        subst hq
        dsimp only [Option.toList, List.cons_append, List.nil_append]
        refine V_astore_n (lv' := [(2, _), (0, _), (1, _)]) C d_OL_read_51 (by decide) rfl ?_
        refine V_aload_n C d_OL_read_52 rfl ?_
        refine V_ifnonnull (tgt := 66) C d_OL_read_53 (by decide) (fun zz53 h53 => ?_) (fun h53 => (by cases h53))
        refine V_aload_n C d_OL_read_66 rfl ?_
        refine V_getI (kx := 1) C d_OL_read_67 cf_OL (by decide) k_OL_29 (nn hO1.n9) rfl ?_
        refine V_eqi (y := nI N) (e91.trans hI.iu.1) ?_
        refine V_bipush (v := 12) C d_OL_read_70 (by decide) ?_
        refine V_icmp_lt (tgt := 85) C d_OL_read_72 (by decide) (fun h72 => absurd ((nI_ltI (a := N) (b := 12) (by omega) (by decide)).mp h72) (by omega)) (fun h72 => ?_)
        refine V_throwS (E := "java/lang/UnsupportedOperationException") (text := "there are twelve objects") (ik := 33) (is := 35) (ic := 37) C hQ rfl (by decide) k_OL_33 (tb_in 77 (by decide +kernel) rfl) (by decide +kernel) (by decide +kernel) (by decide +kernel) (by decide +kernel) (by decide +kernel) d_OL_read_75 d_OL_read_78 d_OL_read_79 d_OL_read_81 d_OL_read_84 (by decide) (Nat.le_of_ble_eq_true rfl) (by decide) (by decide) (by decide) (by decide) ?_
        refine ⟨rfl, hF.1 90 0 0 (by unfold isG isC; omega), 2, by simp, fun ℓ9 => ⟨_, c_Mo_read (ν := ν1) (ι := ι1) (ρ := ρ1) (ℓ := ℓ9) hM1 hB1 (by have := hI.bm.2.1; unfold bd at this ⊢; intro t ht; rw [show ι1 78 0 0 t = ι 78 0 0 t from congrFun e78 t]; exact this t ht) (N := N) (w := w9) (c8 := c8) ((e10 1).trans hI.iu.2.1) hI.N12 ((e10 37).trans hI.io.2.1) (by omega) hc8, ?_⟩⟩
        rintro v2 ν2 ι2 ρ2 ℓ2 ⟨rfl, rfl, rfl, hB2, hf2, hcs⟩
        rw [e78] at hcs
        obtain ⟨h, h2, h3, h4⟩ := hcs.resolve_left (fun z => by omega)
        have h5 := h.resolve_right (fun z => z.1 hrg)
        exact ⟨⟨rfl, ⟨_, h2, fun z => absurd z (by decide)⟩, h5.2.2, rd_no hI hF hB2 h4 h3⟩, rfl⟩
      · have hN9 : N < 12 := by omega
        refine V_iload_n C d_OL_read_0 rfl ?_
        refine V_if_lt (tgt := 15) C d_OL_read_1 (by decide) (fun h1 => absurd h1 (nI_nneg (by omega))) (fun h1 => ?_)
        refine V_iload_n C d_OL_read_4 rfl ?_
        refine V_aload_n C d_OL_read_5 rfl ?_
        refine V_getR (kx := 3) C d_OL_read_6 cf_OL (by decide) k_OL_25 (nn hI.os.n9) rfl hI.os.r93 ?_
        refine V_getI (kx := 1) C d_OL_read_9 cf_Oc (by decide) k_OL_195 (nn hI.os.n4) rfl ?_
        refine V_eqi (y := nI w9) hI.io.1 ?_
        refine V_icmp_le (tgt := 25) C d_OL_read_12 (by decide) (fun h12 => ?_) (fun h12 => absurd ((nI_leI (by omega) (by omega)).mpr hc8) h12)
        refine V_new (i := g9) (j := 0) C d_OL_read_25 cf_Re k_OL_205 (hI.ir g9 (Nat.le_refl g9)) (fun k hk => ?_) (by decide) (by decide) ?_
        · rcases (show k = 0 ∨ k = 1 ∨ k = 2 ∨ k = 3 by omega) with rfl | rfl | rfl | rfl <;> first | exact Or.inl ⟨rfl, rfl⟩ | exact Or.inr ⟨rfl, rfl⟩
        refine V_dup C d_OL_read_28 rfl ?_
        refine V_aload_n C d_OL_read_29 rfl ?_
        refine V_getR (kx := 3) C d_OL_read_30 cf_OL (by decide) k_OL_25 (nn hI.os.n9) rfl hI.os.r93 ?_
        refine V_getR (kx := 0) C d_OL_read_33 cf_Oc (by decide) k_OL_198 (nn hI.os.n4) rfl hI.os.r40 ?_
        refine V_aload_n C d_OL_read_36 rfl ?_
        refine V_getR (kx := 3) C d_OL_read_37 cf_OL (by decide) k_OL_25 (nn hI.os.n9) rfl hI.os.r93 ?_
        refine V_getI (kx := 1) C d_OL_read_40 cf_Oc (by decide) k_OL_195 (nn hI.os.n4) rfl ?_
        refine V_eqi (y := nI w9) hI.io.1 ?_
        refine V_iload_n C d_OL_read_43 rfl ?_
        refine V_isub C d_OL_read_44 ?_
        refine V_eqi (y := nI (w9 - c8)) (pk_sub hc8) ?_
        refine V_callI (as := [_, _]) C d_OL_read_45 (c_Re_init (ν := (up3 ν 5 g9 0 (some 4))) (g := g9) (nn up3_s)) m_Re_init k_OL_207 ⟨by decide, by decide⟩ (Nat.le_of_ble_eq_true rfl) ⟨by decide, by decide⟩ rfl ?_
        rintro _ _ _ _ _ ⟨rfl, rfl, rfl, rfl, rfl⟩
        dsimp only [Option.toList, List.cons_append, List.nil_append]
        refine V_callV (as := []) C d_OL_read_48 (c_Re_unitOrNull (ν := (up3 ν 5 g9 0 (some 4))) (ι := (up4 (upA ι 5 g9 0 (fun _ => 0)) 5 g9 0 1 (nI (w9 - c8)))) (ρ := (up4 (upA ρ 5 g9 0 (fun _ => none)) 5 g9 0 0 (some (25, 0, 0)))) hI.os (o := N) (g := g9) (E := w9 - c8) (fb := ι 78 0 0) up3_s up4_s up4_s (by rw [up4_ne (by omega), upA_s]) (by rw [up4_ne (by omega), upA_s]) (by omega) (hI.iu.2.2.2.2 N (Nat.le_refl N)) (fun k hk => hI.io.2.2.2 k (by omega)) hI.bm.2.1) m_Re_unitOrNull cf_Re k_OL_210 (nn up3_s) ⟨by decide, by decide⟩ (Nat.le_of_ble_eq_true rfl) ⟨by decide, by decide⟩ rfl ?_
        rintro _ ν1 ι1 ρ1 _ ⟨rfl, hF1, q, rfl, hres⟩
        have hF : RFr N g9 ν ν1 ι ι1 ρ ρ1 := RFr.tr (((((RFr.rf.n g5).iA g5).qA g5).io g5).q g5) hF1
        obtain ⟨hO1, hM1, hB1, e78, e10, e91⟩ := hF.om hI
        obtain ⟨hq, hRG, hU1, hS1, hN1, hQ1⟩ := hres.resolve_right (fun z => z.2 hrg)
        subst hq
        dsimp only [Option.toList, List.cons_append, List.nil_append]
        refine V_astore_n (lv' := [(2, _), (0, _), (1, _)]) C d_OL_read_51 (by decide) rfl ?_
        refine V_aload_n C d_OL_read_52 rfl ?_
        refine V_ifnonnull (tgt := 66) C d_OL_read_53 (by decide) (fun zz53 h53 => ?_) (fun h53 => (by cases h53))
        refine V_aload_n C d_OL_read_66 rfl ?_
        refine V_getI (kx := 1) C d_OL_read_67 cf_OL (by decide) k_OL_29 (nn hO1.n9) rfl ?_
        refine V_eqi (y := nI N) (e91.trans hI.iu.1) ?_
        refine V_bipush (v := 12) C d_OL_read_70 (by decide) ?_
        refine V_icmp_lt (tgt := 85) C d_OL_read_72 (by decide) (fun h72 => ?_) (fun h72 => absurd ((nI_ltI (a := N) (b := 12) (by omega) (by decide)).mpr hN9) h72)
        refine V_aload_n C d_OL_read_85 rfl ?_
        refine V_aload_n C d_OL_read_86 rfl ?_
        refine V_callV (as := [_]) C d_OL_read_87 (c_OL_keep (ν := ν1) (ι := ι1) (ρ := ρ1) (nn hO1.n9) hO1.r90 hO1.n20 (e91.trans hI.iu.1) hN9 hU1.al) m_OL_keep cf_OL k_OL_41 (nn hO1.n9) ⟨by decide, by decide⟩ (Nat.le_of_ble_eq_true rfl) ⟨by decide, by decide⟩ rfl ?_
        rintro _ _ _ _ _ ⟨rfl, rfl, rfl, rfl, rfl⟩
        dsimp only [Option.toList, List.cons_append, List.nil_append]
        refine V_iret C hQ (by decide) (by decide) d_OL_read_90 rfl ?_
        refine ⟨rfl, hF.1 90 0 0 (by unfold isG isC; omega), _, rfl, fun ℓ9 => ⟨_, c_Mo_read (ν := ν1) (ι := (up4 ι1 9 0 0 1 (nI (N + 1)))) (ρ := (up4 ρ1 20 0 0 N (some (8, N, 0)))) (ℓ := ℓ9) hM1 hB1 (by have := hI.bm.2.1; unfold bd at this ⊢; intro t ht; rw [show (up4 ι1 9 0 0 1 (nI (N + 1))) 78 0 0 t = ι 78 0 0 t from congrFun e78 t]; exact this t ht) (N := N) (w := w9) (c8 := c8) ((e10 1).trans hI.iu.2.1) hI.N12 ((e10 37).trans hI.io.2.1) (by omega) hc8, ?_⟩⟩
        rintro v2 ν2 ι2 ρ2 ℓ2 ⟨rfl, rfl, rfl, hB2, hf2, hcs⟩
        rw [show (up4 ι1 9 0 0 1 (nI (N + 1))) 78 0 0 = ι 78 0 0 from e78] at hcs
        obtain ⟨h1, h2, h3, h4, h5, m1, m2, m3⟩ := hcs.resolve_right (fun z => by
          rcases z.1 with z | z
          · omega
          · exact z.1 hrg)
        exact ⟨⟨rfl, ⟨_, h3, fun _ => rfl⟩, h4, rd_ok hI hF hN9 h1.2.1 hU1 hS1 hN1 hQ1 hB2 hf2 h5 m1 m2 m3⟩, rfl⟩
    · skip
      refine V_iload_n C d_OL_read_0 rfl ?_
      refine V_if_lt (tgt := 15) C d_OL_read_1 (by decide) (fun h1 => absurd h1 (nI_nneg (by omega))) (fun h1 => ?_)
      refine V_iload_n C d_OL_read_4 rfl ?_
      refine V_aload_n C d_OL_read_5 rfl ?_
      refine V_getR (kx := 3) C d_OL_read_6 cf_OL (by decide) k_OL_25 (nn hI.os.n9) rfl hI.os.r93 ?_
      refine V_getI (kx := 1) C d_OL_read_9 cf_Oc (by decide) k_OL_195 (nn hI.os.n4) rfl ?_
      refine V_eqi (y := nI w9) hI.io.1 ?_
      refine V_icmp_le (tgt := 25) C d_OL_read_12 (by decide) (fun h12 => ?_) (fun h12 => absurd ((nI_leI (by omega) (by omega)).mpr hc8) h12)
      refine V_new (i := g9) (j := 0) C d_OL_read_25 cf_Re k_OL_205 (hI.ir g9 (Nat.le_refl g9)) (fun k hk => ?_) (by decide) (by decide) ?_
      · rcases (show k = 0 ∨ k = 1 ∨ k = 2 ∨ k = 3 by omega) with rfl | rfl | rfl | rfl <;> first | exact Or.inl ⟨rfl, rfl⟩ | exact Or.inr ⟨rfl, rfl⟩
      refine V_dup C d_OL_read_28 rfl ?_
      refine V_aload_n C d_OL_read_29 rfl ?_
      refine V_getR (kx := 3) C d_OL_read_30 cf_OL (by decide) k_OL_25 (nn hI.os.n9) rfl hI.os.r93 ?_
      refine V_getR (kx := 0) C d_OL_read_33 cf_Oc (by decide) k_OL_198 (nn hI.os.n4) rfl hI.os.r40 ?_
      refine V_aload_n C d_OL_read_36 rfl ?_
      refine V_getR (kx := 3) C d_OL_read_37 cf_OL (by decide) k_OL_25 (nn hI.os.n9) rfl hI.os.r93 ?_
      refine V_getI (kx := 1) C d_OL_read_40 cf_Oc (by decide) k_OL_195 (nn hI.os.n4) rfl ?_
      refine V_eqi (y := nI w9) hI.io.1 ?_
      refine V_iload_n C d_OL_read_43 rfl ?_
      refine V_isub C d_OL_read_44 ?_
      refine V_eqi (y := nI (w9 - c8)) (pk_sub hc8) ?_
      refine V_callI (as := [_, _]) C d_OL_read_45 (c_Re_init (ν := (up3 ν 5 g9 0 (some 4))) (g := g9) (nn up3_s)) m_Re_init k_OL_207 ⟨by decide, by decide⟩ (Nat.le_of_ble_eq_true rfl) ⟨by decide, by decide⟩ rfl ?_
      rintro _ _ _ _ _ ⟨rfl, rfl, rfl, rfl, rfl⟩
      dsimp only [Option.toList, List.cons_append, List.nil_append]
      refine V_callV (as := []) C d_OL_read_48 (c_Re_unitOrNull (ν := (up3 ν 5 g9 0 (some 4))) (ι := (up4 (upA ι 5 g9 0 (fun _ => 0)) 5 g9 0 1 (nI (w9 - c8)))) (ρ := (up4 (upA ρ 5 g9 0 (fun _ => none)) 5 g9 0 0 (some (25, 0, 0)))) hI.os (o := N) (g := g9) (E := w9 - c8) (fb := ι 78 0 0) up3_s up4_s up4_s (by rw [up4_ne (by omega), upA_s]) (by rw [up4_ne (by omega), upA_s]) (by omega) (hI.iu.2.2.2.2 N (Nat.le_refl N)) (fun k hk => hI.io.2.2.2 k (by omega)) hI.bm.2.1) m_Re_unitOrNull cf_Re k_OL_210 (nn up3_s) ⟨by decide, by decide⟩ (Nat.le_of_ble_eq_true rfl) ⟨by decide, by decide⟩ rfl ?_
      rintro _ ν1 ι1 ρ1 _ ⟨rfl, hF1, q, rfl, hres⟩
      have hF : RFr N g9 ν ν1 ι ι1 ρ ρ1 := RFr.tr (((((RFr.rf.n g5).iA g5).qA g5).io g5).q g5) hF1
      obtain ⟨hO1, hM1, hB1, e78, e10, e91⟩ := hF.om hI
      obtain ⟨hq, _⟩ := hres.resolve_left (fun z => hrg z.2.1)
      subst hq
      dsimp only [Option.toList, List.cons_append, List.nil_append]
      refine V_astore_n (lv' := [(2, _), (0, _), (1, _)]) C d_OL_read_51 (by decide) rfl ?_
      refine V_aload_n C d_OL_read_52 rfl ?_
      refine V_ifnonnull (tgt := 66) C d_OL_read_53 (by decide) (fun _ h53 => (by cases h53)) (fun h53 => ?_)
      refine V_throwS (E := "java/lang/IllegalArgumentException") (text := "those are no object as bytes") (ik := 55) (is := 214) (ic := 59) C hQ rfl (by decide) k_OL_55 (tb_in 81 (by decide +kernel) rfl) (by decide +kernel) (by decide +kernel) (by decide +kernel) (by decide +kernel) (by decide +kernel) d_OL_read_56 d_OL_read_59 d_OL_read_60 d_OL_read_62 d_OL_read_65 (by decide) (Nat.le_of_ble_eq_true rfl) (by decide) (by decide) (by decide) (by decide) ?_
      refine ⟨rfl, hF.1 90 0 0 (by unfold isG isC; omega), 1, by simp, fun ℓ9 => ⟨_, c_Mo_read (ν := ν1) (ι := ι1) (ρ := ρ1) (ℓ := ℓ9) hM1 hB1 (by have := hI.bm.2.1; unfold bd at this ⊢; intro t ht; rw [show ι1 78 0 0 t = ι 78 0 0 t from congrFun e78 t]; exact this t ht) (N := N) (w := w9) (c8 := c8) ((e10 1).trans hI.iu.2.1) hI.N12 ((e10 37).trans hI.io.2.1) (by omega) hc8, ?_⟩⟩
      rintro v2 ν2 ι2 ρ2 ℓ2 ⟨rfl, rfl, rfl, hB2, hf2, hcs⟩
      rw [e78] at hcs
      obtain ⟨h, h2, h3, h4⟩ := hcs.resolve_left (fun z => hrg z.1)
      have h5 := h.resolve_left (fun z => hrg z.1)
      exact ⟨⟨rfl, ⟨_, h2, fun z => absurd z (by decide)⟩, h5.2, rd_no hI hF hB2 h4 h3⟩, rfl⟩
  · skip
    refine V_iload_n C d_OL_read_0 rfl ?_
    refine V_if_lt (tgt := 15) C d_OL_read_1 (by decide) (fun h1 => ?_) (fun h1 => ?_)
    · refine V_throwS (E := "java/lang/IllegalArgumentException") (text := "no so many bytes to cut") (ik := 55) (is := 203) (ic := 59) C hQ rfl (by decide) k_OL_55 (tb_in 81 (by decide +kernel) rfl) (by decide +kernel) (by decide +kernel) (by decide +kernel) (by decide +kernel) (by decide +kernel) d_OL_read_15 d_OL_read_18 d_OL_read_19 d_OL_read_21 d_OL_read_24 (by decide) (Nat.le_of_ble_eq_true rfl) (by decide) (by decide) (by decide) (by decide) ?_
      exact ⟨rfl, rfl, 1, by simp, MC.eq (b' := 0) (ι2 := (up4 ι 10 0 0 0 1)) (fun ℓ9 => c_Mo_read_b hI.mo (by rw [hI.io.2.1]; exact hx)) (fun h => absurd h (by decide)) (rfl) (gm.rf) (⟨N, c9, w9, n9, z9, kn, g9, hI.t0⟩)⟩
    · refine V_iload_n C d_OL_read_4 rfl ?_
      refine V_aload_n C d_OL_read_5 rfl ?_
      refine V_getR (kx := 3) C d_OL_read_6 cf_OL (by decide) k_OL_25 (nn hI.os.n9) rfl hI.os.r93 ?_
      refine V_getI (kx := 1) C d_OL_read_9 cf_Oc (by decide) k_OL_195 (nn hI.os.n4) rfl ?_
      refine V_eqi (y := nI w9) hI.io.1 ?_
      refine V_icmp_le (tgt := 25) C d_OL_read_12 (by decide) (fun h12 => absurd ⟨Int32.not_lt.mp h1, h12⟩ hx) (fun h12 => ?_)
      refine V_throwS (E := "java/lang/IllegalArgumentException") (text := "no so many bytes to cut") (ik := 55) (is := 203) (ic := 59) C hQ rfl (by decide) k_OL_55 (tb_in 81 (by decide +kernel) rfl) (by decide +kernel) (by decide +kernel) (by decide +kernel) (by decide +kernel) (by decide +kernel) d_OL_read_15 d_OL_read_18 d_OL_read_19 d_OL_read_21 d_OL_read_24 (by decide) (Nat.le_of_ble_eq_true rfl) (by decide) (by decide) (by decide) (by decide) ?_
      exact ⟨rfl, rfl, 1, by simp, MC.eq (b' := 0) (ι2 := (up4 ι 10 0 0 0 1)) (fun ℓ9 => c_Mo_read_b hI.mo (by rw [hI.io.2.1]; exact hx)) (fun h => absurd h (by decide)) (rfl) (gm.rf) (⟨N, c9, w9, n9, z9, kn, g9, hI.t0⟩)⟩
