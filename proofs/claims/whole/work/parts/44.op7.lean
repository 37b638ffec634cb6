def Prr (r k : Nat) : Prop := (r = 1 ∧ k = 6) ∨ r = 28 ∨ r = 29 ∨ (r = 0 ∧ k = 6)
theorem prr_c {r k : Nat} (h : Prr r k) : isCl r ∧ ¬ (r = 0 ∧ k = 2) := by unfold Prr at h; unfold isCl; omega
theorem T3.ex {M ι ι1 : Io} {ρ : Ro} {l : List Nat} {z : Nat} {kx : Nat → Nat} (h : T3 M ι ρ l z kx) (e : Eqx Prr ι ι1) : T3 M ι1 ρ l z kx := h.cg (fun k f hf => e 1 k 0 f (by unfold Prr; omega)) (fun f => e 3 0 0 f (by unfold Prr; omega))
theorem Mx.n {M ι : Io} {c z : Nat} {x : Int32} (h : srt M (sq M 12 47 c) x = 3) : Mx M ι c z x := fun i hi => by rw [ixm_3.mpr h] at hi; cases hi
/-- one more meaning reached -/
def RS (M ι ι1 : Io) (c z : Nat) (e : Int32) (q : Nat) (qs : Nat → Nat) (q1 : Nat) (qs1 : Nat → Nat) : Prop := RQ M ι1 c z e q1 qs1 ∧ q ≤ q1 ∧ (∀ t, t < q → qs1 t = qs t) ∧ (∀ x, Mx M ι c z x → Mx M ι1 c z x)
theorem RS.rf {M ι : Io} {c z q : Nat} {e : Int32} {qs : Nat → Nat} (h : RQ M ι c z e q qs) : RS M ι ι c z e q qs q qs := ⟨h, Nat.le_refl _, fun _ _ => rfl, fun _ h => h⟩
theorem RS.tr {M ι ι1 ι2 : Io} {c z q q1 q2 : Nat} {e : Int32} {qs qs1 qs2 : Nat → Nat} (h : RS M ι ι1 c z e q qs q1 qs1) (h2 : RS M ι1 ι2 c z e q1 qs1 q2 qs2) : RS M ι ι2 c z e q qs q2 qs2 := ⟨h2.1, Nat.le_trans h.2.1 h2.2.1, fun t ht => (h2.2.2.1 t (Nat.lt_of_lt_of_le ht h.2.1)).trans (h.2.2.1 t ht), fun x hx => h2.2.2.2 x (h.2.2.2 x hx)⟩
theorem ix_s {M : Io} {l : List Nat} {x : Int32} (h : srt M l x ≠ 3) : ∃ i, ixm M l x = some i := by
  cases hx : ixm M l x with
  | none => exact absurd (ixm_3.mp hx) h
  | some i => exact ⟨i, rfl⟩
set_option maxHeartbeats 1000000 in
set_option maxRecDepth 10000 in
theorem c_Li_reach {ν : Nu} {ι : Io} {ρ : Ro} {ℓ : Lo} {M : Io} {ρ0 : Ro} {N c9 w9 n9 z9 kn g9 : Nat} (hI : IV ν M ρ0 N c9 w9 n9 z9 kn g9) (hC : CuL M ι ρ0 ρ c9) {z1 q9 : Nat} {kx qs : Nat → Nat} {en : Int32} (hT : T3 M ι ρ (sq M 12 47 c9) z1 kx) (hR : RQ M ι c9 z1 en q9 qs) {k9 : Nat} (hk : k9 < z1) (htc : ∀ i, ixm M (sq M 12 47 c9) (ι 1 k9 0 0) = some i → Tc M c9 en i) : Ct y_Li_reach (Cond.code y_Li_reach b_Li_reach 2 none :: tb_) { frames := 0, cells := 0, slots := 0, locals := 0 } [sR 0 0 0, sR 1 k9 0] ν ι ρ ℓ (fun v ν1 ι1 ρ1 ℓ1 => none = v ∧ ν = ν1 ∧ ρ = ρ1 ∧ ℓ = ℓ1 ∧ Eqx Prr ι ι1 ∧ (∃ q1 qs1, RS M ι ι1 c9 z1 en q9 qs q1 qs1) ∧ Mx M ι1 c9 z1 (ι 1 k9 0 0)) (noX) := by
  refine Ct.ofV (by decide) (Nat.le_of_ble_eq_true rfl) rfl ?_
  intro p l e s m args below meth c D B tW α0 Q C hQ
  have hO := hC.os hI.os
  have hlen : (sq M 12 47 c9).length ≤ 144 := hI.lk.nl
  have hk9 : ν 1 k9 0 ≠ none := nn (hO.me k9 (by have := hT.2.1; omega)).1
  have hmg := hT.2.2.2.2.2.1 k9 hk
  refine V_aload_n C d_Li_reach_0 rfl ?_
  refine V_getI (kx := 1) C d_Li_reach_1 cf_Me (by decide) k_Li_66 hk9 rfl ?_
  refine V_iconst (v := 3) C d_Li_reach_4 (by decide) ?_
  refine V_icmp_ne (tgt := 9) C d_Li_reach_5 (by decide) (fun h5 => ?_) (fun h5 => ?_)
  · refine V_aload_n C d_Li_reach_9 rfl ?_
    refine V_getI (kx := 1) C d_Li_reach_10 cf_Me (by decide) k_Li_66 hk9 rfl ?_
    refine V_iconst (v := 2) C d_Li_reach_13 (by decide) ?_
    refine V_icmp_ne (tgt := 25) C d_Li_reach_14 (by decide) (fun h14 => ?_) (fun h14 => ?_)
    · obtain ⟨i, hx⟩ := ix_s (M := M) (l := (sq M 12 47 c9)) (x := ι 1 k9 0 0) (by rw [← hmg.1]; exact h5)
      obtain ⟨i1, i2, i3⟩ := ixm_k hx
      have h49 : M 49 0 0 i ≠ 2 := by rw [i3, ← hmg.1]; exact h14
      have hsl := (hmg.2.1 i hx h49).1
      have hs96 := hI.rc i i1 h49 (by rw [i3, ← hmg.1]; exact h5)
      refine V_aload_n C d_Li_reach_25 rfl ?_
      refine V_getR (kx := 4) C d_Li_reach_26 cf_Li (by decide) k_Li_28 (nn hO.n0) rfl hO.r04 ?_
      refine V_aload_n C d_Li_reach_29 rfl ?_
      refine V_getI (kx := 2) C d_Li_reach_30 cf_Me (by decide) k_Li_74 hk9 rfl ?_
      refine V_zald C d_Li_reach_33 (by decide) rfl hO.n28 hsl hs96 rfl ?_
      refine V_if_ne (tgt := 70) C d_Li_reach_34 (by decide) (fun h34 => ?_) (fun h34 => ?_)
      · have g8 : (none : Option SV) = none ∧ ν = ν ∧ ρ = ρ ∧ ℓ = ℓ ∧ Eqx Prr ι ι ∧ (∃ q1 qs1, RS M ι ι c9 z1 en q9 qs q1 qs1) ∧ Mx M ι c9 z1 (ι 1 k9 0 0) := ⟨rfl, rfl, rfl, rfl, Eqx.rf, ⟨q9, qs, RS.rf hR⟩, fun j hj => by rw [hx] at hj; cases hj; exact ⟨fun z => absurd z h49, fun _ => h34⟩⟩
        refine V_vret C hQ (by decide) (by decide) d_Li_reach_70 rfl ?_
        first | exact g9 | exact g8 | exact g7
      · obtain ⟨hq96, hadd⟩ := hR.add hs96 h34 ⟨i, htc i hx, h49, rfl⟩
        have g7 : (none : Option SV) = none ∧ ν = ν ∧ ρ = ρ ∧ ℓ = ℓ ∧ Eqx Prr ι (up4 (up4 (up4 ι 28 0 0 (rcI M i) 1) 29 0 0 q9 (nI (rcI M i))) 0 0 0 6 (nI (q9 + 1))) ∧ (∃ q1 qs1, RS M ι (up4 (up4 (up4 ι 28 0 0 (rcI M i) 1) 29 0 0 q9 (nI (rcI M i))) 0 0 0 6 (nI (q9 + 1))) c9 z1 en q9 qs q1 qs1) ∧ Mx M (up4 (up4 (up4 ι 28 0 0 (rcI M i) 1) 29 0 0 q9 (nI (rcI M i))) 0 0 0 6 (nI (q9 + 1))) c9 z1 (ι 1 k9 0 0) := ⟨rfl, rfl, rfl, rfl, ((Eqx.rf.up (Or.inr (Or.inl rfl))).up (Or.inr (Or.inr (Or.inl rfl)))).up (Or.inr (Or.inr (Or.inr ⟨rfl, rfl⟩))), ⟨_, _, hadd, by omega, fun t ht => if_neg (by omega), fun _ h => h.add⟩, fun j hj => by rw [hx] at hj; cases hj; exact ⟨fun z => absurd z h49, fun _ => by rw [up4_ne (by omega), up4_ne (by omega), up4_s]; decide⟩⟩
        refine V_aload_n C d_Li_reach_37 rfl ?_
        refine V_getR (kx := 4) C d_Li_reach_38 cf_Li (by decide) k_Li_28 (nn hO.n0) rfl hO.r04 ?_
        refine V_aload_n C d_Li_reach_41 rfl ?_
        refine V_getI (kx := 2) C d_Li_reach_42 cf_Me (by decide) k_Li_74 hk9 rfl ?_
        refine V_iconst (v := 1) C d_Li_reach_45 (by decide) ?_
        refine V_zast C d_Li_reach_46 (by decide) rfl hO.n28 hsl hs96 rfl rfl ?_
        refine V_aload_n C d_Li_reach_47 rfl ?_
        refine V_getR (kx := 5) C d_Li_reach_48 cf_Li (by decide) k_Li_32 (nn hO.n0) rfl hO.r05 ?_
        refine V_aload_n C d_Li_reach_51 rfl ?_
        refine V_getI (kx := 6) C d_Li_reach_52 cf_Li (by decide) k_Li_110 (nn hO.n0) rfl ?_
        refine V_aload_n C d_Li_reach_55 rfl ?_
        refine V_getI (kx := 2) C d_Li_reach_56 cf_Me (by decide) k_Li_74 hk9 rfl ?_
        refine V_eqi (y := nI (rcI M i)) hsl ?_
        refine V_iast C d_Li_reach_59 (by decide) rfl hO.n29 hR.1 hq96 rfl ?_
        refine V_aload_n C d_Li_reach_60 rfl ?_
        refine V_dup C d_Li_reach_61 rfl ?_
        refine V_getI (kx := 6) C d_Li_reach_62 cf_Li (by decide) k_Li_110 (nn hO.n0) rfl ?_
        refine V_eqi (y := nI q9) hR.1 ?_
        refine V_iconst (v := 1) C d_Li_reach_65 (by decide) ?_
        refine V_iadd C d_Li_reach_66 ?_
        refine V_eqi (y := nI (q9 + 1)) (nI_1 q9) ?_
        refine V_putI (kx := 6) C d_Li_reach_67 cf_Li (by decide) k_Li_110 (nn hO.n0) rfl rfl rfl rfl ?_
        refine V_vret C hQ (by decide) (by decide) d_Li_reach_70 rfl ?_
        first | exact g9 | exact g8 | exact g7
    · have g9 : (none : Option SV) = none ∧ ν = ν ∧ ρ = ρ ∧ ℓ = ℓ ∧ Eqx Prr ι (up4 ι 1 k9 0 6 1) ∧ (∃ q1 qs1, RS M ι (up4 ι 1 k9 0 6 1) c9 z1 en q9 qs q1 qs1) ∧ Mx M (up4 ι 1 k9 0 6 1) c9 z1 (ι 1 k9 0 0) := by
        obtain ⟨i, hx⟩ := ix_s (by rw [← hmg.1, h14]; decide)
        obtain ⟨i1, i2, i3⟩ := ixm_k hx
        have h49 : M 49 0 0 i = 2 := by rw [i3, ← hmg.1]; exact h14
        refine ⟨rfl, rfl, rfl, rfl, Eqx.rf.up (Or.inl ⟨rfl, rfl⟩), ⟨q9, qs, hR.com ⟨i, htc i hx, h49, i2⟩, Nat.le_refl _, fun _ _ => rfl, fun _ h => h.com⟩, fun j hj => ?_⟩
        rw [hx] at hj
        cases hj
        exact ⟨fun _ => ⟨k9, hk, up4_ne (by omega), by rw [up4_s]; decide⟩, fun z => absurd h49 z⟩
      refine V_aload_n C d_Li_reach_17 rfl ?_
      refine V_iconst (v := 1) C d_Li_reach_18 (by decide) ?_
      refine V_putI (kx := 6) C d_Li_reach_19 cf_Me (by decide) k_Li_166 hk9 rfl rfl rfl rfl ?_
      refine V_goto (tgt := 70) C d_Li_reach_22 (by decide) ?_
      refine V_vret C hQ (by decide) (by decide) d_Li_reach_70 rfl ?_
      first | exact g9 | exact g8 | exact g7
  · refine V_vret C hQ (by decide) (by decide) d_Li_reach_8 rfl ?_
    exact ⟨rfl, rfl, rfl, rfl, Eqx.rf, ⟨q9, qs, RS.rf hR⟩, Mx.n (hmg.1.symm.trans h5)⟩
set_option maxHeartbeats 1000000 in
set_option maxRecDepth 10000 in
theorem c_Li_reachFromSection {ν : Nu} {ι : Io} {ρ : Ro} {ℓ : Lo} {M : Io} {ρ0 : Ro} {N c9 w9 n9 z9 kn g9 : Nat} (hI : IV ν M ρ0 N c9 w9 n9 z9 kn g9) (hC : CuL M ι ρ0 ρ c9) {z1 q9 : Nat} {kx qs : Nat → Nat} {en : Int32} (hT : T3 M ι ρ (sq M 12 47 c9) z1 kx) (hR : RQ M ι c9 z1 en q9 qs) {o9 s9 k0 : Nat} (hkc : k0 < c9) (hk0 : mn M 59 k0 = o9) (hs8 : s9 < 8) (hsnd : ∃ i, Tc M c9 en i ∧ M 49 0 0 i ≠ 2 ∧ rcI M i = 8 * o9 + s9) : Ct y_Li_reachFromSection (Cond.code y_Li_reachFromSection b_Li_reachFromSection 5 none :: tb_) { frames := 1, cells := 0, slots := 0, locals := 22 } [sR 0 0 0, sI (nI o9), sI (nI s9)] ν ι ρ ℓ (fun v ν1 ι1 ρ1 ℓ1 => none = v ∧ ν = ν1 ∧ ρ = ρ1 ∧ ℓ = ℓ1 ∧ Eqx Prr ι ι1 ∧ (∃ q1 qs1, RS M ι ι1 c9 z1 en q9 qs q1 qs1) ∧ (∀ j ∈ sq M 16 52 c9, slR M j = 8 * o9 + s9 → Mx M ι1 c9 z1 (nuR M j))) (noX) := by
  refine Ct.ofV (by decide) (Nat.le_of_ble_eq_true rfl) rfl ?_
  intro p l e s m args below meth c D B tW α0 Q C hQ
  have hO := hC.os hI.os
  have h12 := hI.N12
  obtain ⟨ho, h27, h26, hU⟩ := hC.un hI hkc
  rw [hk0] at ho h26 hU
  have l16 := hU.r16
  have loop : ∀ (f : Nat) (r : Nat) (ι1 : Io) (q1 : Nat) (qs1 : Nat → Nat), mn M 52 o9 - r < f → r ≤ mn M 52 o9 → CuL M ι1 ρ0 ρ c9 → T3 M ι1 ρ (sq M 12 47 c9) z1 kx → Eqx Prr ι ι1 → RS M ι ι1 c9 z1 en q9 qs q1 qs1 → (∀ r', r' < r → mn M 53 (16 * o9 + r') = s9 → Mx M ι1 c9 z1 (nuR M (16 * o9 + r'))) → V p l e { frames := 1, cells := 0, slots := 0, locals := 22 } s m args below meth c D B α0 ν 5 Q 0 0 ν ι1 ρ ℓ 10 [(4, sI (nI r)), (3, sR 8 o9 0), (0, sR 0 0 0), (1, sI (nI o9)), (2, sI (nI s9))] [] := by
    intro f
    induction f with
    | zero => intros; omega
    | succ f ih =>
      intro r ι1 q1 qs1 hf hr0 hC1 hT1 heq1 hS1 hm1
      have hO1 := hC1.os hI.os
      obtain ⟨_, _, _, hU1⟩ := hC1.un hI hkc
      rw [hk0] at hU1
      refine V_iload C d_Li_reachFromSection_10 rfl ?_
      refine V_aload_n C d_Li_reachFromSection_12 rfl ?_
      refine V_getI (kx := 5) C d_Li_reachFromSection_13 cf_Un (by decide) k_Li_147 hU1.al rfl ?_
      refine V_eqi (y := nI (mn M 52 o9)) hU1.er ?_
      refine V_icmp_ge (tgt := 61) C d_Li_reachFromSection_16 (by decide) (fun h16 => ?_) (fun h16 => ?_)
      · have hr : r = mn M 52 o9 := by have := (nI_leI (a := mn M 52 o9) (b := r) (by omega) (by omega)).mp h16; omega
        refine V_vret C hQ (by decide) (by decide) d_Li_reachFromSection_61 rfl ?_
        refine ⟨rfl, rfl, rfl, rfl, heq1, ⟨q1, qs1, hS1⟩, fun j hj hs => ?_⟩
        obtain ⟨a, t, h1, h2, rfl⟩ := sq_el hj
        have ha := (hI.ic.2.2.2.1 a h1).2.1
        have l52 := hI.bd.b52.le (t := mn M 59 a) (by omega)
        have l53 := hI.bd.b53.le (t := 16 * mn M 59 a + t) (by omega)
        have hs2 : 8 * mn M 59 a + mn M 53 (16 * mn M 59 a + t) = 8 * o9 + s9 := by rw [← hs]; unfold slR; rw [show (16 * mn M 59 a + t) / 16 = mn M 59 a by omega]
        have hao : mn M 59 a = o9 := by omega
        rw [hao] at h2 hs2 ⊢
        exact hm1 t (by omega) (by omega)
      · have hr : r < mn M 52 o9 := Nat.lt_of_not_le fun z => h16 ((nI_leI (by omega) (by omega)).mpr z)
        have hcv := (hI.cv ho).2.2 r hr
        have hdo := (hI.dd ho).2 r hr
        have e53 : ι1 6 o9 r 0 = nI (mn M 53 (16 * o9 + r)) := ((hC1.1 6 _ _ _ (by unfold isCl; omega)).trans hcv.1).trans (hI.bd.b53.eq (by omega))
        have e56 : ι1 6 o9 r 3 = nI (mn M 56 (16 * o9 + r)) := ((hC1.1 6 _ _ _ (by unfold isCl; omega)).trans hcv.2.2.2.1).trans (hI.bd.b56.eq (by omega))
        have l53 := hI.bd.b53.le (t := (16 * o9 + r)) (by omega)
        have hin : 12 * o9 + mn M 56 (16 * o9 + r) ∈ (sq M 12 47 c9) := by rw [← hk0]; exact sq_mem hkc (by rw [hk0]; exact hdo.2)
        have hjn : (16 * o9 + r) ∈ sq M 16 52 c9 := by rw [← hk0]; exact sq_mem hkc (by rw [hk0]; exact hr)
        obtain ⟨p1, p2, p3⟩ := hT1.2.2.1 _ hin
        have hnu : nuR M (16 * o9 + r) = M 48 0 0 (12 * o9 + mn M 56 (16 * o9 + r)) := by unfold nuR; rw [show (16 * o9 + r) / 16 = o9 by omega]
        have hsl : slR M (16 * o9 + r) = 8 * o9 + mn M 53 (16 * o9 + r) := by unfold slR; rw [show (16 * o9 + r) / 16 = o9 by omega]
        refine V_aload_n C d_Li_reachFromSection_19 rfl ?_
        refine V_getR (kx := 4) C d_Li_reachFromSection_20 cf_Un (by decide) k_Li_150 hU1.al rfl hU1.r4 ?_
        refine V_iload C d_Li_reachFromSection_23 rfl ?_
        refine V_aald C d_Li_reachFromSection_25 (by decide) (by decide) rfl hU1.n4 rfl (by omega) rfl (hU1.rf hr).2 ?_
        refine V_getI (kx := 0) C d_Li_reachFromSection_26 cf_Rf (by decide) k_Li_154 (nn (hU1.rf hr).1) rfl ?_
        refine V_eqi (y := nI (mn M 53 (16 * o9 + r))) e53 ?_
        refine V_iload_n C d_Li_reachFromSection_29 rfl ?_
        refine V_icmp_ne (tgt := 55) C d_Li_reachFromSection_30 (by decide) (fun h30 => ?_) (fun h30 => ?_)
        · have hne : ¬ mn M 53 (16 * o9 + r) = s9 := fun z => h30 (by rw [z])
          have g9 : ∀ r', r' < r + 1 → mn M 53 (16 * o9 + r') = s9 → Mx M ι1 c9 z1 (nuR M (16 * o9 + r')) := fun r' h1 h2 => by
            by_cases hq : r' = r
            · rw [hq] at h2; exact absurd h2 hne
            · exact hm1 r' (by omega) h2
          refine V_iinc (v := nI (r + 1)) (lv' := [(4, _), (3, _), (0, _), (1, _), (2, _)]) C d_Li_reachFromSection_55 rfl (nI_1 r) (by decide) rfl ?_
          refine V_goto (tgt := 10) C d_Li_reachFromSection_58 (by decide) ?_
          refine V_pick [0, 1, 2, 3, 4] rfl ?_
          first
            | exact ih (r + 1) ι2 q2 qs2 (by omega) (by omega) hC2 hT2 (heq1.tr heq2) (hS1.tr hS2) g9
            | exact ih (r + 1) ι1 q1 qs1 (by omega) (by omega) hC1 hT1 heq1 hS1 g9
        · have hse : mn M 53 (16 * o9 + r) = s9 := nI_inj (by omega) (by omega) h30
          refine V_aload_n C d_Li_reachFromSection_33 rfl ?_
          refine V_aload_n C d_Li_reachFromSection_34 rfl ?_
          refine V_getR (kx := 3) C d_Li_reachFromSection_35 cf_Li (by decide) k_Li_24 (nn hO1.n0) rfl hO1.r03 ?_
          refine V_iload_n C d_Li_reachFromSection_38 rfl ?_
          refine V_aload_n C d_Li_reachFromSection_39 rfl ?_
          refine V_getR (kx := 4) C d_Li_reachFromSection_40 cf_Un (by decide) k_Li_150 hU1.al rfl hU1.r4 ?_
          refine V_iload C d_Li_reachFromSection_43 rfl ?_
          refine V_aald C d_Li_reachFromSection_45 (by decide) (by decide) rfl hU1.n4 rfl (by omega) rfl (hU1.rf hr).2 ?_
          refine V_getI (kx := 3) C d_Li_reachFromSection_46 cf_Rf (by decide) k_Li_159 (nn (hU1.rf hr).1) rfl ?_
          refine V_eqi (y := nI (mn M 56 (16 * o9 + r))) e56 ?_
          refine V_callV (as := [_, _]) C d_Li_reachFromSection_49 (c_NT_meaningOf hO1 (o9 := o9) (t9 := mn M 56 (16 * o9 + r)) (k9 := kx (12 * o9 + mn M 56 (16 * o9 + r))) (by have := hI.nb _ hin; omega) p3) m_NT_meaningOf cf_NT k_Li_162 (nn hO1.n3) ⟨by decide, by decide⟩ (Nat.le_of_ble_eq_true rfl) ⟨by decide, by decide⟩ rfl ?_
          rintro _ _ _ _ _ ⟨rfl, rfl, rfl, rfl, rfl⟩
          dsimp only [Option.toList, List.cons_append, List.nil_append]
          refine V_callV (as := [_]) C d_Li_reachFromSection_52 (c_Li_reach (M := M) (ρ0 := ρ0) (kx := kx) (qs := qs1) (en := en) hI hC1 hT1 hS1.1 (k9 := kx (12 * o9 + mn M 56 (16 * o9 + r))) p1 (fun i hi => by
                rw [p2, ← hnu] at hi
                obtain ⟨i0, t1, t2, t3⟩ := hsnd
                exact t1.step t2 hjn (by rw [t3, hsl, hse]) (hI.nb _ (ixm_k hi).1) (me_of hI.nb hi))) m_Li_reach cf_Li k_Li_139 (nn hO1.n0) ⟨by decide, by decide⟩ (Nat.le_of_ble_eq_true rfl) ⟨by decide, by decide⟩ rfl ?_
          rintro _ _ ι2 _ _ ⟨rfl, rfl, rfl, rfl, heq2, ⟨q2, qs2, hS2⟩, hmx⟩
          have hC2 := hC1.eqx heq2 (fun _ _ => prr_c) LFq.rf
          have hT2 := hT1.ex heq2
          rw [p2, ← hnu] at hmx
          have g9 : ∀ r', r' < r + 1 → mn M 53 (16 * o9 + r') = s9 → Mx M ι2 c9 z1 (nuR M (16 * o9 + r')) := fun r' h1 h2 => by
            by_cases hq : r' = r
            · rw [hq]; exact hmx
            · exact hS2.2.2.2 _ (hm1 r' (by omega) h2)
          dsimp only [Option.toList, List.cons_append, List.nil_append]
          refine V_iinc (v := nI (r + 1)) (lv' := [(4, _), (3, _), (0, _), (1, _), (2, _)]) C d_Li_reachFromSection_55 rfl (nI_1 r) (by decide) rfl ?_
          refine V_goto (tgt := 10) C d_Li_reachFromSection_58 (by decide) ?_
          refine V_pick [0, 1, 2, 3, 4] rfl ?_
          first
            | exact ih (r + 1) ι2 q2 qs2 (by omega) (by omega) hC2 hT2 (heq1.tr heq2) (hS1.tr hS2) g9
            | exact ih (r + 1) ι1 q1 qs1 (by omega) (by omega) hC1 hT1 heq1 hS1 g9
  refine V_aload_n C d_Li_reachFromSection_0 rfl ?_
  refine V_getR (kx := 0) C d_Li_reachFromSection_1 cf_Li (by decide) k_Li_11 (nn hO.n0) rfl hO.r00 ?_
  refine V_iload_n C d_Li_reachFromSection_4 rfl ?_
  refine V_aald C d_Li_reachFromSection_5 (by decide) (by decide) rfl hO.n26 rfl (by omega) rfl h26 ?_
  refine V_astore_n (lv' := [(3, _), (0, _), (1, _), (2, _)]) C d_Li_reachFromSection_6 (by decide) rfl ?_
  refine V_iconst (v := 0) C d_Li_reachFromSection_7 (by decide) ?_
  refine V_istore (lv' := [(4, _), (3, _), (0, _), (1, _), (2, _)]) C d_Li_reachFromSection_8 (by decide) rfl ?_
  refine V_pick [0, 1, 2, 3, 4] rfl ?_
  exact loop (mn M 52 o9 + 1) 0 ι q9 qs (by omega) (by omega) hC hT Eqx.rf (RS.rf hR) (fun r h => absurd h (by omega))
set_option maxHeartbeats 1000000 in
set_option maxRecDepth 10000 in
theorem c_Li_reachFrom {ν : Nu} {ι : Io} {ρ : Ro} {ℓ : Lo} {M : Io} {ρ0 : Ro} {N c9 w9 n9 z9 kn g9 : Nat} (hI : IV ν M ρ0 N c9 w9 n9 z9 kn g9) (hC : CuL M ι ρ0 ρ c9) {z1 : Nat} {kx : Nat → Nat} {en : Int32} (hT : T3 M ι ρ (sq M 12 47 c9) z1 kx) (hR0 : RQ M ι c9 z1 en 0 (fun _ => 0)) : Ct y_Li_reachFrom (Cond.code y_Li_reachFrom b_Li_reachFrom 4 (some .boolean) :: tb_) { frames := 2, cells := 0, slots := 0, locals := 46 } [sR 0 0 0, sI en] ν ι ρ ℓ (fun v ν1 ι1 ρ1 ℓ1 => ν = ν1 ∧ ρ = ρ1 ∧ ℓ = ℓ1 ∧ CuL M ι1 ρ0 ρ1 c9 ∧ ∃ b : Bool, some (sI (b2 (b = true))) = v ∧ (b = true → ¬ me M c9 en < 0 ∧ Eqx Prr ι ι1 ∧ T3 M ι1 ρ (sq M 12 47 c9) z1 kx ∧ (∃ q qs, RQ M ι1 c9 z1 en q qs ∧ Mx M ι1 c9 z1 en ∧ ∀ t, t < q → ∀ j ∈ sq M 16 52 c9, slR M j = qs t → Mx M ι1 c9 z1 (nuR M j))) ∧ (b = false → me M c9 en < 0 ∧ ι1 = up4 (up4 (up4 ι 0 0 0 15 2) 0 0 0 16 (-1)) 0 0 0 17 en)) (noX) := by
  refine Ct.ofV (by decide) (Nat.le_of_ble_eq_true rfl) rfl ?_
  intro p l e s m args below meth c D B tW α0 Q C hQ
  have hO := hC.os hI.os
  have hlen : (sq M 12 47 c9).length ≤ 144 := hI.lk.nl
  cases hf : fnd ι en z1 with
  | none =>
    have hneg : me M c9 en < 0 := (me_neg hI.nb).mpr (srt_n (fun i hi z => fnd_n hf _ (hT.2.2.1 i hi).1 ((hT.2.2.1 i hi).2.1.trans z)))
    refine V_aload_n C d_Li_reachFrom_0 rfl ?_
    refine V_getR (kx := 3) C d_Li_reachFrom_1 cf_Li (by decide) k_Li_24 (nn hO.n0) rfl hO.r03 ?_
    refine V_iload_n C d_Li_reachFrom_4 rfl ?_
    refine V_callV (as := [_]) C d_Li_reachFrom_5 (c_NT_findOrNull_n hO hT.1 (by have := hT.2.1; omega) hf) m_NT_findOrNull cf_NT k_Li_58 (nn hO.n3) ⟨by decide, by decide⟩ (Nat.le_of_ble_eq_true rfl) ⟨by decide, by decide⟩ rfl ?_
    rintro _ _ _ _ _ ⟨rfl, rfl, rfl, rfl, rfl⟩
    dsimp only [Option.toList, List.cons_append, List.nil_append]
    refine V_astore_n (lv' := [(2, _), (0, _), (1, _)]) C d_Li_reachFrom_8 (by decide) rfl ?_
    refine V_aload_n C d_Li_reachFrom_9 rfl ?_
    refine V_ifnull (tgt := 21) C d_Li_reachFrom_10 (by decide) (fun h10 => ?_) (fun _ h10 => (by cases h10))
    refine V_aload_n C d_Li_reachFrom_21 rfl ?_
    refine V_iconst (v := 2) C d_Li_reachFrom_22 (by decide) ?_
    refine V_iconst (v := (-1)) C d_Li_reachFrom_23 (by decide) ?_
    refine V_iload_n C d_Li_reachFrom_24 rfl ?_
    refine V_callV (as := [_, _, _]) C d_Li_reachFrom_25 (c_Li_tell hO) m_Li_tell cf_Li k_Li_103 (nn hO.n0) ⟨by decide, by decide⟩ (Nat.le_of_ble_eq_true rfl) ⟨by decide, by decide⟩ rfl ?_
    rintro _ _ _ _ _ ⟨rfl, rfl, rfl, rfl, rfl⟩
    dsimp only [Option.toList, List.cons_append, List.nil_append]
    refine V_zret C hQ (by decide) (by decide) d_Li_reachFrom_28 rfl rfl ?_
    exact ⟨rfl, rfl, rfl, ((hC.up (Or.inl rfl) (by omega)).up (Or.inl rfl) (by omega)).up (Or.inl rfl) (by omega), false, rfl, (fun z => nomatch z), fun _ => ⟨hneg, rfl⟩⟩
  | some k =>
    have hkf := fnd_s hf
    have hk144 : k < 144 := by have := hT.2.1; omega
    have hso : ι 1 k 0 1 = srt M (sq M 12 47 c9) en := by rw [(hT.2.2.2.2.2.1 k hkf.1).1, hkf.2.1]
    refine V_aload_n C d_Li_reachFrom_0 rfl ?_
    refine V_getR (kx := 3) C d_Li_reachFrom_1 cf_Li (by decide) k_Li_24 (nn hO.n0) rfl hO.r03 ?_
    refine V_iload_n C d_Li_reachFrom_4 rfl ?_
    refine V_callV (as := [_]) C d_Li_reachFrom_5 (c_NT_findOrNull_y hO hT.1 (by have := hT.2.1; omega) hf) m_NT_findOrNull cf_NT k_Li_58 (nn hO.n3) ⟨by decide, by decide⟩ (Nat.le_of_ble_eq_true rfl) ⟨by decide, by decide⟩ rfl ?_
    rintro _ _ _ _ _ ⟨rfl, rfl, rfl, rfl, rfl⟩
    dsimp only [Option.toList, List.cons_append, List.nil_append]
    refine V_astore_n (lv' := [(2, _), (0, _), (1, _)]) C d_Li_reachFrom_8 (by decide) rfl ?_
    refine V_aload_n C d_Li_reachFrom_9 rfl ?_
    refine V_ifnull (tgt := 21) C d_Li_reachFrom_10 (by decide) (fun h10 => (by cases h10)) (fun zz10 h10 => ?_)
    refine V_aload_n C d_Li_reachFrom_13 rfl ?_
    refine V_getI (kx := 1) C d_Li_reachFrom_14 cf_Me (by decide) k_Li_66 (nn (hO.me k hk144).1) rfl ?_
    refine V_iconst (v := 3) C d_Li_reachFrom_17 (by decide) ?_
    refine V_icmp_ne (tgt := 29) C d_Li_reachFrom_18 (by decide) (fun h18 => ?_) (fun h18 => ?_)
    · have hpos : ¬ me M c9 en < 0 := fun z => h18 (hso.trans ((me_neg hI.nb).mp z))
      refine V_aload_n C d_Li_reachFrom_29 rfl ?_
      refine V_aload_n C d_Li_reachFrom_30 rfl ?_
      refine V_callV (as := [_]) C d_Li_reachFrom_31 (c_Li_reach (M := M) (ρ0 := ρ0) (kx := kx) (qs := fun _ => 0) (q9 := 0) (en := en) hI hC hT hR0 (k9 := k) hkf.1 (fun i hi => by rw [hkf.2.1] at hi; exact Tc.base (hI.nb _ (ixm_k hi).1) (me_of hI.nb hi))) m_Li_reach cf_Li k_Li_139 (nn hO.n0) ⟨by decide, by decide⟩ (Nat.le_of_ble_eq_true rfl) ⟨by decide, by decide⟩ rfl ?_
      rintro _ _ ι2 _ _ ⟨rfl, rfl, rfl, rfl, heq2, ⟨q2, qs2, hS2⟩, hmx⟩
      have hC2 := hC.eqx heq2 (fun _ _ => prr_c) LFq.rf
      have hT2 := hT.ex heq2
      rw [hkf.2.1] at hmx
      dsimp only [Option.toList, List.cons_append, List.nil_append]
      refine V_iconst (v := 0) C d_Li_reachFrom_34 (by decide) ?_
      refine V_istore_n (lv' := [(3, _), (2, _), (0, _), (1, _)]) C d_Li_reachFrom_35 (by decide) rfl ?_
      refine V_pick [0, 1, 2, 3] rfl ?_
      have loop : ∀ (f : Nat) (i : Nat) (ι1 : Io) (q1 : Nat) (qs1 : Nat → Nat), 97 - i < f → i ≤ q1 → CuL M ι1 ρ0 ρ c9 → T3 M ι1 ρ (sq M 12 47 c9) z1 kx → Eqx Prr ι ι1 → (RQ M ι1 c9 z1 en q1 qs1 ∧ Mx M ι1 c9 z1 en) → (∀ t, t < i → ∀ j ∈ sq M 16 52 c9, slR M j = qs1 t → Mx M ι1 c9 z1 (nuR M j)) → V p l e { frames := 2, cells := 0, slots := 0, locals := 46 } s m args below meth c D B α0 ν 4 Q 0 0 ν ι1 ρ ℓ 36 [(3, sI (nI i)), (2, sR 1 k 0), (0, sR 0 0 0), (1, sI en)] [] := by
        intro f
        induction f with
        | zero => intro i _ _ _ hf; omega
        | succ f ih =>
          intro i ι1 q1 qs1 hf hi0 hC1 hT1 heq1 hS1 hcl
          have hO1 := hC1.os hI.os
          have hq96 := hS1.1.q96
          refine V_iload_n C d_Li_reachFrom_36 rfl ?_
          refine V_bipush (v := 96) C d_Li_reachFrom_37 (by decide) ?_
          refine V_icmp_ge (tgt := 78) C d_Li_reachFrom_39 (by decide) (fun h39 => ?_) (fun h39 => ?_)
          · have h96 : 96 ≤ i := (nI_leI (a := 96) (b := i) (by omega) (by omega)).mp h39
            have hi : i = q1 := by omega
            refine V_iconst (v := 1) C d_Li_reachFrom_78 (by decide) ?_
            refine V_zret C hQ (by decide) (by decide) d_Li_reachFrom_79 rfl rfl ?_
            exact ⟨rfl, rfl, rfl, hC1, true, rfl, fun _ => ⟨hpos, heq1, hT1, q1, qs1, hS1.1, hS1.2, by rw [← hi]; exact hcl⟩, (fun z => nomatch z)⟩
          · refine V_iload_n C d_Li_reachFrom_42 rfl ?_
            refine V_aload_n C d_Li_reachFrom_43 rfl ?_
            refine V_getI (kx := 6) C d_Li_reachFrom_44 cf_Li (by decide) k_Li_110 (nn hO1.n0) rfl ?_
            refine V_eqi (y := nI q1) hS1.1.1 ?_
            refine V_icmp_ge (tgt := 78) C d_Li_reachFrom_47 (by decide) (fun h47 => ?_) (fun h47 => ?_)
            · have hi : i = q1 := by have := (nI_leI (a := q1) (b := i) (by omega) (by omega)).mp h47; omega
              refine V_iconst (v := 1) C d_Li_reachFrom_78 (by decide) ?_
              refine V_zret C hQ (by decide) (by decide) d_Li_reachFrom_79 rfl rfl ?_
              exact ⟨rfl, rfl, rfl, hC1, true, rfl, fun _ => ⟨hpos, heq1, hT1, q1, qs1, hS1.1, hS1.2, by rw [← hi]; exact hcl⟩, (fun z => nomatch z)⟩
            · have hi : i < q1 := Nat.lt_of_not_le fun z => h47 ((nI_leI (by omega) (by omega)).mpr z)
              obtain ⟨u1, u2, u3, i0, u4, u5, u6⟩ := hS1.1.2.1 i hi
              have u7 := (Tc.nl hI.lk u4).1
              obtain ⟨a, t, a1, a2, a3⟩ := sq_el u7
              have l47 := hI.bd.b47.le (t := mn M 59 a) (by have := (hI.ic.2.2.2.1 a a1).2.1; have := hI.N12; omega)
              have l50 : mn M 50 i0 < 8 := by have := hI.bd.b50.le (t := i0) (by have := hI.nb _ u7; omega); omega
              have hdiv : qs1 i / 8 = mn M 59 a := by
                have e9 : i0 / 12 = mn M 59 a := by omega
                rw [← u6, rc_n2 u5, e9]; omega
              refine V_aload_n C d_Li_reachFrom_50 rfl ?_
              refine V_aload_n C d_Li_reachFrom_51 rfl ?_
              refine V_getR (kx := 5) C d_Li_reachFrom_52 cf_Li (by decide) k_Li_32 (nn hO1.n0) rfl hO1.r05 ?_
              refine V_iload_n C d_Li_reachFrom_55 rfl ?_
              refine V_iald C d_Li_reachFrom_56 (by decide) rfl hO1.n29 rfl (by omega) rfl ?_
              refine V_eqi (y := nI (qs1 i)) u1 ?_
              refine V_bipush (v := 8) C d_Li_reachFrom_57 (by decide) ?_
              refine V_idiv C d_Li_reachFrom_59 (by decide) ?_
              refine V_eqi (y := nI (qs1 i / 8)) (pk_div (d := 8) (by omega) (by omega) (by omega)) ?_
              refine V_aload_n C d_Li_reachFrom_60 rfl ?_
              refine V_getR (kx := 5) C d_Li_reachFrom_61 cf_Li (by decide) k_Li_32 (nn hO1.n0) rfl hO1.r05 ?_
              refine V_iload_n C d_Li_reachFrom_64 rfl ?_
              refine V_iald C d_Li_reachFrom_65 (by decide) rfl hO1.n29 rfl (by omega) rfl ?_
              refine V_eqi (y := nI (qs1 i)) u1 ?_
              refine V_bipush (v := 8) C d_Li_reachFrom_66 (by decide) ?_
              refine V_irem C d_Li_reachFrom_68 (by decide) ?_
              refine V_eqi (y := nI (qs1 i % 8)) (pk_rem (d := 8) (by omega) (by omega) (by omega)) ?_
              refine V_callV (as := [_, _]) C d_Li_reachFrom_69 (c_Li_reachFromSection (M := M) (ρ0 := ρ0) (kx := kx) (qs := qs1) (en := en) hI hC1 hT1 hS1.1 (o9 := qs1 i / 8) (s9 := qs1 i % 8) a1 hdiv.symm (by omega) ⟨i0, u4, u5, by rw [u6]; omega⟩) m_Li_reachFromSection cf_Li k_Li_143 (nn hO1.n0) ⟨by decide, by decide⟩ (Nat.le_of_ble_eq_true rfl) ⟨by decide, by decide⟩ rfl ?_
              rintro _ _ ι2 _ _ ⟨rfl, rfl, rfl, rfl, heq2, ⟨q2, qs2, hS2⟩, hmx⟩
              have hC2 := hC1.eqx heq2 (fun _ _ => prr_c) LFq.rf
              have hT2 := hT1.ex heq2
              dsimp only [Option.toList, List.cons_append, List.nil_append]
              refine V_iinc (v := nI (i + 1)) (lv' := [(3, _), (2, _), (0, _), (1, _)]) C d_Li_reachFrom_72 rfl (nI_1 i) (by decide) rfl ?_
              refine V_goto (tgt := 36) C d_Li_reachFrom_75 (by decide) ?_
              refine V_pick [0, 1, 2, 3] rfl ?_
              exact ih (i + 1) ι2 q2 qs2 (by omega) (by have := hS2.2.1; omega) hC2 hT2 (heq1.tr heq2) ⟨hS2.1, hS2.2.2.2 _ hS1.2⟩ (fun t ht j hj hs => by
                  by_cases hq : t = i
                  · subst hq; rw [hS2.2.2.1 t hi] at hs; exact hmx j hj (by rw [hs]; omega)
                  · rw [hS2.2.2.1 t (by omega)] at hs; exact hS2.2.2.2 _ (hcl t (by omega) j hj hs))
      exact loop 98 0 ι2 q2 qs2 (by omega) (by omega) hC2 hT2 heq2 ⟨hS2.1, hmx⟩ (fun t ht => absurd ht (by omega))
    · refine V_aload_n C d_Li_reachFrom_21 rfl ?_
      refine V_iconst (v := 2) C d_Li_reachFrom_22 (by decide) ?_
      refine V_iconst (v := (-1)) C d_Li_reachFrom_23 (by decide) ?_
      refine V_iload_n C d_Li_reachFrom_24 rfl ?_
      refine V_callV (as := [_, _, _]) C d_Li_reachFrom_25 (c_Li_tell hO) m_Li_tell cf_Li k_Li_103 (nn hO.n0) ⟨by decide, by decide⟩ (Nat.le_of_ble_eq_true rfl) ⟨by decide, by decide⟩ rfl ?_
      rintro _ _ _ _ _ ⟨rfl, rfl, rfl, rfl, rfl⟩
      dsimp only [Option.toList, List.cons_append, List.nil_append]
      refine V_zret C hQ (by decide) (by decide) d_Li_reachFrom_28 rfl rfl ?_
      exact ⟨rfl, rfl, rfl, ((hC.up (Or.inl rfl) (by omega)).up (Or.inl rfl) (by omega)).up (Or.inl rfl) (by omega), false, rfl, (fun z => nomatch z), fun _ => ⟨(me_neg hI.nb).mpr (hso.symm.trans h18), rfl⟩⟩
