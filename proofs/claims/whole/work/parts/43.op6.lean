def Pg (r k : Nat) : Prop := r = 1 ∨ r = 3 ∨ (r = 0 ∧ 15 ≤ k ∧ k ≤ 17)
theorem TB.nil {M ι : Io} {ρ : Ro} (h1 : ι 3 0 0 1 = 0) (h4 : ι 3 0 0 4 = 0) : TB M ι ρ [] 0 (fun _ => 0) := ⟨h1, Nat.le_refl _, fun i hi => absurd hi List.not_mem_nil, fun k hk => absurd hk (by omega), fun k _ hk => absurd hk (by omega), fun k hk => absurd hk (by omega), h4, fun t ht => absurd ht (Nat.not_lt_zero t)⟩
/-- of the table: what later calls need after a fault -/
def TZ (ι : Io) (z : Nat) : Prop := ι 3 0 0 1 = nI z ∧ z ≤ 144 ∧ ∀ k, k < z → ι 1 k 0 1 = 3 ∨ ι 1 k 0 1 = 2 ∨ ∃ s, s < 96 ∧ ι 1 k 0 2 = nI s
theorem T3.tz {M ι : Io} {ρ : Ro} {l : List Nat} {z c : Nat} {kx : Nat → Nat} (h : T3 M ι ρ l z kx) (hs : ∀ i ∈ l, i ∈ sq M 12 47 c) (hlen : l.length ≤ 144) (hrc : ∀ i ∈ sq M 12 47 c, M 49 0 0 i ≠ 2 → M 49 0 0 i ≠ 3 → rcI M i < 96) : TZ ι z := by
  refine ⟨h.1, Nat.le_trans h.2.1 hlen, fun k hk => ?_⟩
  obtain ⟨m1, m2, m3⟩ := h.2.2.2.2.2.1 k hk
  have key : srt M l (ι 1 k 0 0) ≠ 3 → srt M l (ι 1 k 0 0) ≠ 2 → ∃ s, s < 96 ∧ ι 1 k 0 2 = nI s := fun g3 g2 => by
    cases hx : ixm M l (ι 1 k 0 0) with
    | none => exact absurd (ixm_3.mp hx) g3
    | some i =>
      obtain ⟨i1, i2, i3⟩ := ixm_k hx
      have hne : M 49 0 0 i ≠ 2 := by rw [i3]; exact g2
      exact ⟨rcI M i, hrc i (hs i i1) hne (by rw [i3]; exact g3), (m2 i hx hne).1⟩
  by_cases g3 : srt M l (ι 1 k 0 0) = 3
  · exact Or.inl (m1.trans g3)
  · by_cases g2 : srt M l (ι 1 k 0 0) = 2
    · exact Or.inr (Or.inl (m1.trans g2))
    · exact Or.inr (Or.inr (key g3 g2))
theorem TZ.cg {ι ι1 : Io} {z : Nat} (h : TZ ι z) (e : ∀ k f, ι1 1 k 0 f = ι 1 k 0 f ∨ (f ≠ 1 ∧ f ≠ 2)) (e3 : ι1 3 0 0 1 = ι 3 0 0 1) : TZ ι1 z := by
  have a1 : ∀ k, ι1 1 k 0 1 = ι 1 k 0 1 := fun k => (e k 1).resolve_right (fun z => z.1 rfl)
  have a2 : ∀ k, ι1 1 k 0 2 = ι 1 k 0 2 := fun k => (e k 2).resolve_right (fun z => z.2 rfl)
  unfold TZ at *
  simp only [a1, a2, e3]
  exact h
theorem p13g {r k : Nat} (h : P13 r k) : Pg r k := h.imp id Or.inl
theorem pg_c {r k : Nat} (h : Pg r k) : isCl r ∧ ¬ (r = 0 ∧ k = 2) := by unfold Pg at h; unfold isCl; omega
theorem p13_c {r k : Nat} (h : P13 r k) : isCl r ∧ ¬ (r = 0 ∧ k = 2) := pg_c (p13g h)
theorem sqP_sub {M : Io} {m fld c k n : Nat} (hk : k < c) (hn : n ≤ mn M fld (mn M 59 k)) : ∀ i ∈ sqP M m fld k n, i ∈ sq M m fld c := fun i hi => by
  unfold sqP at hi
  rcases List.mem_append.mp hi with h | h
  · obtain ⟨a, b, h1, h2, rfl⟩ := sq_el h
    exact sq_mem (by omega) h2
  · obtain ⟨t, ht, rfl⟩ := List.mem_map.mp h
    exact sq_mem hk (by rw [List.mem_range] at ht; omega)
theorem b2f {b : Bool} (h : b2 (b = true) = 0) : b = false := by cases b; rfl; exact absurd h (by decide)
theorem b2t {b : Bool} (h : ¬ b2 (b = true) = 0) : b = true := by cases b; exact absurd rfl h; rfl
set_option maxHeartbeats 1000000 in
set_option maxRecDepth 10000 in
theorem c_Li_gatherNames {ν : Nu} {ι : Io} {ρ : Ro} {ℓ : Lo} {M : Io} {ρ0 : Ro} {N c9 w9 n9 z9 kn g9 : Nat} (hI : IV ν M ρ0 N c9 w9 n9 z9 kn g9) (hC : CuL M ι ρ0 ρ c9) (h31 : ι 3 0 0 1 = 0) (h34 : ι 3 0 0 4 = 0) : Ct y_Li_gatherNames (Cond.code y_Li_gatherNames b_Li_gatherNames 4 (some .boolean) :: tb_) { frames := 4, cells := 0, slots := 0, locals := 108 } [sR 0 0 0] ν ι ρ ℓ (fun v ν1 ι1 ρ1 ℓ1 => ν = ν1 ∧ ℓ = ℓ1 ∧ CuL M ι1 ρ0 ρ1 c9 ∧ ∃ b : Bool, some (sI (b2 (b = true))) = v ∧ (b = true → (∀ i ∈ sq M 12 47 c9, ¬ dbB M c9 i) ∧ Eqx P13 ι ι1 ∧ ∃ z1 kx, TB M ι1 ρ1 (sq M 12 47 c9) z1 kx) ∧ (b = false → Eqx Pg ι ι1 ∧ (∃ l i suf, sq M 12 47 c9 = l ++ i :: suf ∧ (∀ j ∈ l, ¬ dbB M c9 j) ∧ dbB M c9 i ∧ ι1 0 0 0 15 = 1 ∧ ι1 0 0 0 16 = nI (i / 12) ∧ ι1 0 0 0 17 = nI (i % 12)) ∧ ∃ z1, TZ ι1 z1)) (noX) := by
  refine Ct.ofV (by decide) (Nat.le_of_ble_eq_true rfl) rfl ?_
  intro p l e s m args below meth c D B tW α0 Q C hQ
  have hc12 := hI.ic.2.2.1
  have loop : ∀ (f : Nat) (k : Nat) (ι1 : Io) (ρ1 : Ro) (z1 : Nat) (kx : Nat → Nat), c9 - k < f → k ≤ c9 → CuL M ι1 ρ0 ρ1 c9 → TB M ι1 ρ1 (sq M 12 47 k) z1 kx → (∀ i ∈ sq M 12 47 k, ¬ dbB M c9 i) → Eqx P13 ι ι1 → V p l e { frames := 4, cells := 0, slots := 0, locals := 108 } s m args below meth c D B α0 ν 4 Q 0 0 ν ι1 ρ1 ℓ 2 [(1, sI (nI k)), (0, sR 0 0 0)] [] := by
    intro f
    induction f with
    | zero => intros; omega
    | succ f ih =>
      intro k ι1 ρ1 z1 kx hf hk0 hC1 hT1 hdb1 heq1
      have hO1 := hC1.os hI.os
      refine V_iload_n C d_Li_gatherNames_2 rfl ?_
      refine V_aload_n C d_Li_gatherNames_3 rfl ?_
      refine V_getI (kx := 2) C d_Li_gatherNames_4 cf_Li (by decide) k_Li_48 (nn hO1.n0) rfl ?_
      refine V_eqi (y := nI c9) hC1.2.2 ?_
      refine V_icmp_ge (tgt := 80) C d_Li_gatherNames_7 (by decide) (fun h7 => ?_) (fun h7 => ?_)
      · have hk : k = c9 := by have := (nI_leI (a := c9) (b := k) (by omega) (by omega)).mp h7; omega
        subst hk
        refine V_iconst (v := 1) C d_Li_gatherNames_80 (by decide) ?_
        refine V_zret C hQ (by decide) (by decide) d_Li_gatherNames_81 rfl rfl ?_
        exact ⟨rfl, rfl, hC1, true, rfl, fun _ => ⟨hdb1, heq1, z1, kx, hT1⟩, (fun z => nomatch z)⟩
      · have hk : k < c9 := Nat.lt_of_not_le fun z => h7 ((nI_leI (by omega) (by omega)).mpr z)
        obtain ⟨ho, h27, h26, hU1⟩ := hC1.un hI hk
        have h12 := hI.N12
        refine V_aload_n C d_Li_gatherNames_10 rfl ?_
        refine V_getR (kx := 0) C d_Li_gatherNames_11 cf_Li (by decide) k_Li_11 (nn hO1.n0) rfl hO1.r00 ?_
        refine V_aload_n C d_Li_gatherNames_14 rfl ?_
        refine V_getR (kx := 1) C d_Li_gatherNames_15 cf_Li (by decide) k_Li_17 (nn hO1.n0) rfl hO1.r01 ?_
        refine V_iload_n C d_Li_gatherNames_18 rfl ?_
        refine V_iald C d_Li_gatherNames_19 (by decide) rfl hO1.n27 rfl (by omega) rfl ?_
        refine V_eqi (y := nI (mn M 59 k)) h27 ?_
        refine V_aald C d_Li_gatherNames_20 (by decide) (by decide) rfl hO1.n26 rfl (by omega) rfl h26 ?_
        refine V_astore_n (lv' := [(2, _), (1, _), (0, _)]) C d_Li_gatherNames_21 (by decide) rfl ?_
        refine V_iconst (v := 0) C d_Li_gatherNames_22 (by decide) ?_
        refine V_istore_n (lv' := [(3, _), (2, _), (1, _), (0, _)]) C d_Li_gatherNames_23 (by decide) rfl ?_
        refine V_pick [0, 1, 2, 3] rfl ?_
        have inner : ∀ (f2 : Nat) (n : Nat) (ι1 : Io) (ρ1 : Ro) (z1 : Nat) (kx : Nat → Nat), (mn M 47 (mn M 59 k)) - n < f2 → n ≤ (mn M 47 (mn M 59 k)) → CuL M ι1 ρ0 ρ1 c9 → TB M ι1 ρ1 (sqP M 12 47 k n) z1 kx → (∀ i ∈ sqP M 12 47 k n, ¬ dbB M c9 i) → Eqx P13 ι ι1 → V p l e { frames := 4, cells := 0, slots := 0, locals := 108 } s m args below meth c D B α0 ν 4 Q 0 0 ν ι1 ρ1 ℓ 24 [(3, sI (nI n)), (2, sR 8 (mn M 59 k) 0), (1, sI (nI k)), (0, sR 0 0 0)] [] := by
          intro f2
          induction f2 with
          | zero => intros; omega
          | succ f2 ihi =>
            intro n ι1 ρ1 z1 kx hf2 hn0 hC1 hT1 hdb1 heq1
            obtain ⟨ho, h27, h26, hU1⟩ := hC1.un hI hk
            have hO1 := hC1.os hI.os
            have h12 := hI.N12
            have l12 := hU1.n12
            have hlen : (sqP M 12 47 k n).length ≤ 12 * k + n := sqP_len (fun a ha => hI.bd.b47.le (t := mn M 59 a) (by have := (hI.ic.2.2.2.1 a (by omega)).2.1; omega))
            refine V_iload_n C d_Li_gatherNames_24 rfl ?_
            refine V_aload_n C d_Li_gatherNames_25 rfl ?_
            refine V_getI (kx := 3) C d_Li_gatherNames_26 cf_Un (by decide) k_Li_128 hU1.al rfl ?_
            refine V_eqi (y := nI (mn M 47 (mn M 59 k))) hU1.en ?_
            refine V_icmp_ge (tgt := 74) C d_Li_gatherNames_29 (by decide) (fun h29 => ?_) (fun h29 => ?_)
            · have hn : n = (mn M 47 (mn M 59 k)) := by have := (nI_leI (a := (mn M 47 (mn M 59 k))) (b := n) (by omega) (by omega)).mp h29; omega
              refine V_iinc (v := nI (k + 1)) (lv' := [(1, _), (3, _), (2, _), (0, _)]) C d_Li_gatherNames_74 rfl (nI_1 k) (by decide) rfl ?_
              refine V_goto (tgt := 2) C d_Li_gatherNames_77 (by decide) ?_
              refine V_pick [0, 3] rfl ?_
              exact ih (k + 1) ι1 ρ1 z1 kx (by omega) (by omega) hC1 (by rw [sq_s, ← hn]; exact hT1) (by rw [sq_s, ← hn]; exact hdb1) heq1
            · have hn : n < (mn M 47 (mn M 59 k)) := Nat.lt_of_not_le fun z => h29 ((nI_leI (by omega) (by omega)).mpr z)
              have hcv := (hI.cv ho).2.1 n hn
              have hni : (12 * mn M 59 k + n) ∉ sqP M 12 47 k n := sqP_nm hI.nd hk (by omega) (fun a ha => hI.bd.b47.le (t := mn M 59 a) (by have := (hI.ic.2.2.2.1 a ha).2.1; omega)) (by omega)
              obtain ⟨suf, hsp⟩ := sq_split (m := 12) (fld := 47) hk hn
              refine V_aload_n C d_Li_gatherNames_32 rfl ?_
              refine V_getR (kx := 3) C d_Li_gatherNames_33 cf_Li (by decide) k_Li_24 (nn hO1.n0) rfl hO1.r03 ?_
              refine V_aload_n C d_Li_gatherNames_36 rfl ?_
              refine V_getR (kx := 1) C d_Li_gatherNames_37 cf_Li (by decide) k_Li_17 (nn hO1.n0) rfl hO1.r01 ?_
              refine V_iload_n C d_Li_gatherNames_40 rfl ?_
              refine V_iald C d_Li_gatherNames_41 (by decide) rfl hO1.n27 rfl (by omega) rfl ?_
              refine V_eqi (y := nI (mn M 59 k)) h27 ?_
              refine V_iload_n C d_Li_gatherNames_42 rfl ?_
              refine V_aload_n C d_Li_gatherNames_43 rfl ?_
              refine V_getR (kx := 2) C d_Li_gatherNames_44 cf_Un (by decide) k_Li_131 hU1.al rfl hU1.r2 ?_
              refine V_iload_n C d_Li_gatherNames_47 rfl ?_
              refine V_aald C d_Li_gatherNames_48 (by decide) (by decide) rfl hU1.n2 rfl (by omega) rfl (hU1.na hn).2 ?_
              refine V_callV (as := [_, _, _]) C d_Li_gatherNames_49 (c_NT_enter hO1 (M := M) (ls := sqP M 12 47 k n) (o9 := mn M 59 k) (n9 := n) hT1 (by omega) hni (by omega) (by omega) (nn (hU1.na hn).1) ((hC1.1 2 _ _ _ (by unfold isCl; omega)).trans hcv.1) ((hC1.1 2 _ _ _ (by unfold isCl; omega)).trans hcv.2.1) ((hC1.1 2 _ _ _ (by unfold isCl; omega)).trans hcv.2.2.1) ((hC1.1 2 _ _ _ (by unfold isCl; omega)).trans hcv.2.2.2) (hI.bd.b50.eq (by omega))) m_NT_enter cf_NT k_Li_135 (nn hO1.n3) ⟨by decide, by decide⟩ (Nat.le_of_ble_eq_true rfl) ⟨by decide, by decide⟩ rfl ?_
              rintro _ _ ι2 ρ2 _ ⟨rfl, rfl, heq2, hq2, b9, rfl, hdp, hnd⟩
              have hC2 := hC1.eqx heq2 (fun _ _ => p13_c) hq2
              have hO2 := hC2.os hI.os
              have h272 := (hC2.un hI hk).2.1
              dsimp only [Option.toList, List.cons_append, List.nil_append]
              refine V_if_ne (tgt := 68) C d_Li_gatherNames_52 (by decide) (fun h52 => ?_) (fun h52 => ?_)
              · obtain ⟨hnD, z2, kx2, hT2⟩ := hnd (b2t h52)
                refine V_iinc (v := nI (n + 1)) (lv' := [(3, _), (2, _), (1, _), (0, _)]) C d_Li_gatherNames_68 rfl (nI_1 n) (by decide) rfl ?_
                refine V_goto (tgt := 24) C d_Li_gatherNames_71 (by decide) ?_
                refine V_pick [0, 1, 2, 3] rfl ?_
                exact ihi (n + 1) ι2 ρ2 z2 kx2 (by omega) (by omega) hC2 (by rw [sqP_s]; exact hT2) (by rw [sqP_s]; intro i hi; rcases List.mem_append.mp hi with hi | hi; exact hdb1 i hi; rw [List.mem_singleton.mp hi]; exact fun z => hnD ((db_iff hsp hni hI.nb).mp z)) (heq1.tr heq2)
              · refine V_aload_n C d_Li_gatherNames_55 rfl ?_
                refine V_iconst (v := 1) C d_Li_gatherNames_56 (by decide) ?_
                refine V_aload_n C d_Li_gatherNames_57 rfl ?_
                refine V_getR (kx := 1) C d_Li_gatherNames_58 cf_Li (by decide) k_Li_17 (nn hO2.n0) rfl hO2.r01 ?_
                refine V_iload_n C d_Li_gatherNames_61 rfl ?_
                refine V_iald C d_Li_gatherNames_62 (by decide) rfl hO2.n27 rfl (by omega) rfl ?_
                refine V_eqi (y := nI (mn M 59 k)) h272 ?_
                refine V_iload_n C d_Li_gatherNames_63 rfl ?_
                refine V_callV (as := [_, _, _]) C d_Li_gatherNames_64 (c_Li_tell hO2) m_Li_tell cf_Li k_Li_103 (nn hO2.n0) ⟨by decide, by decide⟩ (Nat.le_of_ble_eq_true rfl) ⟨by decide, by decide⟩ rfl ?_
                rintro _ _ _ _ _ ⟨rfl, rfl, rfl, rfl, rfl⟩
                dsimp only [Option.toList, List.cons_append, List.nil_append]
                refine V_zret C hQ (by decide) (by decide) d_Li_gatherNames_67 rfl rfl ?_
                obtain ⟨hD, rfl⟩ := hdp (b2f h52)
                have hdb : dbB M c9 (12 * mn M 59 k + n) := (db_iff hsp hni hI.nb).mpr hD
                refine ⟨rfl, rfl, ((hC2.up (Or.inl rfl) (by omega)).up (Or.inl rfl) (by omega)).up (Or.inl rfl) (by omega), false, rfl, (fun z => nomatch z), fun _ => ⟨(((heq1.tr heq2).mo (fun _ _ => p13g)).up (Or.inr (Or.inr ⟨rfl, by omega⟩)) |>.up (Or.inr (Or.inr ⟨rfl, by omega⟩))).up (Or.inr (Or.inr ⟨rfl, by omega⟩)), ⟨_, _, suf, hsp, hdb1, hdb, ?_, ?_, ?_⟩, z1, ?_⟩⟩
                · simp (disch := omega) only [up4_ne, up4_s]
                · simp (disch := omega) only [up4_ne, up4_s]; rw [show (12 * mn M 59 k + n) / 12 = mn M 59 k by omega]
                · simp (disch := omega) only [up4_ne, up4_s]; rw [show (12 * mn M 59 k + n) % 12 = n by omega]
                · exact (hT1.t3.tz (sqP_sub hk (by omega)) (by omega) hI.rc).cg (fun a f => Or.inl (by rw [up4_ne (by omega), up4_ne (by omega), up4_ne (by omega)])) (by rw [up4_ne (by omega), up4_ne (by omega), up4_ne (by omega)])
        exact inner ((mn M 47 (mn M 59 k)) + 1) 0 ι1 ρ1 z1 kx (by omega) (by omega) hC1 (by rw [sqP_0]; exact hT1) (by rw [sqP_0]; exact hdb1) heq1
  refine V_iconst (v := 0) C d_Li_gatherNames_0 (by decide) ?_
  refine V_istore_n (lv' := [(1, _), (0, _)]) C d_Li_gatherNames_1 (by decide) rfl ?_
  refine V_pick [0, 1] rfl ?_
  exact loop (c9 + 1) 0 ι ρ 0 (fun _ => 0) (by omega) (by omega) hC (TB.nil h31 h34) (fun i hi => absurd hi List.not_mem_nil) Eqx.rf
