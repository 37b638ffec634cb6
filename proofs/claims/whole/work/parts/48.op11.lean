def P31 (r _k : Nat) : Prop := r = 31
theorem p31_c {r k : Nat} (h : P31 r k) : isCl r ∧ ¬ (r = 0 ∧ k = 2) := by unfold P31 at h; unfold isCl; omega
theorem iC_x {M ι : Io} {kx : Nat → Nat} {j : Nat} : Eqx P31 ι (iC M ι kx j) := fun _ _ _ _ h => iC_e h
theorem IV.sl {ν : Nu} {M : Io} {ρ : Ro} {N c w n z kn g j : Nat} (h : IV ν M ρ N c w n z kn g) (hj : j ∈ sq M 16 52 c) : slR M j < 96 := by
  obtain ⟨k, t, h1, h2, rfl⟩ := sq_el hj
  have ho := (h.ic.2.2.2.1 k h1).2.1
  have := h.N12
  have l52 := h.bd.b52.le (t := mn M 59 k) (by omega)
  have l53 := h.bd.b53.le (t := 16 * mn M 59 k + t) (by omega)
  unfold slR
  rw [show (16 * mn M 59 k + t) / 16 = mn M 59 k by omega]
  omega
/-- class and reference while references are worked in -/
def WI9 (M ι : Io) (ρ : Ro) (c z : Nat) (kx : Nat → Nat) (b n : Nat) (L : Ls) : Prop := FN M ι ρ c z kx L ∧ LY M b 264192 L ∧ L 10 41 - L 10 20 = nI n ∧ (L 10 25 = 0 ∧ L 10 26 = -1 ∧ L 10 27 = -1) ∧ ∀ k, k < n → ι 31 0 0 k = L 73 k
theorem wk_10 {M ι : Io} {ρ : Ro} {c z j k : Nat} {kx : Nat → Nat} {L : Ls} (h : FN M ι ρ c z kx L) (hb : ∀ i ∈ sq M 12 47 c, i < 144) (hrc : ∀ i ∈ sq M 12 47 c, M 49 0 0 i ≠ 2 → M 49 0 0 i ≠ 3 → rcI M i < 96) (hin : 12 * (j / 16) + mn M 56 j ∈ sq M 12 47 c) (hs : slR M j < 96) (h0 : L 10 25 = 0) (hf : fC M ι kx j = 0) : wkT M c L j 10 k = L 10 k := by
  have e28 : ι 28 0 0 (slR M j) = L 61 (slR M j) := h.2.1.2.2.2.2.2.2 _ hs
  by_cases hr : L 61 (slR M j) = 0
  · rw [wk_nr hr]
  · obtain ⟨r1, r2, r3⟩ := wk_rel h hb hrc hin hs hr
    unfold fC at hf
    rw [e28, if_neg hr] at hf
    by_cases hl : mn M 45 (slR M j) < mn M 54 j + wd (mn M 55 j)
    · rw [if_pos hl] at hf
      exact absurd hf (by decide)
    · rw [if_neg hl, r3, r1] at hf
      rw [wk_ok h0 hr hl hf, pu_fr (by decide)]
theorem WI9.st {M ι : Io} {ρ : Ro} {c z b n j : Nat} {kx : Nat → Nat} {L : Ls} (h : WI9 M ι ρ c z kx b n L) (hb : ∀ i ∈ sq M 12 47 c, i < 144) (hrc : ∀ i ∈ sq M 12 47 c, M 49 0 0 i ≠ 2 → M 49 0 0 i ≠ 3 → rcI M i < 96) (hin : 12 * (j / 16) + mn M 56 j ∈ sq M 12 47 c) (hs : slR M j < 96) (hf : fC M ι kx j = 0) : WI9 M (iC M ι kx j) ρ c z kx b n (wkT M c L j) := by
  obtain ⟨h1, h2, h3, h4, h5⟩ := h
  obtain ⟨g1, g2, g3⟩ := (wk_step (n := n) (b := b) (N := 0) h1 hb hrc hin hs h4.1 h5).1 hf
  refine ⟨g1, h2.cgL (fun r k a d => wk_fr a (by omega)), ?_, ⟨g2, (wk_10 h1 hb hrc hin hs h4.1 hf).trans h4.2.1, (wk_10 h1 hb hrc hin hs h4.1 hf).trans h4.2.2⟩, g3⟩
  rw [wk_fr (by decide) (by omega), wk_fr (by decide) (by omega)]
  exact h3
set_option maxHeartbeats 1000000 in
set_option maxRecDepth 10000 in
theorem c_Li_workIn {ν : Nu} {ι : Io} {ρ : Ro} {ℓ : Lo} {M : Io} {ρ0 : Ro} {N c9 w9 n9 z9 kn g9 : Nat} (hI : IV ν M ρ0 N c9 w9 n9 z9 kn g9) (hC : CuL M ι ρ0 ρ c9) {x9 : Int32} {z1 b9 n : Nat} {kx : Nat → Nat} {L2 : Ls → Ls} (hW : ∀ L0, B0 x9 L0 → WI9 M ι ρ c9 z1 kx b9 n (L2 L0)) (hn4 : n ≤ 4096) (hb : b9 ≤ 1000000) : Ct y_Li_workIn (Cond.code y_Li_workIn b_Li_workIn 5 (some .boolean) :: tb_) { frames := 2, cells := 0, slots := 0, locals := 55 } [sR 0 0 0] ν ι ρ ℓ (fun v ν1 ι1 ρ1 ℓ1 => ν = ν1 ∧ ρ = ρ1 ∧ ℓ = ℓ1 ∧ CuL M ι1 ρ0 ρ1 c9 ∧ ∃ b : Bool, some (sI (b2 (b = true))) = v ∧ (b = true → Eqx P31 ι ι1 ∧ (∀ L0, B0 x9 L0 → WI9 M ι1 ρ c9 z1 kx b9 n ((sq M 16 52 c9).foldl (wkT M c9) (L2 L0)))) ∧ (b = false → ∃ f ls j suf ι2, Eqx P31 ι ι2 ∧ ι1 = up4 (up4 (up4 ι2 0 0 0 15 f) 0 0 0 16 (nI (j / 16))) 0 0 0 17 (nI (j % 16)) ∧ sq M 16 52 c9 = ls ++ j :: suf ∧ f ≠ 0 ∧ ∀ L0, B0 x9 L0 → (ls.foldl (wkT M c9) (L2 L0)) 10 25 = 0 ∧ (ls.foldl (wkT M c9) (L2 L0)) 61 (slR M j) ≠ 0 ∧ ((mn M 45 (slR M j) < mn M 54 j + wd (mn M 55 j) ∧ f = 3) ∨ (¬ mn M 45 (slR M j) < mn M 54 j + wd (mn M 55 j) ∧ f = fltV (mn M 55 j) (sm M c9 (ls.foldl (wkT M c9) (L2 L0)) j) (ap M c9 (ls.foldl (wkT M c9) (L2 L0)) j))))) (noX) := by
  refine Ct.ofV (by decide) (Nat.le_of_ble_eq_true rfl) rfl ?_
  intro p l e s m args below meth c D B tW α0 Q C hQ
  have hO := hC.os hI.os
  have hc12 := hI.ic.2.2.1
  have loop : ∀ (f : Nat) (k : Nat) (ι1 : Io), c9 - k < f → k ≤ c9 → CuL M ι1 ρ0 ρ c9 → Eqx P31 ι ι1 → (∀ L0, B0 x9 L0 → WI9 M ι1 ρ c9 z1 kx b9 n ((sq M 16 52 k).foldl (wkT M c9) (L2 L0))) → V p l e { frames := 2, cells := 0, slots := 0, locals := 55 } s m args below meth c D B α0 ν 5 Q 0 0 ν ι1 ρ ℓ 2 [(1, sI (nI k)), (0, sR 0 0 0)] [] := by
    intro f
    induction f with
    | zero => intros; omega
    | succ f ih =>
      intro k ι1 hf hk0 hC1 heq1 hW1
      have hO1 := hC1.os hI.os
      refine V_iload_n C d_Li_workIn_2 rfl ?_
      refine V_aload_n C d_Li_workIn_3 rfl ?_
      refine V_getI (kx := 2) C d_Li_workIn_4 cf_Li (by decide) k_Li_48 (nn hO1.n0) rfl ?_
      refine V_eqi (y := nI c9) hC1.2.2 ?_
      refine V_icmp_ge (tgt := 81) C d_Li_workIn_7 (by decide) (fun h7 => ?_) (fun h7 => ?_)
      · have hk : k = c9 := by have := (nI_leI (a := c9) (b := k) (by omega) (by omega)).mp h7; omega
        subst hk
        refine V_iconst (v := 1) C d_Li_workIn_81 (by decide) ?_
        refine V_zret C hQ (by decide) (by decide) d_Li_workIn_82 rfl rfl ?_
        exact ⟨rfl, rfl, rfl, hC1, true, rfl, fun _ => ⟨heq1, hW1⟩, (fun z => nomatch z)⟩
      · have hk : k < c9 := Nat.lt_of_not_le fun z => h7 ((nI_leI (by omega) (by omega)).mpr z)
        obtain ⟨ho, h27, h26, hU1⟩ := hC1.un hI hk
        have h12 := hI.N12
        refine V_aload_n C d_Li_workIn_10 rfl ?_
        refine V_getR (kx := 0) C d_Li_workIn_11 cf_Li (by decide) k_Li_11 (nn hO1.n0) rfl hO1.r00 ?_
        refine V_aload_n C d_Li_workIn_14 rfl ?_
        refine V_getR (kx := 1) C d_Li_workIn_15 cf_Li (by decide) k_Li_17 (nn hO1.n0) rfl hO1.r01 ?_
        refine V_iload_n C d_Li_workIn_18 rfl ?_
        refine V_iald C d_Li_workIn_19 (by decide) rfl hO1.n27 rfl (by omega) rfl ?_
        refine V_eqi (y := nI (mn M 59 k)) h27 ?_
        refine V_aald C d_Li_workIn_20 (by decide) (by decide) rfl hO1.n26 rfl (by omega) rfl h26 ?_
        refine V_astore_n (lv' := [(2, _), (1, _), (0, _)]) C d_Li_workIn_21 (by decide) rfl ?_
        refine V_iconst (v := 0) C d_Li_workIn_22 (by decide) ?_
        refine V_istore_n (lv' := [(3, _), (2, _), (1, _), (0, _)]) C d_Li_workIn_23 (by decide) rfl ?_
        refine V_pick [0, 1, 2, 3] rfl ?_
        have inner : ∀ (f2 : Nat) (r : Nat) (ι1 : Io), (mn M 52 (mn M 59 k)) - r < f2 → r ≤ (mn M 52 (mn M 59 k)) → CuL M ι1 ρ0 ρ c9 → Eqx P31 ι ι1 → (∀ L0, B0 x9 L0 → WI9 M ι1 ρ c9 z1 kx b9 n ((sqP M 16 52 k r).foldl (wkT M c9) (L2 L0))) → V p l e { frames := 2, cells := 0, slots := 0, locals := 55 } s m args below meth c D B α0 ν 5 Q 0 0 ν ι1 ρ ℓ 24 [(3, sI (nI r)), (2, sR 8 (mn M 59 k) 0), (1, sI (nI k)), (0, sR 0 0 0)] [] := by
          intro f2
          induction f2 with
          | zero => intros; omega
          | succ f2 ihi =>
            intro r ι1 hf2 hr0 hC1 heq1 hW1
            have hO1 := hC1.os hI.os
            obtain ⟨ho, h27, h26, hU1⟩ := hC1.un hI hk
            have l16 := hU1.r16
            refine V_iload_n C d_Li_workIn_24 rfl ?_
            refine V_aload_n C d_Li_workIn_25 rfl ?_
            refine V_getI (kx := 5) C d_Li_workIn_26 cf_Un (by decide) k_Li_147 hU1.al rfl ?_
            refine V_eqi (y := nI (mn M 52 (mn M 59 k))) hU1.er ?_
            refine V_icmp_ge (tgt := 75) C d_Li_workIn_29 (by decide) (fun h29 => ?_) (fun h29 => ?_)
            · have hr : r = (mn M 52 (mn M 59 k)) := by have := (nI_leI (a := (mn M 52 (mn M 59 k))) (b := r) (by omega) (by omega)).mp h29; omega
              refine V_iinc (v := nI (k + 1)) (lv' := [(1, _), (3, _), (2, _), (0, _)]) C d_Li_workIn_75 rfl (nI_1 k) (by decide) rfl ?_
              refine V_goto (tgt := 2) C d_Li_workIn_78 (by decide) ?_
              refine V_pick [0, 3] rfl ?_
              exact ih (k + 1) ι1 (by omega) (by omega) hC1 heq1 (by rw [sq_s, ← hr]; exact hW1)
            · have hr : r < (mn M 52 (mn M 59 k)) := Nat.lt_of_not_le fun z => h29 ((nI_leI (by omega) (by omega)).mpr z)
              have hT1 := (hW1 (LZ x9) LZ.b).1.1
              have hcv := (hI.cv ho).2.2 r hr
              have hdo := (hI.dd ho).2 r hr
              have e53 : ι1 6 (mn M 59 k) r 0 = nI (mn M 53 (16 * mn M 59 k + r)) := ((hC1.1 6 _ _ _ (by unfold isCl; omega)).trans hcv.1).trans (hI.bd.b53.eq (by omega))
              have e56 : ι1 6 (mn M 59 k) r 3 = nI (mn M 56 (16 * mn M 59 k + r)) := ((hC1.1 6 _ _ _ (by unfold isCl; omega)).trans hcv.2.2.2.1).trans (hI.bd.b56.eq (by omega))
              have l53 := hI.bd.b53.le (t := (16 * mn M 59 k + r)) (by omega)
              have hin : 12 * mn M 59 k + mn M 56 (16 * mn M 59 k + r) ∈ (sq M 12 47 c9) := sq_mem hk hdo.2
              have hjn : (16 * mn M 59 k + r) ∈ sq M 16 52 c9 := sq_mem hk hr
              obtain ⟨p1, p2, p3⟩ := hT1.2.2.1 _ hin
              have hnu : nuR M (16 * mn M 59 k + r) = M 48 0 0 (12 * mn M 59 k + mn M 56 (16 * mn M 59 k + r)) := by unfold nuR; rw [show (16 * mn M 59 k + r) / 16 = mn M 59 k by omega]
              have hsl : slR M (16 * mn M 59 k + r) = 8 * mn M 59 k + mn M 53 (16 * mn M 59 k + r) := by unfold slR; rw [show (16 * mn M 59 k + r) / 16 = mn M 59 k by omega]
              have hdv : (16 * mn M 59 k + r) / 16 = mn M 59 k := by omega
              have hmd : (16 * mn M 59 k + r) % 16 = r := by omega
              obtain ⟨suf, hsp⟩ := sq_split (m := 16) (fld := 52) hk hr
              have hT1 := (hW1 (LZ x9) LZ.b).1.1
              have hs96 := hI.sl hjn
              have hin2 : 12 * ((16 * mn M 59 k + r) / 16) + mn M 56 (16 * mn M 59 k + r) ∈ (sq M 12 47 c9) := by rw [hdv]; exact hin
              have hat : ¬ ι1 28 0 0 (slR M (16 * mn M 59 k + r)) = 0 → ¬ mn M 45 (slR M (16 * mn M 59 k + r)) < mn M 54 (16 * mn M 59 k + r) + wd (mn M 55 (16 * mn M 59 k + r)) → ∃ a, oC M ι1 (16 * mn M 59 k + r) - ι1 0 0 0 9 = nI a ∧ a + wd (mn M 55 (16 * mn M 59 k + r)) ≤ 4096 := fun g1 g2 => by
                obtain ⟨w1, w2, w3, w4, w5⟩ := hW1 (LZ x9) LZ.b
                rw [w1.2.1.2.2.2.2.2.2 _ hs96] at g1
                obtain ⟨a, a1, a2⟩ := wk_at (j := (16 * mn M 59 k + r)) w1 w2 (by omega) w3 hn4 hs96 g1 g2 (hI.bd.b54.eq (by omega))
                exact ⟨a, a1, by omega⟩
              refine V_aload_n C d_Li_workIn_32 rfl ?_
              refine V_aload_n C d_Li_workIn_33 rfl ?_
              refine V_getR (kx := 1) C d_Li_workIn_34 cf_Li (by decide) k_Li_17 (nn hO1.n0) rfl hO1.r01 ?_
              refine V_iload_n C d_Li_workIn_37 rfl ?_
              refine V_iald C d_Li_workIn_38 (by decide) rfl hO1.n27 rfl (by omega) rfl ?_
              refine V_eqi (y := nI (mn M 59 k)) h27 ?_
              refine V_aload_n C d_Li_workIn_39 rfl ?_
              refine V_getR (kx := 4) C d_Li_workIn_40 cf_Un (by decide) k_Li_150 hU1.al rfl hU1.r4 ?_
              refine V_iload_n C d_Li_workIn_43 rfl ?_
              refine V_aald C d_Li_workIn_44 (by decide) (by decide) rfl hU1.n4 rfl (by omega) rfl (hU1.rf hr).2 ?_
              refine V_callV (as := [_, _]) C d_Li_workIn_45 (c_Li_workInOne hI hC1 hT1 hk rfl hr hat) m_Li_workInOne cf_Li k_Li_220 (nn hO1.n0) ⟨by decide, by decide⟩ (Nat.le_of_ble_eq_true rfl) ⟨by decide, by decide⟩ rfl ?_
              rintro _ _ _ _ _ ⟨rfl, rfl, rfl, rfl, rfl⟩
              dsimp only [Option.toList, List.cons_append, List.nil_append]
              have hC2 : CuL M (iC M ι1 kx (16 * mn M 59 k + r)) ρ0 ρ c9 := hC1.eqx iC_x (fun _ _ => p31_c) LFq.rf
              have hO2 := hC2.os hI.os
              have h272 := (hC2.un hI hk).2.1
              refine V_istore (lv' := [(4, _), (3, _), (2, _), (1, _), (0, _)]) C d_Li_workIn_48 (by decide) rfl ?_
              refine V_iload C d_Li_workIn_50 rfl ?_
              refine V_if_eq (tgt := 69) C d_Li_workIn_52 (by decide) (fun h52 => ?_) (fun h52 => ?_)
              · refine V_iinc (v := nI (r + 1)) (lv' := [(3, _), (4, _), (2, _), (1, _), (0, _)]) C d_Li_workIn_69 rfl (nI_1 r) (by decide) rfl ?_
                refine V_goto (tgt := 24) C d_Li_workIn_72 (by decide) ?_
                refine V_pick [0, 2, 3, 4] rfl ?_
                exact ihi (r + 1) _ (by omega) (by omega) hC2 (heq1.tr iC_x) (fun L0 h0 => by rw [sqP_s, List.foldl_append]; exact (hW1 L0 h0).st hI.nb hI.rc hin2 hs96 h52)
              · refine V_aload_n C d_Li_workIn_55 rfl ?_
                refine V_iload C d_Li_workIn_56 rfl ?_
                refine V_aload_n C d_Li_workIn_58 rfl ?_
                refine V_getR (kx := 1) C d_Li_workIn_59 cf_Li (by decide) k_Li_17 (nn hO1.n0) rfl hO1.r01 ?_
                refine V_iload_n C d_Li_workIn_62 rfl ?_
                refine V_iald C d_Li_workIn_63 (by decide) rfl hO2.n27 rfl (by omega) rfl ?_
                refine V_eqi (y := nI (mn M 59 k)) h272 ?_
                refine V_iload_n C d_Li_workIn_64 rfl ?_
                refine V_callV (as := [_, _, _]) C d_Li_workIn_65 (c_Li_tell hO2) m_Li_tell cf_Li k_Li_103 (nn hO1.n0) ⟨by decide, by decide⟩ (Nat.le_of_ble_eq_true rfl) ⟨by decide, by decide⟩ rfl ?_
                rintro _ _ _ _ _ ⟨rfl, rfl, rfl, rfl, rfl⟩
                dsimp only [Option.toList, List.cons_append, List.nil_append]
                refine V_zret C hQ (by decide) (by decide) d_Li_workIn_68 rfl rfl ?_
                refine ⟨rfl, rfl, rfl, ((hC2.up (Or.inl rfl) (by omega)).up (Or.inl rfl) (by omega)).up (Or.inl rfl) (by omega), false, rfl, (fun z => nomatch z), fun _ => ⟨_, _, _, suf, _, heq1.tr iC_x, by rw [hdv, hmd], hsp, h52, fun L0 h0 => ?_⟩⟩
                obtain ⟨w1, w2, w3, w4, w5⟩ := hW1 L0 h0
                have q := (wk_step (n := n) (b := b9) (N := 0) w1 hI.nb hI.rc hin2 hs96 w4.1 w5).2 h52
                exact ⟨w4.1, q.2.1, q.2.2⟩
        exact inner ((mn M 52 (mn M 59 k)) + 1) 0 ι1 (by omega) (by omega) hC1 heq1 (by rw [sqP_0]; exact hW1)
  refine V_iconst (v := 0) C d_Li_workIn_0 (by decide) ?_
  refine V_istore_n (lv' := [(1, _), (0, _)]) C d_Li_workIn_1 (by decide) rfl ?_
  refine V_pick [0, 1] rfl ?_
  exact loop (c9 + 1) 0 ι (by omega) (by omega) hC Eqx.rf hW
abbrev drI (ι : Io) : Io := up4 (up4 (up4 (up4 ι 0 0 0 11 0) 0 0 0 12 0) 0 0 0 13 0) 0 0 0 14 0
abbrev tlI (ι : Io) (x y v : Int32) : Io := up4 (up4 (up4 ι 0 0 0 15 x) 0 0 0 16 y) 0 0 0 17 v
abbrev fgI (ι : Io) : Io := up4 (up4 (up4 (tlI (drI ι) 0 (-1) (-1)) 3 0 0 1 0) 3 0 0 4 0) 0 0 0 6 0
theorem fil28 {ι : Io} {n : Nat} : up4 (filG ι 28 0 0 0 n (fun _ => 0)) 28 0 0 n 0 = filG ι 28 0 0 0 (n + 1) (fun _ => 0) := by
  have h := filG_s (ι := ι) (r := 28) (i0 := 0) (j0 := 0) (a := 0) (n := n) (g := fun _ => 0) (x := 0) rfl
  rw [Nat.zero_add] at h
  exact h
set_option maxHeartbeats 1000000 in
set_option maxRecDepth 10000 in
theorem c_Li_forget {ν : Nu} {ι : Io} {ρ : Ro} {ℓ : Lo} (hO : OS ν ρ) : Ct y_Li_forget (Cond.code y_Li_forget b_Li_forget 2 none :: tb_) { frames := 1, cells := 0, slots := 0, locals := 23 } [sR 0 0 0] ν ι ρ ℓ (pEq none ν (filG (fgI ι) 28 0 0 0 96 (fun _ => 0)) ρ ℓ) (noX) := by
  refine Ct.ofV (by decide) (Nat.le_of_ble_eq_true rfl) rfl ?_
  intro p l e s m args below meth c D B tW α0 Q C hQ
  have loop : ∀ (f : Nat) (i : Nat), 96 - i < f → (i ≤ 96) → V p l e { frames := 1, cells := 0, slots := 0, locals := 23 } s m args below meth c D B α0 ν 2 Q 0 0 ν (filG (fgI ι) 28 0 0 0 i (fun _ => 0)) ρ ℓ 26 [(1, sI (nI i)), (0, sR 0 0 0)] [] := by
    intro f
    induction f with
    | zero => intros; omega
    | succ f ih =>
      intro i hf hi0
      refine V_iload_n C d_Li_forget_26 rfl ?_
      refine V_bipush (v := 96) C d_Li_forget_27 (by decide) ?_
      refine V_icmp_ge (tgt := 45) C d_Li_forget_29 (by decide) (fun h29 => ?_) (fun h29 => ?_)
      · have hi : i = 96 := by have := (nI_leI (a := 96) (b := i) (by omega) (by omega)).mp h29; omega
        subst hi
        refine V_vret C hQ (by decide) (by decide) d_Li_forget_45 rfl ?_
        exact ⟨rfl, rfl, rfl, rfl, rfl⟩
      · have hi : i < 96 := Nat.lt_of_not_le fun z => h29 ((nI_leI (a := 96) (by omega) (by omega)).mpr z)
        refine V_aload_n C d_Li_forget_32 rfl ?_
        refine V_getR (kx := 4) C d_Li_forget_33 cf_Li (by decide) k_Li_28 (nn hO.n0) rfl hO.r04 ?_
        refine V_iload_n C d_Li_forget_36 rfl ?_
        refine V_iconst (v := 0) C d_Li_forget_37 (by decide) ?_
        refine V_zast C d_Li_forget_38 (by decide) rfl hO.n28 rfl (by omega) rfl rfl ?_
        refine V_iinc (v := nI (i + 1)) (lv' := [(1, _), (0, _)]) C d_Li_forget_39 rfl (nI_1 i) (by decide) rfl ?_
        refine V_goto (tgt := 26) C d_Li_forget_42 (by decide) ?_
        refine V_pick [0, 1] rfl ?_
        refine V_io fil28 ?_
        exact ih (i + 1) (by omega) (by omega)
  refine V_aload_n C d_Li_forget_0 rfl ?_
  refine V_callV (as := []) C d_Li_forget_1 (c_Li_dropImage hO) m_Li_dropImage cf_Li k_Li_100 (nn hO.n0) ⟨by decide, by decide⟩ (Nat.le_of_ble_eq_true rfl) ⟨by decide, by decide⟩ rfl ?_
  rintro _ _ _ _ _ ⟨rfl, rfl, rfl, rfl, rfl⟩
  dsimp only [Option.toList, List.cons_append, List.nil_append]
  refine V_aload_n C d_Li_forget_4 rfl ?_
  refine V_iconst (v := 0) C d_Li_forget_5 (by decide) ?_
  refine V_iconst (v := (-1)) C d_Li_forget_6 (by decide) ?_
  refine V_iconst (v := (-1)) C d_Li_forget_7 (by decide) ?_
  refine V_callV (as := [_, _, _]) C d_Li_forget_8 (c_Li_tell hO) m_Li_tell cf_Li k_Li_103 (nn hO.n0) ⟨by decide, by decide⟩ (Nat.le_of_ble_eq_true rfl) ⟨by decide, by decide⟩ rfl ?_
  rintro _ _ _ _ _ ⟨rfl, rfl, rfl, rfl, rfl⟩
  dsimp only [Option.toList, List.cons_append, List.nil_append]
  refine V_pop C d_Li_forget_11 rfl ?_
  refine V_aload_n C d_Li_forget_12 rfl ?_
  refine V_getR (kx := 3) C d_Li_forget_13 cf_Li (by decide) k_Li_24 (nn hO.n0) rfl hO.r03 ?_
  refine V_callV (as := []) C d_Li_forget_16 (c_NT_clear hO) m_NT_clear cf_NT k_Li_107 (nn hO.n3) ⟨by decide, by decide⟩ (Nat.le_of_ble_eq_true rfl) ⟨by decide, by decide⟩ rfl ?_
  rintro _ _ _ _ _ ⟨rfl, rfl, rfl, rfl, rfl⟩
  dsimp only [Option.toList, List.cons_append, List.nil_append]
  refine V_aload_n C d_Li_forget_19 rfl ?_
  refine V_iconst (v := 0) C d_Li_forget_20 (by decide) ?_
  refine V_putI (kx := 6) C d_Li_forget_21 cf_Li (by decide) k_Li_110 (nn hO.n0) rfl rfl rfl rfl ?_
  refine V_iconst (v := 0) C d_Li_forget_24 (by decide) ?_
  refine V_istore_n (lv' := [(1, _), (0, _)]) C d_Li_forget_25 (by decide) rfl ?_
  refine V_pick [0, 1] rfl ?_
  refine V_io (filG_0 (r := 28) (i0 := 0) (j0 := 0) (a := 0) (g := fun _ => 0)).symm ?_
  exact loop 97 0 (by omega) (by omega)
