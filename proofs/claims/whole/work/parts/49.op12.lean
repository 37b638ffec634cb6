theorem fgB {ι : Io} {b : Int32} : ∀ r i j k, ¬ isCl r → (up4 (filG (fgI ι) 28 0 0 0 96 (fun _ => 0)) 0 0 0 9 b) r i j k = ι r i j k := fun r i j k h => by
  unfold isCl at h
  rw [up4_ne (by omega), filG_ne (by omega)]
  simp (disch := omega) only [up4_ne]
theorem fg0 {ι : Io} {b : Int32} {k : Nat} : (up4 (filG (fgI ι) 28 0 0 0 96 (fun _ => 0)) 0 0 0 9 b) 0 0 0 k = if k = 9 then b else if k = 6 ∨ k = 11 ∨ k = 12 ∨ k = 13 ∨ k = 14 ∨ k = 15 then 0 else if k = 16 ∨ k = 17 then -1 else ι 0 0 0 k := by
  by_cases h9 : k = 9
  · rw [if_pos h9, h9, up4_s]
  · rw [if_neg h9, up4_ne (by omega), filG_ne (by omega)]
    unfold fgI tlI drI up4
    by_cases h1 : k = 6 ∨ k = 11 ∨ k = 12 ∨ k = 13 ∨ k = 14 ∨ k = 15
    · rw [if_pos h1]
      rcases h1 with rfl | rfl | rfl | rfl | rfl | rfl <;> rfl
    · rw [if_neg h1]
      by_cases h2 : k = 16 ∨ k = 17
      · rw [if_pos h2]
        rcases h2 with rfl | rfl <;> rfl
      · rw [if_neg h2]
        simp only [true_and]
        rw [if_neg (by omega), if_neg (by omega), if_neg (by omega), if_neg (by omega), if_neg (by omega), if_neg (by omega), if_neg (by omega), if_neg (by omega), if_neg (by omega), if_neg (by omega)]
/-- a fault of a linking: what the class tells is what the reference tells -/
def FX (M ι : Io) (c : Nat) (en x : Int32) : Prop := ∀ L0 Lf, B0 x L0 → LR M c en L0 Lf → ∃ Lx, Lf = noL (up2 Lx 10 28 0) ∧ ι 0 0 0 15 = Lx 10 25 ∧ ι 0 0 0 16 = Lx 10 26 ∧ ι 0 0 0 17 = Lx 10 27
theorem tl_z {ι : Io} {x y v : Int32} {z : Nat} (h : TZ ι z) : TZ (tlI ι x y v) z := h.cg (fun a f => Or.inl (by unfold tlI; rw [up4_ne (by omega), up4_ne (by omega), up4_ne (by omega)])) (by unfold tlI; rw [up4_ne (by omega), up4_ne (by omega), up4_ne (by omega)])
theorem tl_15 {ι : Io} {x y v : Int32} : tlI ι x y v 0 0 0 15 = x ∧ tlI ι x y v 0 0 0 16 = y ∧ tlI ι x y v 0 0 0 17 = v := by
  unfold tlI
  refine ⟨?_, ?_, ?_⟩ <;> simp (disch := omega) only [up4_ne, up4_s]
theorem mkB {M ι : Io} {c : Nat} {kx : Nat → Nat} {L : Ls} {x : Int32} (h : B0 x L) : B0 x (mkL M ι c kx L) := by
  unfold B0 at *
  rw [mk10, mk10, mk10, mk10]
  exact h
theorem mk61 {M ι : Io} {c s : Nat} {kx : Nat → Nat} {L : Ls} (h : s < 96) : mkL M ι c kx L 61 s = ι 28 0 0 s := if_pos ⟨rfl, h⟩
theorem oe_e {M : Io} {c : Nat} {L : Ls} : ∀ r k, r ≠ 73 → ¬ (r = 10 ∧ (k = 25 ∨ k = 26 ∨ k = 27 ∨ k = 29)) → copL M (oeL M c L) r k = orL M c L r k := fun r k h1 h2 => by
  rw [cop_e.1 r k h1]
  exact up2_ne (by omega)
theorem oe_25 {M : Io} {c k : Nat} {L : Ls} (hk : k = 25 ∨ k = 26 ∨ k = 27) : copL M (oeL M c L) 10 k = L 10 k := by
  rw [cop_e.1 10 k (by decide)]
  unfold oeL
  rw [up2_ne (by omega), or_10 (by omega)]
set_option maxHeartbeats 1000000 in
set_option maxRecDepth 10000 in
theorem c_Li_makeImage {ν : Nu} {ι : Io} {ρ : Ro} {ℓ : Lo} {N c9 w9 n9 z9 kn g9 b9 : Nat} (hI : IV ν ι ρ N c9 w9 n9 z9 kn g9) {en : Int32} (hb : b9 ≤ 1000000) : Ct y_Li_makeImage (Cond.code y_Li_makeImage b_Li_makeImage 3 (some .boolean) :: tb_) { frames := 5, cells := 0, slots := 0, locals := 131 } [sR 0 0 0, sI en, sI (nI b9)] ν ι ρ ℓ (fun v ν1 ι1 ρ1 ℓ1 => ν = ν1 ∧ ℓ = ℓ1 ∧ LFr ι ι1 ∧ LFq ρ ρ1 ∧ ι1 0 0 0 2 = 0 ∧ ∃ b : Bool, some (sI (b2 (b = true))) = v ∧ ∀ L0 Lf, B0 (nI b9) L0 → LR ι c9 en L0 Lf → PA ι1 Lf ∧ Lf 10 28 = b2 (b = true)) (noX) := by
  refine Ct.ofV (by decide) (Nat.le_of_ble_eq_true rfl) rfl ?_
  intro p l e s m args below meth c D B tW α0 Q C hQ
  have hO := hI.os
  have tail0 : ∀ (ι1 : Io) (ρ1 : Ro) (z1 : Nat), CuL ι ι1 ρ ρ1 c9 → TZ ι1 z1 → FX ι ι1 c9 en (nI b9) → V p l e { frames := 5, cells := 0, slots := 0, locals := 131 } s m args below meth c D B α0 ν 3 Q 0 0 ν ι1 ρ1 ℓ 50 [(0, sR 0 0 0), (1, sI en), (2, sI (nI b9))] [sR 0 0 0] := by
    intro ι1 ρ1 z1 hC1 hZ hX
    have hO1 := hC1.os hI.os
    refine V_iconst (v := 0) C d_Li_makeImage_50 (by decide) ?_
    refine V_putI (kx := 8) C d_Li_makeImage_51 cf_Li (by decide) k_Li_51 (nn hO1.n0) rfl rfl rfl rfl ?_
    refine V_aload_n C d_Li_makeImage_54 rfl ?_
    refine V_getI (kx := 8) C d_Li_makeImage_55 cf_Li (by decide) k_Li_51 (nn hO1.n0) rfl ?_
    refine V_eqi (y := 0) up4_s ?_
    refine V_if_ne (tgt := 65) C d_Li_makeImage_58 (by decide) (fun h58 => absurd rfl h58) (fun h58 => ?_)
    refine V_aload_n C d_Li_makeImage_61 rfl ?_
    refine V_callV (as := []) C d_Li_makeImage_62 (c_Li_dropImage hO1) m_Li_dropImage cf_Li k_Li_100 (nn hO1.n0) ⟨by decide, by decide⟩ (Nat.le_of_ble_eq_true rfl) ⟨by decide, by decide⟩ rfl ?_
    rintro _ _ _ _ _ ⟨rfl, rfl, rfl, rfl, rfl⟩
    dsimp only [Option.toList, List.cons_append, List.nil_append]
    refine V_aload_n C d_Li_makeImage_65 rfl ?_
    refine V_iconst (v := 0) C d_Li_makeImage_66 (by decide) ?_
    refine V_putI (kx := 2) C d_Li_makeImage_67 cf_Li (by decide) k_Li_48 (nn hO1.n0) rfl rfl rfl rfl ?_
    refine V_aload_n C d_Li_makeImage_70 rfl ?_
    refine V_getI (kx := 8) C d_Li_makeImage_71 cf_Li (by decide) k_Li_51 (nn hO1.n0) rfl ?_
    refine V_eqi (y := 0) (by simp (disch := omega) only [up4_ne, up4_s]) ?_
    refine V_zret C hQ (by decide) (by decide) d_Li_makeImage_74 rfl rfl ?_
    refine ⟨rfl, rfl, fun r i j k h => ?_, hC1.2.1, up4_s, false, rfl, fun L0 Lf h0 hl => ?_⟩
    · rw [← hC1.1 r i j k h]
      unfold isCl at h
      simp (disch := omega) only [up4_ne, up4_s]
    · obtain ⟨Lx, q1, q2, q3, q4⟩ := hX L0 Lf h0 hl
      obtain ⟨g1, g2, g3⟩ := hZ
      refine PA.flt (z := z1) (Lx := Lx) ?_ ?_ ?_ ?_ ?_ ?_ g2 (fun k hk => ?_) ?_ ?_ ?_ q1
      · simp (disch := omega) only [up4_ne, up4_s]
      · simp (disch := omega) only [up4_ne, up4_s]
      · simp (disch := omega) only [up4_ne, up4_s]
      · simp (disch := omega) only [up4_ne, up4_s]
      · simp (disch := omega) only [up4_ne, up4_s]
      · simp (disch := omega) only [up4_ne, up4_s]; exact g1
      · simp (disch := omega) only [up4_ne, up4_s]; exact g3 k hk
      · simp (disch := omega) only [up4_ne, up4_s]; exact q2
      · simp (disch := omega) only [up4_ne, up4_s]; exact q3
      · simp (disch := omega) only [up4_ne, up4_s]; exact q4
  have hC0 : CuL ι (up4 (filG (fgI ι) 28 0 0 0 96 (fun _ => 0)) 0 0 0 9 (nI b9)) ρ ρ c9 := ⟨fgB, LFq.rf, by rw [fg0]; exact hI.ic.1⟩
  have h31 : (up4 (filG (fgI ι) 28 0 0 0 96 (fun _ => 0)) 0 0 0 9 (nI b9)) 3 0 0 1 = 0 := by rw [up4_ne (by omega), filG_ne (by omega)]; simp (disch := omega) only [up4_ne, up4_s]
  have h34 : (up4 (filG (fgI ι) 28 0 0 0 96 (fun _ => 0)) 0 0 0 9 (nI b9)) 3 0 0 4 = 0 := by rw [up4_ne (by omega), filG_ne (by omega)]; simp (disch := omega) only [up4_ne, up4_s]
  refine V_aload_n C d_Li_makeImage_0 rfl ?_
  refine V_callV (as := []) C d_Li_makeImage_1 (c_Li_forget hO) m_Li_forget cf_Li k_Li_80 (nn hO.n0) ⟨by decide, by decide⟩ (Nat.le_of_ble_eq_true rfl) ⟨by decide, by decide⟩ rfl ?_
  rintro _ _ _ _ _ ⟨rfl, rfl, rfl, rfl, rfl⟩
  dsimp only [Option.toList, List.cons_append, List.nil_append]
  refine V_aload_n C d_Li_makeImage_4 rfl ?_
  refine V_iload_n C d_Li_makeImage_5 rfl ?_
  refine V_putI (kx := 9) C d_Li_makeImage_6 cf_Li (by decide) k_Li_55 (nn hO.n0) rfl rfl rfl rfl ?_
  refine V_aload_n C d_Li_makeImage_9 rfl ?_
  refine V_aload_n C d_Li_makeImage_10 rfl ?_
  refine V_callV (as := []) C d_Li_makeImage_11 (c_Li_gatherNames (M := ι) (ρ0 := ρ) hI hC0 h31 h34) m_Li_gatherNames cf_Li k_Li_83 (nn hO.n0) ⟨by decide, by decide⟩ (Nat.le_of_ble_eq_true rfl) ⟨by decide, by decide⟩ rfl ?_
  rintro _ _ ι2 ρ2 _ ⟨rfl, rfl, hC2, b1, rfl, hs1, hf1⟩
  dsimp only [Option.toList, List.cons_append, List.nil_append]
  refine V_if_eq (tgt := 50) C d_Li_makeImage_14 (by decide) (fun h14 => ?_) (fun h14 => ?_)
  · obtain ⟨heq2, ⟨ls, i, suf, e1, e2, e3, f15, f16, f17⟩, z1, hZ⟩ := hf1 (b2f h14)
    have hX : FX ι ι2 c9 en (nI b9) := fun L0 Lf h0 hl => by
      obtain ⟨Lx, q1, q2, q3, q4⟩ := ex_db hl h0 e1 e2 e3
      exact ⟨Lx, q1, f15.trans q2.symm, f16.trans q3.symm, f17.trans q4.symm⟩
    have hg9 := tail0 _ _ z1 hC2 hZ hX
    refine V_pick [0, 1, 2] rfl ?_
    exact hg9
  · obtain ⟨hnd, heq2, z1, kx, hT2⟩ := hs1 (b2t h14)
    have hT3 := hT2.t3
    have hlen : (sq ι 12 47 c9).length ≤ 144 := hI.lk.nl
    have p0 : ∀ k, ι2 0 0 0 k = (up4 (filG (fgI ι) 28 0 0 0 96 (fun _ => 0)) 0 0 0 9 (nI b9)) 0 0 0 k := fun k => heq2 0 0 0 k (by unfold P13; omega)
    have hR0 : RQ ι ι2 c9 z1 en 0 (fun _ => 0) := ⟨by rw [p0, fg0]; rfl, fun t ht => absurd ht (by omega), fun s hs => Or.inl (by rw [heq2 28 0 0 s (by unfold P13; omega), up4_ne (by omega), filG_in (by omega)]), fun t _ ht => absurd ht (by omega), fun k hk => Or.inl (hT2.2.2.2.2.2.1 k hk).2.2.2.1⟩
    have hO2 := hC2.os hI.os
    refine V_aload_n C d_Li_makeImage_17 rfl ?_
    refine V_iload_n C d_Li_makeImage_18 rfl ?_
    refine V_callV (as := [_]) C d_Li_makeImage_19 (c_Li_reachFrom (M := ι) (ρ0 := ρ) (kx := kx) hI hC2 hT3 hR0) m_Li_reachFrom cf_Li k_Li_87 (nn hO2.n0) ⟨by decide, by decide⟩ (Nat.le_of_ble_eq_true rfl) ⟨by decide, by decide⟩ rfl ?_
    rintro _ _ ι3 _ _ ⟨rfl, rfl, rfl, hC3, b2_, rfl, hs2, hf2⟩
    dsimp only [Option.toList, List.cons_append, List.nil_append]
    refine V_if_eq (tgt := 50) C d_Li_makeImage_22 (by decide) (fun h22 => ?_) (fun h22 => ?_)
    · obtain ⟨hme, rfl⟩ := hf2 (b2f h22)
      have hX : FX ι (tlI ι2 2 (-1) en) c9 en (nI b9) := fun L0 Lf h0 hl => by
        obtain ⟨Lx, q1, q2, q3, q4⟩ := ex_en hl h0 hnd hme
        exact ⟨Lx, q1, tl_15.1.trans q2.symm, tl_15.2.1.trans q3.symm, tl_15.2.2.trans q4.symm⟩
      have hg9 := tail0 _ _ z1 hC3 (tl_z (hT3.tz (fun _ h => h) hlen hI.rc)) hX
      refine V_pick [0, 1, 2] rfl ?_
      exact hg9
    · obtain ⟨hme, heq3, hT4, q9, qs, hR3, hMx, hcl⟩ := hs2 (b2t h22)
      have hRd : ∀ L0, Rd ι c9 en (mkL ι ι3 c9 kx L0) := fun L0 => hR3.rd hT4 hI.nb hI.rc hMx hcl
      have p3 : ∀ k, k ≠ 6 → ι3 0 0 0 k = (up4 (filG (fgI ι) 28 0 0 0 96 (fun _ => 0)) 0 0 0 9 (nI b9)) 0 0 0 k := fun k hk => (heq3 0 0 0 k (by unfold Prr; omega)).trans (p0 k)
      have hlr : ∀ L0 Lf, B0 (nI b9) L0 → LR ι c9 en L0 Lf → LR2 ι c9 ((sq ι 16 52 c9).foldl (miS ι c9) (mkL ι ι3 c9 kx L0)) Lf := fun L0 Lf h0 hl => lr_2 hl h0 hI.nb hI.rc hnd hme (hRd L0)
      have hO3 := hC3.os hI.os
      refine V_aload_n C d_Li_makeImage_25 rfl ?_
      refine V_callV (as := []) C d_Li_makeImage_26 (c_Li_nothingIsMissing hI hC3 hT4) m_Li_nothingIsMissing cf_Li k_Li_91 (nn hO3.n0) ⟨by decide, by decide⟩ (Nat.le_of_ble_eq_true rfl) ⟨by decide, by decide⟩ rfl ?_
      rintro _ _ ι4 _ _ ⟨rfl, rfl, rfl, b3, rfl, hs3, hf3⟩
      dsimp only [Option.toList, List.cons_append, List.nil_append]
      refine V_if_eq (tgt := 50) C d_Li_makeImage_29 (by decide) (fun h29 => ?_) (fun h29 => ?_)
      · obtain ⟨ls, j, suf, e1, e2, e3, rfl⟩ := hf3 (b2f h29)
        have hjin : ∀ j9, j9 ∈ sq ι 16 52 c9 → ∀ L0, mkL ι ι3 c9 kx L0 61 (slR ι j9) = ι3 28 0 0 (slR ι j9) := fun j9 h L0 => mk61 (hI.sl h)
        have hX : FX ι (tlI ι3 2 (nI (j / 16)) (nI (j % 16))) c9 en (nI b9) := fun L0 Lf h0 hl => by
          obtain ⟨Lx, q1, q2, q3, q4⟩ := ex_mi (ι := ι3) (hlr L0 Lf h0 hl) (mkB h0) e1 (fun j9 hj9 => by rw [hjin j9 (by rw [e1]; exact List.mem_append_left _ hj9)]; exact e2 j9 hj9) (by rw [hjin j (by rw [e1]; simp)]; exact e3)
          exact ⟨Lx, q1, tl_15.1.trans q2.symm, tl_15.2.1.trans q3.symm, tl_15.2.2.trans q4.symm⟩
        have hg9 := tail0 _ _ z1 (((hC3.up (Or.inl rfl) (by omega)).up (Or.inl rfl) (by omega)).up (Or.inl rfl) (by omega)) (tl_z (hT4.tz (fun _ h => h) hlen hI.rc)) hX
        refine V_pick [0, 1, 2] rfl ?_
        exact hg9
      · obtain ⟨hi4, hnm⟩ := hs3 (b2t h29)
        have hi5 := hi4.symm
        subst hi5
        have hlr3 : ∀ L0 Lf, B0 (nI b9) L0 → LR ι c9 en L0 Lf → LR3 ι c9 (ordL ι c9 (mkL ι ι3 c9 kx L0)) Lf := fun L0 Lf h0 hl => lr_3 (hlr L0 Lf h0 hl) (mkB h0) (fun j hj => by rw [mk61 (hI.sl hj)]; exact hnm j hj)
        have hA : ∀ k, k < z1 → ι3 1 k 0 7 = -1 := fun k hk => (heq3 1 k 0 7 (by unfold Prr; omega)).trans (hT2.2.2.2.2.2.1 k hk).2.2.2.2
        refine V_aload_n C d_Li_makeImage_32 rfl ?_
        refine V_callV (as := []) C d_Li_makeImage_33 (c_Li_layOut hI hC3 hT4 rfl hb hR3 (fun L0 _ => hRd L0) (by rw [p3 9 (by decide), fg0]; rfl) (by rw [p3 11 (by decide), fg0]; rfl) (by rw [p3 12 (by decide), fg0]; rfl) (by rw [p3 13 (by decide), fg0]; rfl) (by rw [p3 14 (by decide), fg0]; rfl) hA) m_Li_layOut cf_Li k_Li_94 (nn hO3.n0) ⟨by decide, by decide⟩ (Nat.le_of_ble_eq_true rfl) ⟨by decide, by decide⟩ rfl ?_
        rintro _ _ ι5 _ _ ⟨rfl, rfl, rfl, hC5, b4, rfl, hs4, hf4⟩
        dsimp only [Option.toList, List.cons_append, List.nil_append]
        refine V_if_eq (tgt := 50) C d_Li_makeImage_36 (by decide) (fun h36 => ?_) (fun h36 => ?_)
        · obtain ⟨⟨ι6, heq6, rfl⟩, hlo⟩ := hf4 (b2f h36)
          have hX : FX ι (tlI ι6 6 (-1) (-1)) c9 en (nI b9) := fun L0 Lf h0 hl => by
            obtain ⟨Lx, q1, q2, q3, q4⟩ := ex_lo (hlr3 L0 Lf h0 hl) (mkB h0) (hlo L0 h0)
            exact ⟨Lx, q1, tl_15.1.trans q2.symm, tl_15.2.1.trans q3.symm, tl_15.2.2.trans q4.symm⟩
          have hg9 := tail0 _ _ z1 hC5 (tl_z ((hT4.el heq6).tz (fun _ h => h) hlen hI.rc)) hX
          refine V_pick [0, 1, 2] rfl ?_
          exact hg9
        · obtain ⟨heq5, n, hn4, h11n, hF5⟩ := hs4 (b2t h36)
          have hO5 := hC5.os hI.os
          have hW : ∀ L0, B0 (nI b9) L0 → WI9 ι ι5 ρ2 c9 z1 kx b9 n (copL ι (oeL ι c9 (mkL ι ι3 c9 kx L0))) := fun L0 h0 => by
            obtain ⟨g1, g2, g3, g4⟩ := hF5 L0 h0
            refine ⟨g1.cgL oe_e, g2.cgL oe_e, ?_, ⟨?_, ?_, ?_⟩, g4⟩
            · rw [oe_e 10 41 (by decide) (by omega), oe_e 10 20 (by decide) (by omega)]
              exact g3
            · rw [oe_25 (by omega), mk10]
              exact h0.2.1
            · rw [oe_25 (by omega), mk10]
              exact h0.2.2.1
            · rw [oe_25 (by omega), mk10]
              exact h0.2.2.2
          have hnl : ∀ L0, B0 (nI b9) L0 → ¬ 4096 < orL ι c9 (mkL ι ι3 c9 kx L0) 10 41 - orL ι c9 (mkL ι ι3 c9 kx L0) 10 20 := fun L0 h0 => by
            rw [(hF5 L0 h0).2.2.1]
            exact Int32.not_lt.mpr ((nI_leI (a := n) (b := 4096) (by omega) (by omega)).mpr hn4)
          refine V_aload_n C d_Li_makeImage_39 rfl ?_
          refine V_callV (as := []) C d_Li_makeImage_40 (c_Li_workIn (L2 := fun L0 => copL ι (oeL ι c9 (mkL ι ι3 c9 kx L0))) hI hC5 hW hn4 hb) m_Li_workIn cf_Li k_Li_97 (nn hO5.n0) ⟨by decide, by decide⟩ (Nat.le_of_ble_eq_true rfl) ⟨by decide, by decide⟩ rfl ?_
          rintro _ _ ι7 _ _ ⟨rfl, rfl, rfl, hC7, b5, rfl, hs5, hf5⟩
          dsimp only [Option.toList, List.cons_append, List.nil_append]
          refine V_if_eq (tgt := 50) C d_Li_makeImage_43 (by decide) (fun h43 => ?_) (fun h43 => ?_)
          · obtain ⟨f, ls, j, suf, ι8, heq8, rfl, e1, e2, e3⟩ := hf5 (b2f h43)
            have hX : FX ι (tlI ι8 f (nI (j / 16)) (nI (j % 16))) c9 en (nI b9) := fun L0 Lf h0 hl => by
              obtain ⟨w1, w2, w3⟩ := e3 L0 h0
              obtain ⟨Lx, q1, q2, q3, q4⟩ := ex_wk (lr_4 (hlr3 L0 Lf h0 hl) (mkB h0) (hnl L0 h0)) e1 w1 w2 e2 w3
              exact ⟨Lx, q1, tl_15.1.trans q2.symm, tl_15.2.1.trans q3.symm, tl_15.2.2.trans q4.symm⟩
            have hg9 := tail0 _ _ z1 hC7 (tl_z (((hW (LZ (nI b9)) LZ.b).1.cgi (fun r i j k h => heq8 r i j k h)).1.tz (fun _ h => h) hlen hI.rc)) hX
            refine V_pick [0, 1, 2] rfl ?_
            exact hg9
          · obtain ⟨heq7, hW7⟩ := hs5 (b2t h43)
            have hO7 := hC7.os hI.os
            refine V_iconst (v := 1) C d_Li_makeImage_46 (by decide) ?_
            refine V_goto (tgt := 51) C d_Li_makeImage_47 (by decide) ?_
            refine V_putI (kx := 8) C d_Li_makeImage_51 cf_Li (by decide) k_Li_51 (nn hO.n0) rfl rfl rfl rfl ?_
            refine V_aload_n C d_Li_makeImage_54 rfl ?_
            refine V_getI (kx := 8) C d_Li_makeImage_55 cf_Li (by decide) k_Li_51 (nn hO.n0) rfl ?_
            refine V_eqi (y := 1) up4_s ?_
            refine V_if_ne (tgt := 65) C d_Li_makeImage_58 (by decide) (fun h58 => ?_) (fun h58 => absurd h58 (by decide))
            refine V_aload_n C d_Li_makeImage_65 rfl ?_
            refine V_iconst (v := 0) C d_Li_makeImage_66 (by decide) ?_
            refine V_putI (kx := 2) C d_Li_makeImage_67 cf_Li (by decide) k_Li_48 (nn hO.n0) rfl rfl rfl rfl ?_
            refine V_aload_n C d_Li_makeImage_70 rfl ?_
            refine V_getI (kx := 8) C d_Li_makeImage_71 cf_Li (by decide) k_Li_51 (nn hO.n0) rfl ?_
            refine V_eqi (y := 1) (by simp (disch := omega) only [up4_ne, up4_s]) ?_
            refine V_zret C hQ (by decide) (by decide) d_Li_makeImage_74 rfl rfl ?_
            refine ⟨rfl, rfl, fun r i j k h => ?_, hC7.2.1, up4_s, true, rfl, fun L0 Lf h0 hl => ?_⟩
            · rw [← hC7.1 r i j k h]
              unfold isCl at h
              simp (disch := omega) only [up4_ne, up4_s]
            · obtain ⟨w1, w2, w3, w4, w5⟩ := hW7 L0 h0
              have hk9 := (lr_4 (hlr3 L0 Lf h0 hl) (mkB h0) (hnl L0 h0)).s w4.1
              have e0 : ∀ r i j k, ¬ (r = 0 ∧ (k = 8 ∨ k = 2)) → (up4 (up4 ι7 0 0 0 8 1) 0 0 0 2 0) r i j k = ι7 r i j k := fun r i j k h => by rw [up4_ne (by omega), up4_ne (by omega)]
              have hF9 : FN ι (up4 (up4 ι7 0 0 0 8 1) 0 0 0 2 0) ρ2 c9 z1 kx ((sq ι 16 52 c9).foldl (wkT ι c9) (copL ι (oeL ι c9 (mkL ι ι3 c9 kx L0)))) := w1
              have q0 : ∀ k, k = 15 ∨ k = 16 ∨ k = 17 → ι7 0 0 0 k = (up4 (filG (fgI ι) 28 0 0 0 96 (fun _ => 0)) 0 0 0 9 (nI b9)) 0 0 0 k := fun k hk => ((heq7 0 0 0 k (by unfold P31; omega)).trans (heq5 0 0 0 k (by unfold Pm9 Pl9; omega))).trans (p3 k (by omega))
              refine PA.ok (n := n) (b := b9) (N := 264192) hF9 hI.nb hI.rc hlen hk9 ?_ ?_ ?_ ?_ w3 hn4 ?_ ?_ w2 (by omega)
              · simp (disch := omega) only [up4_ne, up4_s]
              · rw [e0 0 0 0 15 (by omega), q0 15 (by omega), fg0, w4.1]; rfl
              · rw [e0 0 0 0 16 (by omega), q0 16 (by omega), fg0, w4.2.1]; rfl
              · rw [e0 0 0 0 17 (by omega), q0 17 (by omega), fg0, w4.2.2]; rfl
              · rw [wks_fr (by decide) (by omega), cop_e.1 10 29 (by decide)]
                unfold oeL
                rw [up2_s]
                exact (hF5 L0 h0).2.2.1
              · intro k hk
                rw [e0 31 0 0 k (by omega)]
                exact w5 k hk
