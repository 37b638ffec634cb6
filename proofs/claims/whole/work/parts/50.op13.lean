def rmM (ι : Io) : Io := fun r i j k => cond (Nat.ble 42 r && Nat.ble r 59) (ι r i j k) 0
theorem sq_r {ι : Io} {m f c : Nat} (hf : f = 42 ∨ f = 47 ∨ f = 52) : sq (rmM ι) m f c = sq ι m f c := by
  rcases hf with rfl | rfl | rfl <;> rfl
theorem me_r {ι : Io} {c : Nat} {x : Int32} : me (rmM ι) c x = me ι c x := rfl
theorem Tc_r {ι : Io} {c i : Nat} {x : Int32} : Tc (rmM ι) c x i = Tc ι c x i := rfl
theorem db_r {ι : Io} {c i : Nat} {L : Ls} : dbS (rmM ι) c L i = dbS ι c L i := rfl
theorem mi_r {ι : Io} {c : Nat} : miS (rmM ι) c = miS ι c := rfl
theorem Rd_r {ι : Io} {c : Nat} {x : Int32} {L : Ls} : Rd (rmM ι) c x L = Rd ι c x L := rfl
theorem or_r {ι : Io} {c : Nat} {L : Ls} : ordL (rmM ι) c L = ordL ι c L := rfl
theorem wk_r {ι : Io} {c : Nat} : wkT (rmM ι) c = wkT ι c := rfl
theorem cp_r {ι : Io} {L : Ls} : copL (rmM ι) L = copL ι L := rfl
theorem kn_r {ι : Io} {c : Nat} {L Lf : Ls} : knI (rmM ι) c L (sq (rmM ι) 12 47 c) Lf = knI ι c L (sq ι 12 47 c) Lf := rfl
theorem LE_r {ι : Io} {c : Nat} {L Lf : Ls} : LE (rmM ι) c L Lf = LE ι c L Lf := by
  unfold LE
  rw [kn_r]
theorem LR_r {ι : Io} {c : Nat} {x : Int32} {L Lf : Ls} : LR (rmM ι) c x L Lf = LR ι c x L Lf := by
  have e1 : dbS (rmM ι) c = dbS ι c := rfl
  have e3 : ∀ L3, LR3 (rmM ι) c L3 Lf = LR3 ι c L3 Lf := fun L3 => by
    unfold LR3
    rw [LE_r, LE_r, sq_r (by omega), wk_r, cp_r]
  have e2 : ∀ L2, LR2 (rmM ι) c L2 Lf = LR2 ι c L2 Lf := fun L2 => by
    unfold LR2
    rw [LE_r, or_r, e3]
  unfold LR
  simp only [sq_r (show (47 : Nat) = 42 ∨ 47 = 47 ∨ 47 = 52 by omega), sq_r (show (52 : Nat) = 42 ∨ 52 = 47 ∨ 52 = 52 by omega), e1, LE_r, Rd_r, me_r, mi_r, e2]
  rfl
theorem LFr.rm {ι ι1 : Io} (h : LFr ι ι1) : rmM ι1 = rmM ι := by
  funext r i j k
  unfold rmM
  cases hb : (Nat.ble 42 r && Nat.ble r 59) with
  | false => rfl
  | true =>
    rw [Bool.and_eq_true] at hb
    have := Nat.le_of_ble_eq_true hb.1
    exact h r i j k (by unfold isCl; omega)
theorem LR_c {ι ι1 : Io} {c : Nat} {x : Int32} {L Lf : Ls} (h : LFr ι ι1) (hl : LR ι1 c x L Lf) : LR ι c x L Lf := by
  rw [← LR_r, ← h.rm, LR_r]
  exact hl
theorem LK_c {ι ι1 : Io} {c : Nat} (h : LFr ι ι1) (hK : LK ι c) : LK ι1 c := by
  have e : ∀ r k, r = 10 ∨ 40 ≤ r → ι1 r 0 0 k = ι r 0 0 k := fun r k hr => h r 0 0 k (by unfold isCl; omega)
  unfold LK bd at *
  simp only [e 10 18 (by omega), e 59 _ (by omega), e 47 _ (by omega), e 42 _ (by omega), e 52 _ (by omega), e 43 _ (by omega), e 44 _ (by omega), e 45 _ (by omega), e 50 _ (by omega), e 51 _ (by omega), e 53 _ (by omega), e 54 _ (by omega), e 55 _ (by omega), e 56 _ (by omega)]
  exact hK
theorem DI_c {ι ι1 : Io} {c : Nat} (h : LFr ι ι1) (hD : DI ι c) : DI ι1 c := by
  have e : DI ι c = DI (rmM ι) c := rfl
  have e1 : DI ι1 c = DI (rmM ι1) c := rfl
  rw [e1, h.rm, ← e]
  exact hD
theorem bs_B {ι : Io} {x : Int32} : B0 x (bsL ι x) := by
  unfold B0 bsL
  refine ⟨?_, ?_, ?_, ?_⟩ <;> simp (disch := omega) only [up2_ne, up2_s]
theorem rgQ {x : Int32} (h : 0 ≤ x ∧ x ≤ 1000000) : ∃ a, a ≤ 1000000 ∧ x = nI a := by
  obtain ⟨j, hj, rfl⟩ := nI_of (Int32.not_lt.mpr h.1)
  exact ⟨j, (nI_leI (b := 1000000) hj (by omega)).mp h.2, rfl⟩
theorem OSq {ν : Nu} {ρ ρ1 : Ro} (h : LFq ρ ρ1) (hO : OS ν ρ) : OS ν ρ1 := by
  have h1 : OS ν (rcq ρ) := hO
  rw [← LFq_rc h] at h1
  exact h1
theorem no_0 {L : Ls} : noL (up2 L 10 28 0) 10 0 = L 10 0 := by
  unfold noL flL
  rw [if_neg (by omega)]
  simp (disch := omega) only [up2_ne]
theorem LE_0 {M : Io} {c : Nat} {L Lf : Ls} (h : LE M c L Lf) : Lf 10 0 = L 10 0 := by
  rcases h with h | h
  · rw [h.2, no_0]
  · rw [h.2.2.2 10 0 (by omega) (by omega) (by omega), up2_ne (by omega)]
theorem db_0 {M : Io} {c : Nat} {l : List Nat} {L : Ls} : l.foldl (dbS M c) L 10 0 = L 10 0 := fold_fr (fun L i => by
  unfold dbS
  split
  · exact tl_fr (by omega)
  · rfl)
theorem mi_0 {M : Io} {c : Nat} {l : List Nat} {L : Ls} : l.foldl (miS M c) L 10 0 = L 10 0 := fold_fr (fun L i => by
  unfold miS
  split
  · exact tl_fr (by omega)
  · rfl)
theorem or_0 {M : Io} {c : Nat} {L : Ls} : ordL M c L 10 0 = L 10 0 := by
  have e : orL M c L 10 0 = L 10 0 := by
    unfold orL
    rw [fold_fr (f := comS M c) (fun L s => by
      unfold comS nxL
      split
      · simp (disch := omega) only [up2_ne]
      · rfl), kin_fr (fun a s L => by
      unfold secS nxL
      split
      · simp (disch := omega) only [up2_ne]
      · rfl)]
    unfold bgL bg0 flL
    rw [if_neg (by omega)]
    simp (disch := omega) only [up2_ne]
  by_cases h : 4096 < orL M c L 10 41 - orL M c L 10 20
  · rw [show ordL M c L = tlL (up2 (orL M c L) 10 29 (orL M c L 10 41 - orL M c L 10 20)) 6 (-1) (-1) from if_pos h, tl_fr (by omega), up2_ne (by omega)]
    exact e
  · rw [ord_e h]
    unfold oeL
    rw [up2_ne (by omega)]
    exact e
theorem LR3_0 {M : Io} {c : Nat} {L Lf : Ls} (h : LR3 M c L Lf) : Lf 10 0 = L 10 0 := by
  rcases h with h | h
  · exact LE_0 h.2
  · rw [LE_0 h.2, wks_fr (by decide) (by omega), cop_e.1 10 0 (by decide)]
theorem LR2_0 {M : Io} {c : Nat} {L Lf : Ls} (h : LR2 M c L Lf) : Lf 10 0 = L 10 0 := by
  rcases h with h | h
  · exact LE_0 h.2
  · rw [LR3_0 h.2, or_0]
theorem LR_0 {M : Io} {c : Nat} {en : Int32} {L Lf : Ls} (h : LR M c en L Lf) : Lf 10 0 = L 10 0 := by
  rcases h with h | h
  · rw [LE_0 h.2, db_0]
  · obtain ⟨_, L1, _, h2, h3⟩ := h
    rw [LR2_0 h3, mi_0, h2 10 0 (by omega) (by omega)]
    split
    · rw [tl_fr (by omega), db_0]
    · exact db_0
theorem bs_0 {ι : Io} {x : Int32} : bsL ι x 10 0 = 0 := by
  unfold bsL
  simp (disch := omega) only [up2_ne, up2_s]
theorem lk_0 {ι : Io} {L : Ls} (h : L 10 28 ≠ 0) (h0 : L 10 0 = 0) : lkI ι L 10 0 0 0 = 0 := by
  unfold lkI setL
  rw [up4_ne (by omega), if_pos ⟨rfl, rfl, rfl⟩, if_neg h]
  exact h0
theorem MoQ {ν : Nu} {ρ ρ1 : Ro} (h : LFq ρ ρ1) (hM : MoS ν ρ) : MoS ν ρ1 := by
  have h1 : MoS ν (rcq ρ) := hM
  rw [← LFq_rc h] at h1
  exact h1
theorem lk_11 {ι : Io} {L : Ls} (h : PA ι L) : ι 0 0 0 11 = L 10 29 := by
  obtain ⟨_, ⟨n, g1, g2, _⟩, _⟩ := h
  rw [g1, g2]
set_option maxHeartbeats 1000000 in
set_option maxRecDepth 10000 in
theorem c_OL_link {ν : Nu} {ι : Io} {ρ : Ro} {ℓ : Lo} {N c9 w9 n9 z9 kn g9 : Nat} (hI : IV ν ι ρ N c9 w9 n9 z9 kn g9) {en x : Int32} : Ct y_OL_link (Cond.code y_OL_link b_OL_link 3 (some .int) :: tb_) { frames := 6, cells := 60, slots := 2000, locals := 153 } [sR 9 0 0, sI en, sI x] ν ι ρ ℓ (fun r9 ν1 ι1 ρ1 ℓ1 => ℓ = ℓ1 ∧ ν1 90 0 0 = ν 90 0 0 ∧ ∃ b, r9 = some (sI b) ∧ MC y_Mo_link (Cond.code y_Mo_link b_Mo_link 5 (some .int) :: tb_) { frames := 4, cells := 0, slots := 0, locals := 101 } [sR 10 0 0, sI en, sI x] 0 b ν ρ ν1 ι1 ρ1) (fun E ν1 ι1 ρ1 ℓ1 => ℓ = ℓ1 ∧ ν1 90 0 0 = ν 90 0 0 ∧ ∃ k7, (E, k7) ∈ ([("java/lang/IllegalArgumentException", 1), ("java/lang/IllegalStateException", 2), ("java/lang/UnsupportedOperationException", 3)] : List (String × Int32)) ∧ MC y_Mo_link (Cond.code y_Mo_link b_Mo_link 5 (some .int) :: tb_) { frames := 4, cells := 0, slots := 0, locals := 101 } [sR 10 0 0, sI en, sI x] k7 0 ν ρ ν1 ι1 ρ1) := by
  refine Ct.ofV (by decide) (Nat.le_of_ble_eq_true rfl) rfl ?_
  intro p l e s m args below meth c D B tW α0 Q C hQ
  by_cases hx : (0 ≤ x ∧ x ≤ 1000000)
  · obtain ⟨b9, hb, hxb⟩ := rgQ hx
    subst hxb
    have hc12 := hI.ic.2.2.1
    by_cases hc0 : c9 = 0
    · skip
      refine V_iload_n C d_OL_link_0 rfl ?_
      refine V_if_lt (tgt := 10) C d_OL_link_1 (by decide) (fun h1 => absurd h1 (nI_nneg (by omega))) (fun h1 => ?_)
      refine V_iload_n C d_OL_link_4 rfl ?_
      refine V_ldc C d_OL_link_5 k_OL_140 ?_
      refine V_icmp_le (tgt := 20) C d_OL_link_7 (by decide) (fun h7 => ?_) (fun h7 => absurd hx.2 h7)
      refine V_aload_n C d_OL_link_20 rfl ?_
      refine V_getR (kx := 2) C d_OL_link_21 cf_OL (by decide) k_OL_18 (nn hI.os.n9) rfl hI.os.r92 ?_
      refine V_getI (kx := 2) C d_OL_link_24 cf_Li (by decide) k_OL_143 (nn hI.os.n0) rfl ?_
      refine V_eqi (y := 0) (hI.ic.1.trans (by rw [hc0]; rfl)) ?_
      refine V_if_ne (tgt := 40) C d_OL_link_27 (by decide) (fun h27 => absurd rfl h27) (fun h27 => ?_)
      refine V_throwS (E := "java/lang/IllegalStateException") (text := "nothing is chosen") (ik := 146) (is := 148) (ic := 150) C hQ rfl (by decide) k_OL_146 (tb_in 85 (by decide +kernel) rfl) (by decide +kernel) (by decide +kernel) (by decide +kernel) (by decide +kernel) (by decide +kernel) d_OL_link_30 d_OL_link_33 d_OL_link_34 d_OL_link_36 d_OL_link_39 (by decide) (Nat.le_of_ble_eq_true rfl) (by decide) (by decide) (by decide) (by decide) ?_
      exact ⟨rfl, rfl, 2, by simp, MC.eq (b' := 0) (ι2 := (up4 ι 10 0 0 0 2)) (fun ℓ9 => c_Mo_link_n hI.mo hx (hI.ic.2.1.trans (by rw [hc0]; rfl))) (fun h => absurd h (by decide)) (rfl) (gm.rf) (⟨N, c9, w9, n9, z9, kn, g9, hI.t0⟩)⟩
    · skip
      refine V_iload_n C d_OL_link_0 rfl ?_
      refine V_if_lt (tgt := 10) C d_OL_link_1 (by decide) (fun h1 => absurd h1 (nI_nneg (by omega))) (fun h1 => ?_)
      refine V_iload_n C d_OL_link_4 rfl ?_
      refine V_ldc C d_OL_link_5 k_OL_140 ?_
      refine V_icmp_le (tgt := 20) C d_OL_link_7 (by decide) (fun h7 => ?_) (fun h7 => absurd hx.2 h7)
      refine V_aload_n C d_OL_link_20 rfl ?_
      refine V_getR (kx := 2) C d_OL_link_21 cf_OL (by decide) k_OL_18 (nn hI.os.n9) rfl hI.os.r92 ?_
      refine V_getI (kx := 2) C d_OL_link_24 cf_Li (by decide) k_OL_143 (nn hI.os.n0) rfl ?_
      refine V_eqi (y := nI c9) hI.ic.1 ?_
      refine V_if_ne (tgt := 40) C d_OL_link_27 (by decide) (fun h27 => ?_) (fun h27 => absurd h27 (nI_ne0 (by omega) (by omega)))
      refine V_aload_n C d_OL_link_40 rfl ?_
      refine V_getR (kx := 2) C d_OL_link_41 cf_OL (by decide) k_OL_18 (nn hI.os.n9) rfl hI.os.r92 ?_
      refine V_iload_n C d_OL_link_44 rfl ?_
      refine V_iload_n C d_OL_link_45 rfl ?_
      refine V_callV (as := [_, _]) C d_OL_link_46 (c_Li_makeImage hI hb) m_Li_makeImage cf_Li k_OL_151 (nn hI.os.n0) ⟨by decide, by decide⟩ (Nat.le_of_ble_eq_true rfl) ⟨by decide, by decide⟩ rfl ?_
      rintro _ _ ι1 ρ1 _ ⟨rfl, rfl, hf1, hq1, h2c, b7, rfl, hres⟩
      have hO1 : OS ν ρ1 := OSq hq1 hI.os
      dsimp only [Option.toList, List.cons_append, List.nil_append]
      refine V_if_ne (tgt := 62) C d_OL_link_49 (by decide) (fun h49 => ?_) (fun h49 => ?_)
      · refine V_aload_n C d_OL_link_62 rfl ?_
        refine V_getR (kx := 2) C d_OL_link_63 cf_OL (by decide) k_OL_18 (nn hO1.n9) rfl hO1.r92 ?_
        refine V_getI (kx := 11) C d_OL_link_66 cf_Li (by decide) k_OL_157 (nn hO1.n0) rfl ?_
        refine V_iret C hQ (by decide) (by decide) d_OL_link_69 rfl ?_
        have hbt := b2t h49
        subst hbt
        refine ⟨rfl, rfl, _, rfl, ?_⟩
        exact fun ℓ9 => ⟨_, c_Mo_link (MoQ hq1 hI.mo) (LK_c hf1 hI.lk) (DI_c hf1 hI.di) rfl hb (by rw [hf1 10 0 0 18 (by unfold isCl; omega), hI.ic.2.1]; exact nI_ne0 (by omega) (by omega)), by rintro v2 ν2 ι2 ρ2 ℓ2 ⟨rfl, rfl, rfl, Lf, hl, rfl, rfl⟩; obtain ⟨hP, h28⟩ := hres (bsL ι1 (nI b9)) Lf bs_B (LR_c hf1 hl); obtain ⟨n2, z2, kn2, hIV⟩ := IV_lk hI hf1 hq1 h2c hP; exact ⟨⟨rfl, ⟨_, rfl, fun _ => by rw [h28, if_neg (by decide)]; exact (lk_11 hP).symm⟩, lk_0 (by rw [h28]; decide) ((LR_0 hl).trans bs_0), _, ⟨N, 0, w9, n2, z2, kn2, g9, hIV⟩, Dr.rf gm.rf⟩, rfl⟩⟩
      · refine V_throwS (E := "java/lang/UnsupportedOperationException") (text := "the linking has a fault") (ik := 33) (is := 155) (ic := 37) C hQ rfl (by decide) k_OL_33 (tb_in 77 (by decide +kernel) rfl) (by decide +kernel) (by decide +kernel) (by decide +kernel) (by decide +kernel) (by decide +kernel) d_OL_link_52 d_OL_link_55 d_OL_link_56 d_OL_link_58 d_OL_link_61 (by decide) (Nat.le_of_ble_eq_true rfl) (by decide) (by decide) (by decide) (by decide) ?_
        have hbf := b2f h49
        subst hbf
        refine ⟨rfl, rfl, 3, by simp, ?_⟩
        exact fun ℓ9 => ⟨_, c_Mo_link (MoQ hq1 hI.mo) (LK_c hf1 hI.lk) (DI_c hf1 hI.di) rfl hb (by rw [hf1 10 0 0 18 (by unfold isCl; omega), hI.ic.2.1]; exact nI_ne0 (by omega) (by omega)), by rintro v2 ν2 ι2 ρ2 ℓ2 ⟨rfl, rfl, rfl, Lf, hl, rfl, rfl⟩; obtain ⟨hP, h28⟩ := hres (bsL ι1 (nI b9)) Lf bs_B (LR_c hf1 hl); obtain ⟨n2, z2, kn2, hIV⟩ := IV_lk hI hf1 hq1 h2c hP; exact ⟨⟨rfl, ⟨_, rfl, fun z => absurd z (by decide)⟩, by rw [h28]; rfl, _, ⟨N, 0, w9, n2, z2, kn2, g9, hIV⟩, Dr.rf gm.rf⟩, rfl⟩⟩
  · skip
    refine V_iload_n C d_OL_link_0 rfl ?_
    refine V_if_lt (tgt := 10) C d_OL_link_1 (by decide) (fun h1 => ?_) (fun h1 => ?_)
    · refine V_throwS (E := "java/lang/IllegalArgumentException") (text := "no such base") (ik := 55) (is := 141) (ic := 59) C hQ rfl (by decide) k_OL_55 (tb_in 81 (by decide +kernel) rfl) (by decide +kernel) (by decide +kernel) (by decide +kernel) (by decide +kernel) (by decide +kernel) d_OL_link_10 d_OL_link_13 d_OL_link_14 d_OL_link_16 d_OL_link_19 (by decide) (Nat.le_of_ble_eq_true rfl) (by decide) (by decide) (by decide) (by decide) ?_
      exact ⟨rfl, rfl, 1, by simp, MC.eq (b' := 0) (ι2 := (up4 ι 10 0 0 0 1)) (fun ℓ9 => c_Mo_link_b hI.mo hx) (fun h => absurd h (by decide)) (rfl) (gm.rf) (⟨N, c9, w9, n9, z9, kn, g9, hI.t0⟩)⟩
    · refine V_iload_n C d_OL_link_4 rfl ?_
      refine V_ldc C d_OL_link_5 k_OL_140 ?_
      refine V_icmp_le (tgt := 20) C d_OL_link_7 (by decide) (fun h7 => absurd ⟨Int32.not_lt.mp h1, h7⟩ hx) (fun h7 => ?_)
      refine V_throwS (E := "java/lang/IllegalArgumentException") (text := "no such base") (ik := 55) (is := 141) (ic := 59) C hQ rfl (by decide) k_OL_55 (tb_in 81 (by decide +kernel) rfl) (by decide +kernel) (by decide +kernel) (by decide +kernel) (by decide +kernel) (by decide +kernel) d_OL_link_10 d_OL_link_13 d_OL_link_14 d_OL_link_16 d_OL_link_19 (by decide) (Nat.le_of_ble_eq_true rfl) (by decide) (by decide) (by decide) (by decide) ?_
      exact ⟨rfl, rfl, 1, by simp, MC.eq (b' := 0) (ι2 := (up4 ι 10 0 0 0 1)) (fun ℓ9 => c_Mo_link_b hI.mo hx) (fun h => absurd h (by decide)) (rfl) (gm.rf) (⟨N, c9, w9, n9, z9, kn, g9, hI.t0⟩)⟩
