theorem min_s {i L f : Nat} (h : i ≤ min 4 (L - f)) (h2 : ¬ (i < 4 ∧ f + i < L)) : i = min 4 (L - f) := by omega
set_option maxHeartbeats 1000000 in
set_option maxRecDepth 10000 in
theorem c_Mo_bytes {ν : Nu} {ι : Io} {ρ : Ro} {ℓ : Lo} (hM : MoS ν ρ) {t : Nat} (ht : t < 13) (hob : isOb ι (nI t)) (hs : bd ι 42 13 8) (hl : bd ι 45 104 128) {x f v : Int32} : Ct y_Mo_bytes (Cond.code y_Mo_bytes b_Mo_bytes 8 (some .int) :: tb_) { frames := 2, cells := 0, slots := 0, locals := 44 } [sR 10 0 0, sI (nI t), sI x, sI f, sI v] ν ι ρ ℓ (pEq (some (sI (if isBy (z0 ι) t x f then nI (min 4 (mn ι 45 (8 * t + x.toNatClampNeg) - f.toNatClampNeg)) else 0))) ν (if isBy (z0 ι) t x f then filF (z0 ι) 46 (128 * (8 * t + x.toNatClampNeg) + f.toNatClampNeg) (min 4 (mn ι 45 (8 * t + x.toNatClampNeg) - f.toNatClampNeg)) (by8 v) else up4 (z0 ι) 10 0 0 0 2) ρ ℓ) (noX) := by
  refine Ct.ofV (by decide) (Nat.le_of_ble_eq_true rfl) rfl ?_
  intro p l e s m args below meth c D B tW α0 Q C hQ
  refine V_aload_n C d_Mo_bytes_0 rfl ?_
  refine V_iload_n C d_Mo_bytes_1 rfl ?_
  refine V_callV (as := [_]) C d_Mo_bytes_2 (c_Mo_isObject hM) m_Mo_isObject cf_Mo k_Mo_111 hM.al ⟨by decide, by decide⟩ (Nat.le_of_ble_eq_true rfl) ⟨by decide, by decide⟩ rfl ?_
  rintro _ _ _ _ _ ⟨rfl, rfl, rfl, rfl, rfl⟩
  rw [if_pos hob]
  dsimp only [Option.toList, List.cons_append, List.nil_append]
  refine V_if_ne (tgt := 10) C d_Mo_bytes_5 (by decide) (fun h5 => ?_) (fun h5 => absurd h5 (by rw [b2_t hob]; decide))
  refine V_bipush (v := 8) C d_Mo_bytes_10 (by decide) ?_
  refine V_iload_n C d_Mo_bytes_12 rfl ?_
  refine V_imul C d_Mo_bytes_13 ?_
  refine V_iload_n C d_Mo_bytes_14 rfl ?_
  refine V_iadd C d_Mo_bytes_15 ?_
  refine V_istore (lv' := [(5, _), (0, _), (1, _), (2, _), (3, _), (4, _)]) C d_Mo_bytes_16 (by decide) rfl ?_
  refine V_aload_n C d_Mo_bytes_18 rfl ?_
  refine V_iload_n C d_Mo_bytes_19 rfl ?_
  refine V_iload_n C d_Mo_bytes_20 rfl ?_
  refine V_callV (as := [_, _]) C d_Mo_bytes_21 (c_Mo_hasSection (ι := up4 ι 10 0 0 0 0) hM ht) m_Mo_hasSection cf_Mo k_Mo_122 hM.al ⟨by decide, by decide⟩ (Nat.le_of_ble_eq_true rfl) ⟨by decide, by decide⟩ rfl ?_
  rintro _ _ _ _ _ ⟨rfl, rfl, rfl, rfl, rfl⟩
  dsimp only [Option.toList, List.cons_append, List.nil_append]
  refine V_if_eq (tgt := 55) C d_Mo_bytes_24 (by decide) (fun h24 => ?_) (fun h24 => ?_)
  · have hnb : ¬ isBy (z0 ι) t x f := fun z => b2_0.mp h24 z.1
    refine V_aload_n C d_Mo_bytes_55 rfl ?_
    refine V_iconst (v := 2) C d_Mo_bytes_56 (by decide) ?_
    refine V_callV (as := [_]) C d_Mo_bytes_57 (c_Mo_fail hM) m_Mo_fail cf_Mo k_Mo_103 hM.al ⟨by decide, by decide⟩ (Nat.le_of_ble_eq_true rfl) ⟨by decide, by decide⟩ rfl ?_
    rintro _ _ _ _ _ ⟨rfl, rfl, rfl, rfl, rfl⟩
    dsimp only [Option.toList, List.cons_append, List.nil_append]
    refine V_iret C hQ (by decide) (by decide) d_Mo_bytes_60 rfl ?_
    rw [if_neg hnb, if_neg hnb]
    exact ⟨rfl, rfl, rfl, rfl, rfl⟩
  · have h24' := b2_n0.mp h24
    have h24c := h24'
    rw [show up4 ι 10 0 0 0 0 42 0 0 t = nI (mn ι 42 t) from hs.eq ht] at h24c
    obtain ⟨j, hj, hx9⟩ := rng_of (by have := hs.le ht; omega) h24c
    subst hx9
    have hcl : (nI j).toNatClampNeg = j := nI_clamp (by have := hs.le ht; omega)
    have hsle := hs.le ht
    refine V_aload_n C d_Mo_bytes_27 rfl ?_
    refine V_getR (kx := 3) C d_Mo_bytes_28 cf_Mo (by decide) k_Mo_13 hM.al rfl hM.r3 ?_
    refine V_iload C d_Mo_bytes_31 rfl ?_
    refine V_iald C d_Mo_bytes_33 (by decide) rfl hM.n3 (ixa 8 t j) (by omega) rfl ?_
    refine V_iconst (v := 3) C d_Mo_bytes_34 (by decide) ?_
    refine V_icmp_eq (tgt := 55) C d_Mo_bytes_35 (by decide) (fun h35 => ?_) (fun h35 => ?_)
    · have hnb : ¬ isBy (z0 ι) t (nI j) f := fun z => z.2.1 (by rw [hcl]; exact h35)
      refine V_aload_n C d_Mo_bytes_55 rfl ?_
      refine V_iconst (v := 2) C d_Mo_bytes_56 (by decide) ?_
      refine V_callV (as := [_]) C d_Mo_bytes_57 (c_Mo_fail hM) m_Mo_fail cf_Mo k_Mo_103 hM.al ⟨by decide, by decide⟩ (Nat.le_of_ble_eq_true rfl) ⟨by decide, by decide⟩ rfl ?_
      rintro _ _ _ _ _ ⟨rfl, rfl, rfl, rfl, rfl⟩
      dsimp only [Option.toList, List.cons_append, List.nil_append]
      refine V_iret C hQ (by decide) (by decide) d_Mo_bytes_60 rfl ?_
      rw [if_neg hnb, if_neg hnb]
      exact ⟨rfl, rfl, rfl, rfl, rfl⟩
    · refine V_iload_n C d_Mo_bytes_38 rfl ?_
      refine V_iconst (v := 0) C d_Mo_bytes_39 (by decide) ?_
      refine V_aload_n C d_Mo_bytes_40 rfl ?_
      refine V_getR (kx := 5) C d_Mo_bytes_41 cf_Mo (by decide) k_Mo_19 hM.al rfl hM.r5 ?_
      refine V_iload C d_Mo_bytes_44 rfl ?_
      refine V_iald C d_Mo_bytes_46 (by decide) rfl hM.n5 (ixa 8 t j) (by omega) rfl ?_
      refine V_iconst (v := 1) C d_Mo_bytes_47 (by decide) ?_
      refine V_isub C d_Mo_bytes_48 ?_
      refine V_callS (as := [_, _, _]) C d_Mo_bytes_49 c_Mo_within m_Mo_within k_Mo_99 ⟨by decide, by decide⟩ (Nat.le_of_ble_eq_true rfl) ⟨by decide, by decide⟩ rfl ?_
      rintro _ _ _ _ _ ⟨rfl, rfl, rfl, rfl, rfl⟩
      dsimp only [Option.toList, List.cons_append, List.nil_append]
      refine V_if_ne (tgt := 61) C d_Mo_bytes_52 (by decide) (fun h52 => ?_) (fun h52 => ?_)
      · have h52' := b2_n0.mp h52
        have hbp : isBy (z0 ι) t (nI j) f := ⟨h24', by rw [hcl]; exact h35, by rw [hcl]; exact h52'⟩
        rw [show up4 ι 10 0 0 0 0 45 0 0 (8 * t + j) = nI (mn ι 45 (8 * t + j)) from hl.eq (by omega)] at h52'
        have hlle := hl.le (t := 8 * t + j) (by omega)
        obtain ⟨g9, hg9, hf9⟩ := rng_of (by omega) h52'
        subst hf9
        have hcf : (nI g9).toNatClampNeg = g9 := nI_clamp (by omega)
        have eix : (8 : Int32) * nI t + nI j = nI (8 * t + j) := ixa 8 t j
        rw [eix]
        have loop : ∀ (f : Nat) (i : Nat), 4 - i < f → (i ≤ min 4 (mn ι 45 (8 * t + j) - g9)) → V p l e { frames := 2, cells := 0, slots := 0, locals := 44 } s m args below meth c D B α0 ν 8 Q 0 0 ν (filF (up4 ι 10 0 0 0 0) 46 (128 * (8 * t + j) + g9) i (by8 v)) ρ ℓ 67 [(7, sI (nI i)), (6, sI (nI i)), (5, sI (nI (8 * t + j))), (0, sR 10 0 0), (1, sI (nI t)), (2, sI (nI j)), (3, sI (nI g9)), (4, sI v)] [] := by
          intro f
          induction f with
          | zero => intros; omega
          | succ f ih =>
            intro i hf hi0
            refine V_iload C d_Mo_bytes_67 rfl ?_
            refine V_iconst (v := 4) C d_Mo_bytes_69 (by decide) ?_
            refine V_icmp_ge (tgt := 127) C d_Mo_bytes_70 (by decide) (fun h70 => ?_) (fun h70 => ?_)
            · have hi4 : i = min 4 (mn ι 45 (8 * t + j) - g9) := min_s hi0 (fun z => absurd ((nI_leI (a := 4) (b := i) (by decide) (by omega)).mp h70) (by omega))
              refine V_iload C d_Mo_bytes_127 rfl ?_
              refine V_iret C hQ (by decide) (by decide) d_Mo_bytes_129 rfl ?_
              subst hi4
              rw [if_pos hbp, if_pos hbp, hcl, hcf]
              exact ⟨rfl, rfl, rfl, rfl, rfl⟩
            · have hi4 : i < 4 := Nat.lt_of_not_le fun z => h70 ((nI_leI (a := 4) (b := i) (by decide) (by omega)).mpr z)
              refine V_iload_n C d_Mo_bytes_73 rfl ?_
              refine V_iload C d_Mo_bytes_74 rfl ?_
              refine V_iadd C d_Mo_bytes_76 ?_
              refine V_aload_n C d_Mo_bytes_77 rfl ?_
              refine V_getR (kx := 5) C d_Mo_bytes_78 cf_Mo (by decide) k_Mo_19 hM.al rfl hM.r5 ?_
              refine V_iload C d_Mo_bytes_81 rfl ?_
              refine V_iald C d_Mo_bytes_83 (by decide) rfl hM.n5 rfl (show 8 * t + j < 104 by omega) rfl ?_
              rw [nI_add, show filF (up4 ι 10 0 0 0 0) 46 (128 * (8 * t + j) + g9) i (by8 v) 45 0 0 (8 * t + j) = nI (mn ι 45 (8 * t + j)) from hl.eq (by omega)]
              refine V_icmp_ge (tgt := 127) C d_Mo_bytes_84 (by decide) (fun h84 => ?_) (fun h84 => ?_)
              · have hi4 : i = min 4 (mn ι 45 (8 * t + j) - g9) := min_s hi0 (fun z => absurd ((nI_leI (a := mn ι 45 (8 * t + j)) (b := g9 + i) (by omega) (by omega)).mp h84) (by omega))
                refine V_iload C d_Mo_bytes_127 rfl ?_
                refine V_iret C hQ (by decide) (by decide) d_Mo_bytes_129 rfl ?_
                subst hi4
                rw [if_pos hbp, if_pos hbp, hcl, hcf]
                exact ⟨rfl, rfl, rfl, rfl, rfl⟩
              · have hi5 : g9 + i < mn ι 45 (8 * t + j) := Nat.lt_of_not_le fun z => h84 ((nI_leI (by omega) (by omega)).mpr z)
                refine V_aload_n C d_Mo_bytes_87 rfl ?_
                refine V_getR (kx := 6) C d_Mo_bytes_88 cf_Mo (by decide) k_Mo_22 hM.al rfl hM.r6 ?_
                refine V_sipush (v := 128) C d_Mo_bytes_91 (by decide) ?_
                refine V_iload C d_Mo_bytes_94 rfl ?_
                refine V_imul C d_Mo_bytes_96 ?_
                refine V_iload_n C d_Mo_bytes_97 rfl ?_
                refine V_iadd C d_Mo_bytes_98 ?_
                refine V_iload C d_Mo_bytes_99 rfl ?_
                refine V_iadd C d_Mo_bytes_101 ?_
                refine V_iload C d_Mo_bytes_102 rfl ?_
                refine V_bipush (v := 24) C d_Mo_bytes_104 (by decide) ?_
                refine V_bipush (v := 8) C d_Mo_bytes_106 (by decide) ?_
                refine V_iload C d_Mo_bytes_108 rfl ?_
                refine V_imul C d_Mo_bytes_110 ?_
                refine V_isub C d_Mo_bytes_111 ?_
                refine V_ishr C d_Mo_bytes_112 ?_
                refine V_sipush (v := 255) C d_Mo_bytes_113 (by decide) ?_
                refine V_iand C d_Mo_bytes_116 ?_
                refine V_iast C d_Mo_bytes_117 (by decide) rfl hM.n6 (show nI 128 * nI (8 * t + j) + nI g9 + nI i = nI (128 * (8 * t + j) + g9 + i) by rw [ixa, nI_add]) (by omega) rfl ?_
                refine V_iinc (v := nI (i + 1)) (lv' := [(6, _), (7, _), (5, _), (0, _), (1, _), (2, _), (3, _), (4, _)]) C d_Mo_bytes_118 rfl (nI_1 i) (by decide) rfl ?_
                refine V_iinc (v := nI (i + 1)) (lv' := [(7, _), (6, _), (5, _), (0, _), (1, _), (2, _), (3, _), (4, _)]) C d_Mo_bytes_121 rfl (nI_1 i) (by decide) rfl ?_
                refine V_goto (tgt := 67) C d_Mo_bytes_124 (by decide) ?_
                refine V_pick [0, 1, 2, 3, 4, 5, 6, 7] rfl ?_
                rw [filF_s (by rfl)]
                exact ih (i + 1) (by omega) (by omega)
        refine V_iconst (v := 0) C d_Mo_bytes_61 (by decide) ?_
        refine V_istore (lv' := [(6, _), (5, _), (0, _), (1, _), (2, _), (3, _), (4, _)]) C d_Mo_bytes_62 (by decide) rfl ?_
        refine V_iconst (v := 0) C d_Mo_bytes_64 (by decide) ?_
        refine V_istore (lv' := [(7, _), (6, _), (5, _), (0, _), (1, _), (2, _), (3, _), (4, _)]) C d_Mo_bytes_65 (by decide) rfl ?_
        refine V_pick [0, 1, 2, 3, 4, 5, 6, 7] rfl ?_
        rw [← filF_0 (ι := up4 ι 10 0 0 0 0) (r := 46) (a := 128 * (8 * t + j) + g9) (g := by8 v)]
        exact loop 5 0 (by omega) (by omega)
      · have hnb : ¬ isBy (z0 ι) t (nI j) f := fun z => b2_0.mp h52 (by have := z.2.2; rw [hcl] at this; exact this)
        refine V_aload_n C d_Mo_bytes_55 rfl ?_
        refine V_iconst (v := 2) C d_Mo_bytes_56 (by decide) ?_
        refine V_callV (as := [_]) C d_Mo_bytes_57 (c_Mo_fail hM) m_Mo_fail cf_Mo k_Mo_103 hM.al ⟨by decide, by decide⟩ (Nat.le_of_ble_eq_true rfl) ⟨by decide, by decide⟩ rfl ?_
        rintro _ _ _ _ _ ⟨rfl, rfl, rfl, rfl, rfl⟩
        dsimp only [Option.toList, List.cons_append, List.nil_append]
        refine V_iret C hQ (by decide) (by decide) d_Mo_bytes_60 rfl ?_
        rw [if_neg hnb, if_neg hnb]
        exact ⟨rfl, rfl, rfl, rfl, rfl⟩
