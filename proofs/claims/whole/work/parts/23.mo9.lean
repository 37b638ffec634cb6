set_option maxHeartbeats 1000000 in
set_option maxRecDepth 10000 in
theorem c_Mo_greatest {ν : Nu} {ι : Io} {ρ : Ro} {ℓ : Lo} (hM : MoS ν ρ) {c9 : Nat} (hc : ι 10 0 0 18 = nI c9) (h12 : c9 ≤ 12) (hch : bd ι 59 12 11) (hb : bd ι 47 13 12) {n z : Int32} (r : Nat) (hr : r = if z = 0 then 50 else 51) : Ct y_Mo_greatest (Cond.code y_Mo_greatest b_Mo_greatest 8 (some .int) :: tb_) { frames := 0, cells := 0, slots := 0, locals := 0 } [sR 10 0 0, sI n, sI z] ν ι ρ ℓ (pEq (some (sI (gr ι c9 n r))) ν ι ρ ℓ) (noX) := by
  refine Ct.ofV (by decide) (Nat.le_of_ble_eq_true rfl) rfl ?_
  intro p l e s m args below meth c D B tW α0 Q C hQ
  have outer : ∀ (f : Nat) (k9 : Nat) (mo : Int32), c9 - k9 < f → (k9 ≤ c9) → (mo = (sq ι 12 47 k9).foldl (grS ι n r) 0) → V p l e { frames := 0, cells := 0, slots := 0, locals := 0 } s m args below meth c D B α0 ν 8 Q 0 0 ν ι ρ ℓ 5 [(4, sI (nI k9)), (3, sI mo), (0, sR 10 0 0), (1, sI n), (2, sI z)] [] := by
    intro f
    induction f with
    | zero => intros; omega
    | succ f ih =>
      intro k9 mo hf hk0 hpre0
      refine V_iload C d_Mo_greatest_5 rfl ?_
      refine V_aload_n C d_Mo_greatest_7 rfl ?_
      refine V_getI (kx := 18) C d_Mo_greatest_8 cf_Mo (by decide) k_Mo_144 hM.al rfl ?_
      rw [hc]
      refine V_icmp_ge (tgt := 114) C d_Mo_greatest_11 (by decide) (fun h11 => ?_) (fun h11 => ?_)
      · have hk : k9 = c9 := by have := (nI_leI (a := c9) (b := k9) (by omega) (by omega)).mp h11; omega
        subst hk
        refine V_iload_n C d_Mo_greatest_114 rfl ?_
        refine V_iret C hQ (by decide) (by decide) d_Mo_greatest_115 rfl ?_
        refine ⟨congrArg (fun z => some (sI z)) ?_, rfl, rfl, rfl, rfl⟩
        exact hpre0.symm
      · have hk : k9 < c9 := Nat.lt_of_not_le fun z => h11 ((nI_leI (by omega) (by omega)).mpr z)
        have ho := hch.le (t := k9) (by omega)
        have hnn := hb.le (t := mn ι 59 k9) (by omega)
        have inner : ∀ (f : Nat) (i : Nat) (mo : Int32), mn ι 47 (mn ι 59 k9) - i < f → (i ≤ mn ι 47 (mn ι 59 k9)) → (mo = (sqP ι 12 47 k9 i).foldl (grS ι n r) 0) → V p l e { frames := 0, cells := 0, slots := 0, locals := 0 } s m args below meth c D B α0 ν 8 Q 0 0 ν ι ρ ℓ 30 [(6, sI (nI (12 * mn ι 59 k9 + i))), (5, sI (nI (mn ι 59 k9))), (4, sI (nI k9)), (3, sI mo), (0, sR 10 0 0), (1, sI n), (2, sI z)] [] := by
          intro f
          induction f with
          | zero => intros; omega
          | succ f ih2 =>
                  intro i mo hf2 hi0 hpre
                  refine V_iload C d_Mo_greatest_30 rfl ?_
                  refine V_bipush (v := 12) C d_Mo_greatest_32 (by decide) ?_
                  refine V_iload C d_Mo_greatest_34 rfl ?_
                  refine V_imul C d_Mo_greatest_36 ?_
                  refine V_aload_n C d_Mo_greatest_37 rfl ?_
                  refine V_getR (kx := 7) C d_Mo_greatest_38 cf_Mo (by decide) k_Mo_25 hM.al rfl hM.r7 ?_
                  refine V_iload C d_Mo_greatest_41 rfl ?_
                  refine V_iald C d_Mo_greatest_43 (by decide) rfl hM.n7 rfl (by omega) rfl ?_
                  refine V_iadd C d_Mo_greatest_44 ?_
                  rw [hb.eq (t := mn ι 59 k9) (by omega)]
                  refine V_eqi (ixa 12 (mn ι 59 k9) (mn ι 47 (mn ι 59 k9))) ?_
                  refine V_icmp_ge (tgt := 108) C d_Mo_greatest_45 (by decide) (fun h45 => ?_) (fun h45 => ?_)
                  · have hi : i = mn ι 47 (mn ι 59 k9) := by have := (nI_leI (by omega) (by omega)).mp h45; omega
                    refine V_iinc (v := nI (k9 + 1)) (lv' := [(4, _), (6, _), (5, _), (3, _), (0, _), (1, _), (2, _)]) C d_Mo_greatest_108 rfl (nI_1 k9) (by decide) rfl ?_
                    refine V_goto (tgt := 5) C d_Mo_greatest_111 (by decide) ?_
                    refine V_pick [0, 3, 4, 5, 6] rfl ?_
                    exact ih (k9 + 1) _ (by omega) (by omega) (by rw [sq_s, ← hi]; exact hpre)
                  · have hi : i < mn ι 47 (mn ι 59 k9) := Nat.lt_of_not_le fun z => h45 ((nI_leI (by omega) (by omega)).mpr (by omega))
                    refine V_iload_n C d_Mo_greatest_48 rfl ?_
                    refine V_if_eq (tgt := 62) C d_Mo_greatest_49 (by decide) (fun h49 => ?_) (fun h49 => ?_)
                    · have er : r = 50 := by rw [hr, if_pos h49]
                      subst er
                      refine V_aload_n C d_Mo_greatest_62 rfl ?_
                      refine V_getR (kx := 10) C d_Mo_greatest_63 cf_Mo (by decide) k_Mo_34 hM.al rfl hM.r10 ?_
                      refine V_iload C d_Mo_greatest_66 rfl ?_
                      refine V_iald C d_Mo_greatest_68 (by decide) rfl hM.n10 rfl (by omega) rfl ?_
                      refine V_istore (lv' := [(7, _), (6, _), (5, _), (4, _), (3, _), (0, _), (1, _), (2, _)]) C d_Mo_greatest_69 (by decide) rfl ?_
                      refine V_aload_n C d_Mo_greatest_71 rfl ?_
                      refine V_getR (kx := 9) C d_Mo_greatest_72 cf_Mo (by decide) k_Mo_31 hM.al rfl hM.r9 ?_
                      refine V_iload C d_Mo_greatest_75 rfl ?_
                      refine V_iald C d_Mo_greatest_77 (by decide) rfl hM.n9 rfl (by omega) rfl ?_
                      refine V_iconst (v := 2) C d_Mo_greatest_78 (by decide) ?_
                      refine V_icmp_ne (tgt := 102) C d_Mo_greatest_79 (by decide) (fun h79 => ?_) (fun h79 => ?_)
                      · refine V_iinc (v := nI (12 * mn ι 59 k9 + (i + 1))) (lv' := [(6, _), (7, _), (5, _), (4, _), (3, _), (0, _), (1, _), (2, _)]) C d_Mo_greatest_102 rfl (nI_1 _) (by decide) rfl ?_
                        refine V_goto (tgt := 30) C d_Mo_greatest_105 (by decide) ?_
                        refine V_pick [0, 2, 3, 4, 5, 6, 7] rfl ?_
                        exact ih2 (i + 1) _ (by omega) (by omega) (by rw [sqP_s, fold_s, ← hpre]; clear hQ C ih ih2; unfold grS; grind)
                      · refine V_aload_n C d_Mo_greatest_82 rfl ?_
                        refine V_getR (kx := 8) C d_Mo_greatest_83 cf_Mo (by decide) k_Mo_28 hM.al rfl hM.r8 ?_
                        refine V_iload C d_Mo_greatest_86 rfl ?_
                        refine V_iald C d_Mo_greatest_88 (by decide) rfl hM.n8 rfl (by omega) rfl ?_
                        refine V_iload_n C d_Mo_greatest_89 rfl ?_
                        refine V_icmp_ne (tgt := 102) C d_Mo_greatest_90 (by decide) (fun h90 => ?_) (fun h90 => ?_)
                        · refine V_iinc (v := nI (12 * mn ι 59 k9 + (i + 1))) (lv' := [(6, _), (7, _), (5, _), (4, _), (3, _), (0, _), (1, _), (2, _)]) C d_Mo_greatest_102 rfl (nI_1 _) (by decide) rfl ?_
                          refine V_goto (tgt := 30) C d_Mo_greatest_105 (by decide) ?_
                          refine V_pick [0, 2, 3, 4, 5, 6, 7] rfl ?_
                          exact ih2 (i + 1) _ (by omega) (by omega) (by rw [sqP_s, fold_s, ← hpre]; clear hQ C ih ih2; unfold grS; grind)
                        · refine V_iload C d_Mo_greatest_93 rfl ?_
                          refine V_iload_n C d_Mo_greatest_95 rfl ?_
                          refine V_icmp_le (tgt := 102) C d_Mo_greatest_96 (by decide) (fun h96 => ?_) (fun h96 => ?_)
                          · refine V_iinc (v := nI (12 * mn ι 59 k9 + (i + 1))) (lv' := [(6, _), (7, _), (5, _), (4, _), (3, _), (0, _), (1, _), (2, _)]) C d_Mo_greatest_102 rfl (nI_1 _) (by decide) rfl ?_
                            refine V_goto (tgt := 30) C d_Mo_greatest_105 (by decide) ?_
                            refine V_pick [0, 2, 3, 4, 5, 6, 7] rfl ?_
                            exact ih2 (i + 1) _ (by omega) (by omega) (by rw [sqP_s, fold_s, ← hpre]; clear hQ C ih ih2; unfold grS; grind)
                          · refine V_iload C d_Mo_greatest_99 rfl ?_
                            refine V_istore_n (lv' := [(3, _), (7, _), (6, _), (5, _), (4, _), (0, _), (1, _), (2, _)]) C d_Mo_greatest_101 (by decide) rfl ?_
                            refine V_iinc (v := nI (12 * mn ι 59 k9 + (i + 1))) (lv' := [(6, _), (3, _), (7, _), (5, _), (4, _), (0, _), (1, _), (2, _)]) C d_Mo_greatest_102 rfl (nI_1 _) (by decide) rfl ?_
                            refine V_goto (tgt := 30) C d_Mo_greatest_105 (by decide) ?_
                            refine V_pick [0, 3, 4, 1, 5, 6, 7] rfl ?_
                            exact ih2 (i + 1) _ (by omega) (by omega) (by rw [sqP_s, fold_s, ← hpre]; clear hQ C ih ih2; unfold grS; grind)
                    · have er : r = 51 := by rw [hr, if_neg h49]
                      subst er
                      refine V_aload_n C d_Mo_greatest_52 rfl ?_
                      refine V_getR (kx := 11) C d_Mo_greatest_53 cf_Mo (by decide) k_Mo_37 hM.al rfl hM.r11 ?_
                      refine V_iload C d_Mo_greatest_56 rfl ?_
                      refine V_iald C d_Mo_greatest_58 (by decide) rfl hM.n11 rfl (by omega) rfl ?_
                      refine V_goto (tgt := 69) C d_Mo_greatest_59 (by decide) ?_
                      refine V_istore (lv' := [(7, _), (6, _), (5, _), (4, _), (3, _), (0, _), (1, _), (2, _)]) C d_Mo_greatest_69 (by decide) rfl ?_
                      refine V_aload_n C d_Mo_greatest_71 rfl ?_
                      refine V_getR (kx := 9) C d_Mo_greatest_72 cf_Mo (by decide) k_Mo_31 hM.al rfl hM.r9 ?_
                      refine V_iload C d_Mo_greatest_75 rfl ?_
                      refine V_iald C d_Mo_greatest_77 (by decide) rfl hM.n9 rfl (by omega) rfl ?_
                      refine V_iconst (v := 2) C d_Mo_greatest_78 (by decide) ?_
                      refine V_icmp_ne (tgt := 102) C d_Mo_greatest_79 (by decide) (fun h79 => ?_) (fun h79 => ?_)
                      · refine V_iinc (v := nI (12 * mn ι 59 k9 + (i + 1))) (lv' := [(6, _), (7, _), (5, _), (4, _), (3, _), (0, _), (1, _), (2, _)]) C d_Mo_greatest_102 rfl (nI_1 _) (by decide) rfl ?_
                        refine V_goto (tgt := 30) C d_Mo_greatest_105 (by decide) ?_
                        refine V_pick [0, 2, 3, 4, 5, 6, 7] rfl ?_
                        exact ih2 (i + 1) _ (by omega) (by omega) (by rw [sqP_s, fold_s, ← hpre]; clear hQ C ih ih2; unfold grS; grind)
                      · refine V_aload_n C d_Mo_greatest_82 rfl ?_
                        refine V_getR (kx := 8) C d_Mo_greatest_83 cf_Mo (by decide) k_Mo_28 hM.al rfl hM.r8 ?_
                        refine V_iload C d_Mo_greatest_86 rfl ?_
                        refine V_iald C d_Mo_greatest_88 (by decide) rfl hM.n8 rfl (by omega) rfl ?_
                        refine V_iload_n C d_Mo_greatest_89 rfl ?_
                        refine V_icmp_ne (tgt := 102) C d_Mo_greatest_90 (by decide) (fun h90 => ?_) (fun h90 => ?_)
                        · refine V_iinc (v := nI (12 * mn ι 59 k9 + (i + 1))) (lv' := [(6, _), (7, _), (5, _), (4, _), (3, _), (0, _), (1, _), (2, _)]) C d_Mo_greatest_102 rfl (nI_1 _) (by decide) rfl ?_
                          refine V_goto (tgt := 30) C d_Mo_greatest_105 (by decide) ?_
                          refine V_pick [0, 2, 3, 4, 5, 6, 7] rfl ?_
                          exact ih2 (i + 1) _ (by omega) (by omega) (by rw [sqP_s, fold_s, ← hpre]; clear hQ C ih ih2; unfold grS; grind)
                        · refine V_iload C d_Mo_greatest_93 rfl ?_
                          refine V_iload_n C d_Mo_greatest_95 rfl ?_
                          refine V_icmp_le (tgt := 102) C d_Mo_greatest_96 (by decide) (fun h96 => ?_) (fun h96 => ?_)
                          · refine V_iinc (v := nI (12 * mn ι 59 k9 + (i + 1))) (lv' := [(6, _), (7, _), (5, _), (4, _), (3, _), (0, _), (1, _), (2, _)]) C d_Mo_greatest_102 rfl (nI_1 _) (by decide) rfl ?_
                            refine V_goto (tgt := 30) C d_Mo_greatest_105 (by decide) ?_
                            refine V_pick [0, 2, 3, 4, 5, 6, 7] rfl ?_
                            exact ih2 (i + 1) _ (by omega) (by omega) (by rw [sqP_s, fold_s, ← hpre]; clear hQ C ih ih2; unfold grS; grind)
                          · refine V_iload C d_Mo_greatest_99 rfl ?_
                            refine V_istore_n (lv' := [(3, _), (7, _), (6, _), (5, _), (4, _), (0, _), (1, _), (2, _)]) C d_Mo_greatest_101 (by decide) rfl ?_
                            refine V_iinc (v := nI (12 * mn ι 59 k9 + (i + 1))) (lv' := [(6, _), (3, _), (7, _), (5, _), (4, _), (0, _), (1, _), (2, _)]) C d_Mo_greatest_102 rfl (nI_1 _) (by decide) rfl ?_
                            refine V_goto (tgt := 30) C d_Mo_greatest_105 (by decide) ?_
                            refine V_pick [0, 3, 4, 1, 5, 6, 7] rfl ?_
                            exact ih2 (i + 1) _ (by omega) (by omega) (by rw [sqP_s, fold_s, ← hpre]; clear hQ C ih ih2; unfold grS; grind)
        refine V_aload_n C d_Mo_greatest_14 rfl ?_
        refine V_getR (kx := 19) C d_Mo_greatest_15 cf_Mo (by decide) k_Mo_58 hM.al rfl hM.r19 ?_
        refine V_iload C d_Mo_greatest_18 rfl ?_
        refine V_iald C d_Mo_greatest_20 (by decide) rfl hM.n19 rfl (by omega) rfl ?_
        rw [hch.eq (t := k9) (by omega)]
        refine V_istore (lv' := [(5, _), (4, _), (3, _), (0, _), (1, _), (2, _)]) C d_Mo_greatest_21 (by decide) rfl ?_
        refine V_bipush (v := 12) C d_Mo_greatest_23 (by decide) ?_
        refine V_iload C d_Mo_greatest_25 rfl ?_
        refine V_imul C d_Mo_greatest_27 ?_
        refine V_eqi (y := nI (12 * mn ι 59 k9 + 0)) (show nI 12 * nI (mn ι 59 k9) = _ from pk_mul 12 _) ?_
        refine V_istore (lv' := [(6, _), (5, _), (4, _), (3, _), (0, _), (1, _), (2, _)]) C d_Mo_greatest_28 (by decide) rfl ?_
        refine V_pick [0, 1, 2, 3, 4, 5, 6] rfl ?_
        exact inner (mn ι 47 (mn ι 59 k9) + 1) 0 _ (by omega) (by omega) (by rw [sqP_0]; exact hpre0)
  refine V_iconst (v := 0) C d_Mo_greatest_0 (by decide) ?_
  refine V_istore_n (lv' := [(3, _), (0, _), (1, _), (2, _)]) C d_Mo_greatest_1 (by decide) rfl ?_
  refine V_iconst (v := 0) C d_Mo_greatest_2 (by decide) ?_
  refine V_istore (lv' := [(4, _), (3, _), (0, _), (1, _), (2, _)]) C d_Mo_greatest_3 (by decide) rfl ?_
  refine V_pick [0, 1, 2, 3, 4] rfl ?_
  exact outer (c9 + 1) 0 0 (by omega) (by omega) rfl
