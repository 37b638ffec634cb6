set_option maxHeartbeats 1000000 in
set_option maxRecDepth 10000 in
theorem c_Li_nothingIsMissing {ν : Nu} {ι : Io} {ρ : Ro} {ℓ : Lo} {M : Io} {ρ0 : Ro} {N c9 w9 n9 z9 kn g9 : Nat} (hI : IV ν M ρ0 N c9 w9 n9 z9 kn g9) (hC : CuL M ι ρ0 ρ c9) {z1 : Nat} {kx : Nat → Nat} (hT : T3 M ι ρ (sq M 12 47 c9) z1 kx) : Ct y_Li_nothingIsMissing (Cond.code y_Li_nothingIsMissing b_Li_nothingIsMissing 5 (some .boolean) :: tb_) { frames := 1, cells := 0, slots := 0, locals := 23 } [sR 0 0 0] ν ι ρ ℓ (fun v ν1 ι1 ρ1 ℓ1 => ν = ν1 ∧ ρ = ρ1 ∧ ℓ = ℓ1 ∧ ∃ b : Bool, some (sI (b2 (b = true))) = v ∧ (b = true → ι1 = ι ∧ ∀ j ∈ sq M 16 52 c9, ¬ (ι 28 0 0 (slR M j) ≠ 0 ∧ meR M c9 j < 0)) ∧ (b = false → ∃ l j suf, sq M 16 52 c9 = l ++ j :: suf ∧ (∀ j9 ∈ l, ¬ (ι 28 0 0 (slR M j9) ≠ 0 ∧ meR M c9 j9 < 0)) ∧ (ι 28 0 0 (slR M j) ≠ 0 ∧ meR M c9 j < 0) ∧ ι1 = up4 (up4 (up4 ι 0 0 0 15 2) 0 0 0 16 (nI (j / 16))) 0 0 0 17 (nI (j % 16)))) (noX) := by
  refine Ct.ofV (by decide) (Nat.le_of_ble_eq_true rfl) rfl ?_
  intro p l e s m args below meth c D B tW α0 Q C hQ
  have hO := hC.os hI.os
  have hc12 := hI.ic.2.2.1
  have hlen : (sq M 12 47 c9).length ≤ 144 := hI.lk.nl
  have loop : ∀ (f : Nat) (k : Nat), c9 - k < f → k ≤ c9 → (∀ j ∈ sq M 16 52 k, ¬ (ι 28 0 0 (slR M j) ≠ 0 ∧ meR M c9 j < 0)) → V p l e { frames := 1, cells := 0, slots := 0, locals := 23 } s m args below meth c D B α0 ν 5 Q 0 0 ν ι ρ ℓ 2 [(1, sI (nI k)), (0, sR 0 0 0)] [] := by
    intro f
    induction f with
    | zero => intros; omega
    | succ f ih =>
      intro k hf hk0 hm0
      refine V_iload_n C d_Li_nothingIsMissing_2 rfl ?_
      refine V_aload_n C d_Li_nothingIsMissing_3 rfl ?_
      refine V_getI (kx := 2) C d_Li_nothingIsMissing_4 cf_Li (by decide) k_Li_48 (nn hO.n0) rfl ?_
      refine V_eqi (y := nI c9) hC.2.2 ?_
      refine V_icmp_ge (tgt := 112) C d_Li_nothingIsMissing_7 (by decide) (fun h7 => ?_) (fun h7 => ?_)
      · have hk : k = c9 := by have := (nI_leI (a := c9) (b := k) (by omega) (by omega)).mp h7; omega
        subst hk
        refine V_iconst (v := 1) C d_Li_nothingIsMissing_112 (by decide) ?_
        refine V_zret C hQ (by decide) (by decide) d_Li_nothingIsMissing_113 rfl rfl ?_
        exact ⟨rfl, rfl, rfl, true, rfl, fun _ => ⟨rfl, hm0⟩, (fun z => nomatch z)⟩
      · have hk : k < c9 := Nat.lt_of_not_le fun z => h7 ((nI_leI (by omega) (by omega)).mpr z)
        obtain ⟨ho, h27, h26, hU⟩ := hC.un hI hk
        have h12 := hI.N12
        refine V_aload_n C d_Li_nothingIsMissing_10 rfl ?_
        refine V_getR (kx := 0) C d_Li_nothingIsMissing_11 cf_Li (by decide) k_Li_11 (nn hO.n0) rfl hO.r00 ?_
        refine V_aload_n C d_Li_nothingIsMissing_14 rfl ?_
        refine V_getR (kx := 1) C d_Li_nothingIsMissing_15 cf_Li (by decide) k_Li_17 (nn hO.n0) rfl hO.r01 ?_
        refine V_iload_n C d_Li_nothingIsMissing_18 rfl ?_
        refine V_iald C d_Li_nothingIsMissing_19 (by decide) rfl hO.n27 rfl (by omega) rfl ?_
        refine V_eqi (y := nI (mn M 59 k)) h27 ?_
        refine V_aald C d_Li_nothingIsMissing_20 (by decide) (by decide) rfl hO.n26 rfl (by omega) rfl h26 ?_
        refine V_astore_n (lv' := [(2, _), (1, _), (0, _)]) C d_Li_nothingIsMissing_21 (by decide) rfl ?_
        refine V_iconst (v := 0) C d_Li_nothingIsMissing_22 (by decide) ?_
        refine V_istore_n (lv' := [(3, _), (2, _), (1, _), (0, _)]) C d_Li_nothingIsMissing_23 (by decide) rfl ?_
        refine V_pick [0, 1, 2, 3] rfl ?_
        have inner : ∀ (f2 : Nat) (r : Nat), (mn M 52 (mn M 59 k)) - r < f2 → r ≤ (mn M 52 (mn M 59 k)) → (∀ j ∈ sqP M 16 52 k r, ¬ (ι 28 0 0 (slR M j) ≠ 0 ∧ meR M c9 j < 0)) → V p l e { frames := 1, cells := 0, slots := 0, locals := 23 } s m args below meth c D B α0 ν 5 Q 0 0 ν ι ρ ℓ 24 [(3, sI (nI r)), (2, sR 8 (mn M 59 k) 0), (1, sI (nI k)), (0, sR 0 0 0)] [] := by
          intro f2
          induction f2 with
          | zero => intros; omega
          | succ f2 ihi =>
            intro r hf2 hr0 hm1
            have l16 := hU.r16
            refine V_iload_n C d_Li_nothingIsMissing_24 rfl ?_
            refine V_aload_n C d_Li_nothingIsMissing_25 rfl ?_
            refine V_getI (kx := 5) C d_Li_nothingIsMissing_26 cf_Un (by decide) k_Li_147 hU.al rfl ?_
            refine V_eqi (y := nI (mn M 52 (mn M 59 k))) hU.er ?_
            refine V_icmp_ge (tgt := 106) C d_Li_nothingIsMissing_29 (by decide) (fun h29 => ?_) (fun h29 => ?_)
            · have hr : r = (mn M 52 (mn M 59 k)) := by have := (nI_leI (a := (mn M 52 (mn M 59 k))) (b := r) (by omega) (by omega)).mp h29; omega
              refine V_iinc (v := nI (k + 1)) (lv' := [(1, _), (3, _), (2, _), (0, _)]) C d_Li_nothingIsMissing_106 rfl (nI_1 k) (by decide) rfl ?_
              refine V_goto (tgt := 2) C d_Li_nothingIsMissing_109 (by decide) ?_
              refine V_pick [0, 3] rfl ?_
              exact ih (k + 1) (by omega) (by omega) (by rw [sq_s, ← hr]; exact hm1)
            · have hr : r < (mn M 52 (mn M 59 k)) := Nat.lt_of_not_le fun z => h29 ((nI_leI (by omega) (by omega)).mpr z)
              have hcv := (hI.cv ho).2.2 r hr
              have hdo := (hI.dd ho).2 r hr
              have e53 : ι 6 (mn M 59 k) r 0 = nI (mn M 53 (16 * mn M 59 k + r)) := ((hC.1 6 _ _ _ (by unfold isCl; omega)).trans hcv.1).trans (hI.bd.b53.eq (by omega))
              have e56 : ι 6 (mn M 59 k) r 3 = nI (mn M 56 (16 * mn M 59 k + r)) := ((hC.1 6 _ _ _ (by unfold isCl; omega)).trans hcv.2.2.2.1).trans (hI.bd.b56.eq (by omega))
              have l53 := hI.bd.b53.le (t := (16 * mn M 59 k + r)) (by omega)
              have hin : 12 * mn M 59 k + mn M 56 (16 * mn M 59 k + r) ∈ (sq M 12 47 c9) := sq_mem hk hdo.2
              have hjn : (16 * mn M 59 k + r) ∈ sq M 16 52 c9 := sq_mem hk hr
              obtain ⟨p1, p2, p3⟩ := hT.2.2.1 _ hin
              have hnu : nuR M (16 * mn M 59 k + r) = M 48 0 0 (12 * mn M 59 k + mn M 56 (16 * mn M 59 k + r)) := by unfold nuR; rw [show (16 * mn M 59 k + r) / 16 = mn M 59 k by omega]
              have hsl : slR M (16 * mn M 59 k + r) = 8 * mn M 59 k + mn M 53 (16 * mn M 59 k + r) := by unfold slR; rw [show (16 * mn M 59 k + r) / 16 = mn M 59 k by omega]
              have hdv : (16 * mn M 59 k + r) / 16 = mn M 59 k := by omega
              have hmd : (16 * mn M 59 k + r) % 16 = r := by omega
              obtain ⟨suf, hsp⟩ := sq_split (m := 16) (fld := 52) hk hr
              refine V_aload_n C d_Li_nothingIsMissing_32 rfl ?_
              refine V_getR (kx := 4) C d_Li_nothingIsMissing_33 cf_Un (by decide) k_Li_150 hU.al rfl hU.r4 ?_
              refine V_iload_n C d_Li_nothingIsMissing_36 rfl ?_
              refine V_aald C d_Li_nothingIsMissing_37 (by decide) (by decide) rfl hU.n4 rfl (by omega) rfl (hU.rf hr).2 ?_
              refine V_astore (lv' := [(4, _), (3, _), (2, _), (1, _), (0, _)]) C d_Li_nothingIsMissing_38 (by decide) rfl ?_
              refine V_aload_n C d_Li_nothingIsMissing_40 rfl ?_
              refine V_getR (kx := 4) C d_Li_nothingIsMissing_41 cf_Li (by decide) k_Li_28 (nn hO.n0) rfl hO.r04 ?_
              refine V_aload_n C d_Li_nothingIsMissing_44 rfl ?_
              refine V_getR (kx := 1) C d_Li_nothingIsMissing_45 cf_Li (by decide) k_Li_17 (nn hO.n0) rfl hO.r01 ?_
              refine V_iload_n C d_Li_nothingIsMissing_48 rfl ?_
              refine V_iald C d_Li_nothingIsMissing_49 (by decide) rfl hO.n27 rfl (by omega) rfl ?_
              refine V_eqi (y := nI (mn M 59 k)) h27 ?_
              refine V_aload C d_Li_nothingIsMissing_50 rfl ?_
              refine V_getI (kx := 0) C d_Li_nothingIsMissing_52 cf_Rf (by decide) k_Li_154 (nn (hU.rf hr).1) rfl ?_
              refine V_eqi (y := nI (mn M 53 (16 * mn M 59 k + r))) e53 ?_
              refine V_callSN (as := [_, _]) C d_Li_nothingIsMissing_55 (c_OL_slotOf (a := mn M 59 k) (b := mn M 53 (16 * mn M 59 k + r))) m_OL_slotOf k_Li_168 ⟨by decide, by decide⟩ (Nat.le_of_ble_eq_true rfl) ⟨by decide, by decide⟩ rfl ?_
              rintro _ _ _ _ _ ⟨rfl, rfl, rfl, rfl, rfl⟩
              dsimp only [Option.toList, List.cons_append, List.nil_append]
              refine V_zald C d_Li_nothingIsMissing_58 (by decide) rfl hO.n28 rfl (by omega) rfl ?_
              refine V_if_eq (tgt := 100) C d_Li_nothingIsMissing_59 (by decide) (fun h59 => ?_) (fun h59 => ?_)
              · have g9 : ∀ j ∈ sqP M 16 52 k (r + 1), ¬ (ι 28 0 0 (slR M j) ≠ 0 ∧ meR M c9 j < 0) := by
                  rw [sqP_s]
                  intro j hj
                  rcases List.mem_append.mp hj with hj | hj
                  · exact hm1 j hj
                  · rw [List.mem_singleton.mp hj]; exact fun z => z.1 (by rw [hsl]; exact h59)
                refine V_iinc (v := nI (r + 1)) (lv' := [(3, _), (4, _), (2, _), (1, _), (0, _)]) C d_Li_nothingIsMissing_100 rfl (nI_1 r) (by decide) rfl ?_
                refine V_goto (tgt := 24) C d_Li_nothingIsMissing_103 (by decide) ?_
                refine V_pick [0, 2, 3, 4] rfl ?_
                exact ihi (r + 1) (by omega) (by omega) g9
              · refine V_aload_n C d_Li_nothingIsMissing_62 rfl ?_
                refine V_getR (kx := 3) C d_Li_nothingIsMissing_63 cf_Li (by decide) k_Li_24 (nn hO.n0) rfl hO.r03 ?_
                refine V_aload_n C d_Li_nothingIsMissing_66 rfl ?_
                refine V_getR (kx := 1) C d_Li_nothingIsMissing_67 cf_Li (by decide) k_Li_17 (nn hO.n0) rfl hO.r01 ?_
                refine V_iload_n C d_Li_nothingIsMissing_70 rfl ?_
                refine V_iald C d_Li_nothingIsMissing_71 (by decide) rfl hO.n27 rfl (by omega) rfl ?_
                refine V_eqi (y := nI (mn M 59 k)) h27 ?_
                refine V_aload C d_Li_nothingIsMissing_72 rfl ?_
                refine V_getI (kx := 3) C d_Li_nothingIsMissing_74 cf_Rf (by decide) k_Li_159 (nn (hU.rf hr).1) rfl ?_
                refine V_eqi (y := nI (mn M 56 (16 * mn M 59 k + r))) e56 ?_
                refine V_callV (as := [_, _]) C d_Li_nothingIsMissing_77 (c_NT_meaningOf hO (o9 := mn M 59 k) (t9 := mn M 56 (16 * mn M 59 k + r)) (k9 := kx (12 * mn M 59 k + mn M 56 (16 * mn M 59 k + r))) (by have := hI.nb _ hin; omega) p3) m_NT_meaningOf cf_NT k_Li_162 (nn hO.n3) ⟨by decide, by decide⟩ (Nat.le_of_ble_eq_true rfl) ⟨by decide, by decide⟩ rfl ?_
                rintro _ _ _ _ _ ⟨rfl, rfl, rfl, rfl, rfl⟩
                dsimp only [Option.toList, List.cons_append, List.nil_append]
                refine V_getI (kx := 1) C d_Li_nothingIsMissing_80 cf_Me (by decide) k_Li_66 (nn (hO.me _ (show kx (12 * mn M 59 k + mn M 56 (16 * mn M 59 k + r)) < 144 by have := hT.2.1; omega)).1) rfl ?_
                refine V_iconst (v := 3) C d_Li_nothingIsMissing_83 (by decide) ?_
                refine V_icmp_ne (tgt := 100) C d_Li_nothingIsMissing_84 (by decide) (fun h84 => ?_) (fun h84 => ?_)
                · have g9 : ∀ j ∈ sqP M 16 52 k (r + 1), ¬ (ι 28 0 0 (slR M j) ≠ 0 ∧ meR M c9 j < 0) := by
                    rw [sqP_s]
                    intro j hj
                    rcases List.mem_append.mp hj with hj | hj
                    · exact hm1 j hj
                    · rw [List.mem_singleton.mp hj]; exact fun z => h84 (by rw [(hT.2.2.2.2.2.1 _ p1).1, p2, ← hnu]; exact (me_neg hI.nb).mp z.2)
                  refine V_iinc (v := nI (r + 1)) (lv' := [(3, _), (4, _), (2, _), (1, _), (0, _)]) C d_Li_nothingIsMissing_100 rfl (nI_1 r) (by decide) rfl ?_
                  refine V_goto (tgt := 24) C d_Li_nothingIsMissing_103 (by decide) ?_
                  refine V_pick [0, 2, 3, 4] rfl ?_
                  exact ihi (r + 1) (by omega) (by omega) g9
                · have hcd : (ι 28 0 0 (slR M (16 * mn M 59 k + r)) ≠ 0 ∧ meR M c9 (16 * mn M 59 k + r) < 0) := ⟨by rw [hsl]; exact h59, (me_neg hI.nb).mpr (by rw [hnu, ← p2, ← (hT.2.2.2.2.2.1 _ p1).1]; exact h84)⟩
                  refine V_aload_n C d_Li_nothingIsMissing_87 rfl ?_
                  refine V_iconst (v := 2) C d_Li_nothingIsMissing_88 (by decide) ?_
                  refine V_aload_n C d_Li_nothingIsMissing_89 rfl ?_
                  refine V_getR (kx := 1) C d_Li_nothingIsMissing_90 cf_Li (by decide) k_Li_17 (nn hO.n0) rfl hO.r01 ?_
                  refine V_iload_n C d_Li_nothingIsMissing_93 rfl ?_
                  refine V_iald C d_Li_nothingIsMissing_94 (by decide) rfl hO.n27 rfl (by omega) rfl ?_
                  refine V_eqi (y := nI (mn M 59 k)) h27 ?_
                  refine V_iload_n C d_Li_nothingIsMissing_95 rfl ?_
                  refine V_callV (as := [_, _, _]) C d_Li_nothingIsMissing_96 (c_Li_tell hO) m_Li_tell cf_Li k_Li_103 (nn hO.n0) ⟨by decide, by decide⟩ (Nat.le_of_ble_eq_true rfl) ⟨by decide, by decide⟩ rfl ?_
                  rintro _ _ _ _ _ ⟨rfl, rfl, rfl, rfl, rfl⟩
                  dsimp only [Option.toList, List.cons_append, List.nil_append]
                  refine V_zret C hQ (by decide) (by decide) d_Li_nothingIsMissing_99 rfl rfl ?_
                  exact ⟨rfl, rfl, rfl, false, rfl, (fun z => nomatch z), fun _ => ⟨_, _, suf, hsp, hm1, hcd, by rw [hdv, hmd]⟩⟩
        exact inner ((mn M 52 (mn M 59 k)) + 1) 0 (by omega) (by omega) (by rw [sqP_0]; exact hm0)
  refine V_iconst (v := 0) C d_Li_nothingIsMissing_0 (by decide) ?_
  refine V_istore_n (lv' := [(1, _), (0, _)]) C d_Li_nothingIsMissing_1 (by decide) rfl ?_
  refine V_pick [0, 1] rfl ?_
  exact loop (c9 + 1) 0 (by omega) (by omega) (fun j hj => absurd hj List.not_mem_nil)
set_option maxHeartbeats 1000000 in
set_option maxRecDepth 10000 in
theorem c_Li_nextPlace {ν : Nu} {ι : Io} {ρ : Ro} {ℓ : Lo} (hO : OS ν ρ) {q : Nat} (hq : q ≤ 7) {n : Int32} : Ct y_Li_nextPlace (Cond.code y_Li_nextPlace b_Li_nextPlace 6 (some .int) :: tb_) { frames := 0, cells := 0, slots := 0, locals := 0 } [sR 0 0 0, sI (nI q), sI n] ν ι ρ ℓ (pEq (some (sI (nxt (endI ι) (nI q)))) ν (npI ι (nI q) n) ρ ℓ) (noX) := by
  refine Ct.ofV (by decide) (Nat.le_of_ble_eq_true rfl) rfl ?_
  intro p l e s m args below meth c D B tW α0 Q C hQ
  refine V_aload_n C d_Li_nextPlace_0 rfl ?_
  refine V_getI (kx := 9) C d_Li_nextPlace_1 cf_Li (by decide) k_Li_55 (nn hO.n0) rfl ?_
  refine V_aload_n C d_Li_nextPlace_4 rfl ?_
  refine V_getI (kx := 11) C d_Li_nextPlace_5 cf_Li (by decide) k_Li_113 (nn hO.n0) rfl ?_
  refine V_iadd C d_Li_nextPlace_8 ?_
  refine V_istore_n (lv' := [(3, _), (0, _), (1, _), (2, _)]) C d_Li_nextPlace_9 (by decide) rfl ?_
  refine V_iconst (v := 1) C d_Li_nextPlace_10 (by decide) ?_
  refine V_iload_n C d_Li_nextPlace_11 rfl ?_
  refine V_ishl C d_Li_nextPlace_12 ?_
  refine V_iconst (v := 1) C d_Li_nextPlace_13 (by decide) ?_
  refine V_isub C d_Li_nextPlace_14 ?_
  refine V_istore (lv' := [(4, _), (3, _), (0, _), (1, _), (2, _)]) C d_Li_nextPlace_15 (by decide) rfl ?_
  refine V_iload_n C d_Li_nextPlace_17 rfl ?_
  refine V_iload C d_Li_nextPlace_18 rfl ?_
  refine V_iadd C d_Li_nextPlace_20 ?_
  refine V_iload C d_Li_nextPlace_21 rfl ?_
  refine V_iconst (v := (-1)) C d_Li_nextPlace_23 (by decide) ?_
  refine V_ixor C d_Li_nextPlace_24 ?_
  refine V_iand C d_Li_nextPlace_25 ?_
  refine V_eqi (y := nxt (endI ι) (nI q)) (nx_eq hq) ?_
  refine V_istore (lv' := [(5, _), (4, _), (3, _), (0, _), (1, _), (2, _)]) C d_Li_nextPlace_26 (by decide) rfl ?_
  refine V_aload_n C d_Li_nextPlace_28 rfl ?_
  refine V_dup C d_Li_nextPlace_29 rfl ?_
  refine V_getI (kx := 14) C d_Li_nextPlace_30 cf_Li (by decide) k_Li_122 (nn hO.n0) rfl ?_
  refine V_iload C d_Li_nextPlace_33 rfl ?_
  refine V_iload_n C d_Li_nextPlace_35 rfl ?_
  refine V_isub C d_Li_nextPlace_36 ?_
  refine V_iadd C d_Li_nextPlace_37 ?_
  refine V_putI (kx := 14) C d_Li_nextPlace_38 cf_Li (by decide) k_Li_122 (nn hO.n0) rfl rfl rfl rfl ?_
  refine V_aload_n C d_Li_nextPlace_41 rfl ?_
  refine V_iload C d_Li_nextPlace_42 rfl ?_
  refine V_iload_n C d_Li_nextPlace_44 rfl ?_
  refine V_iadd C d_Li_nextPlace_45 ?_
  refine V_aload_n C d_Li_nextPlace_46 rfl ?_
  refine V_getI (kx := 9) C d_Li_nextPlace_47 cf_Li (by decide) k_Li_55 (nn hO.n0) rfl ?_
  refine V_isub C d_Li_nextPlace_50 ?_
  refine V_putI (kx := 11) C d_Li_nextPlace_51 cf_Li (by decide) k_Li_113 (nn hO.n0) rfl rfl rfl rfl ?_
  refine V_iload C d_Li_nextPlace_54 rfl ?_
  refine V_iret C hQ (by decide) (by decide) d_Li_nextPlace_56 rfl ?_
  exact ⟨rfl, rfl, rfl, rfl, rfl⟩
theorem tk_s {ls : List Nat} {t : Nat} (h : t < ls.length) : ls.take (t + 1) = ls.take t ++ [ls[t]] := by
  rw [List.take_add_one, List.getElem?_eq_getElem h]
  rfl
def Pk9 (r k : Nat) : Prop := (r = 0 ∧ 11 ≤ k ∧ k ≤ 14) ∨ r = 30
theorem pk9_c {r k : Nat} (h : Pk9 r k) : isCl r ∧ ¬ (r = 0 ∧ k = 2) := by unfold Pk9 at h; unfold isCl; omega
def Pl9 (r k : Nat) : Prop := (r = 0 ∧ 11 ≤ k ∧ k ≤ 14) ∨ r = 30 ∨ (r = 1 ∧ k = 7)
theorem pl9_c {r k : Nat} (h : Pl9 r k) : isCl r ∧ ¬ (r = 0 ∧ k = 2) := by unfold Pl9 at h; unfold isCl; omega
theorem np_e {ι ι1 : Io} {q n : Int32} (h : Eqx Pl9 ι ι1) : Eqx Pl9 ι (npI ι1 q n) := by
  unfold npI
  exact (h.up (Or.inl ⟨rfl, by omega⟩)).up (Or.inl ⟨rfl, by omega⟩)
theorem np_k {ι ι1 : Io} {q n : Int32} (h : Eqx Pk9 ι ι1) : Eqx Pk9 ι (npI ι1 q n) := by
  unfold npI
  exact (h.up (Or.inl ⟨rfl, by omega⟩)).up (Or.inl ⟨rfl, by omega⟩)
theorem sc_e {ι ι1 : Io} {s : Nat} {q n : Int32} (h : Eqx Pk9 ι ι1) : Eqx Pk9 ι (scI ι1 s q n) := ((np_k h).up (Or.inr rfl)).up (Or.inl ⟨rfl, by omega⟩)
theorem cm_e {ι ι1 : Io} {k : Nat} {q n : Int32} (h : Eqx Pl9 ι ι1) : Eqx Pl9 ι (cmI ι1 k q n) := ((np_e h).up (Or.inr (Or.inr ⟨rfl, rfl⟩))).up (Or.inl ⟨rfl, by omega⟩)
theorem T3.el {M ι ι1 : Io} {ρ : Ro} {l : List Nat} {z : Nat} {kx : Nat → Nat} (h : T3 M ι ρ l z kx) (e : Eqx Pl9 ι ι1) : T3 M ι1 ρ l z kx := h.cg (fun k f hf => e 1 k 0 f (by unfold Pl9; omega)) (fun f => e 3 0 0 f (by unfold Pl9; omega))
set_option maxHeartbeats 1000000 in
set_option maxRecDepth 10000 in
theorem c_Li_layOutKind {ν : Nu} {ι : Io} {ρ : Ro} {ℓ : Lo} {M : Io} {ρ0 : Ro} {N c9 w9 n9 z9 kn g9 : Nat} (hI : IV ν M ρ0 N c9 w9 n9 z9 kn g9) (hC : CuL M ι ρ0 ρ c9) {x9 : Int32} {F : Ls → Ls} (hL : ∀ L0, B0 x9 L0 → LC ι (F L0)) {o9 k0 k9 : Nat} (hkc : k0 < c9) (hk0 : mn M 59 k0 = o9) : Ct y_Li_layOutKind (Cond.code y_Li_layOutKind b_Li_layOutKind 6 none :: tb_) { frames := 1, cells := 0, slots := 0, locals := 25 } [sR 0 0 0, sI (nI k9), sI (nI o9)] ν ι ρ ℓ (fun v ν1 ι1 ρ1 ℓ1 => none = v ∧ ν = ν1 ∧ ρ = ρ1 ∧ ℓ = ℓ1 ∧ Eqx Pk9 ι ι1 ∧ ∀ L0, B0 x9 L0 → LC ι1 (((List.range (mn M 42 o9)).map (fun z => 8 * o9 + z)).foldl (secS M k9) (F L0))) (noX) := by
  refine Ct.ofV (by decide) (Nat.le_of_ble_eq_true rfl) rfl ?_
  intro p l e s m args below meth c D B tW α0 Q C hQ
  have hO := hC.os hI.os
  have h12 := hI.N12
  obtain ⟨ho, h27, h26, hU⟩ := hC.un hI hkc
  rw [hk0] at ho h26 hU
  have l8 := hU.c8
  have loop : ∀ (f : Nat) (s5 : Nat) (ι1 : Io), mn M 42 o9 - s5 < f → s5 ≤ mn M 42 o9 → CuL M ι1 ρ0 ρ c9 → Eqx Pk9 ι ι1 → (∀ L0, B0 x9 L0 → LC ι1 (((List.range s5).map (fun z => 8 * o9 + z)).foldl (secS M k9) (F L0))) → V p l e { frames := 1, cells := 0, slots := 0, locals := 25 } s m args below meth c D B α0 ν 6 Q 0 0 ν ι1 ρ ℓ 10 [(4, sI (nI s5)), (3, sR 8 o9 0), (0, sR 0 0 0), (1, sI (nI k9)), (2, sI (nI o9))] [] := by
    intro f
    induction f with
    | zero => intros; omega
    | succ f ih =>
      intro s5 ι1 hf hs0 hC1 heq1 hL1
      have hO1 := hC1.os hI.os
      obtain ⟨_, _, _, hU1⟩ := hC1.un hI hkc
      rw [hk0] at hU1
      refine V_iload C d_Li_layOutKind_10 rfl ?_
      refine V_aload_n C d_Li_layOutKind_12 rfl ?_
      refine V_getI (kx := 1) C d_Li_layOutKind_13 cf_Un (by decide) k_Li_181 hU1.al rfl ?_
      refine V_eqi (y := nI (mn M 42 o9)) hU1.ec ?_
      refine V_icmp_ge (tgt := 92) C d_Li_layOutKind_16 (by decide) (fun h16 => ?_) (fun h16 => ?_)
      · have hs : s5 = mn M 42 o9 := by have := (nI_leI (a := mn M 42 o9) (b := s5) (by omega) (by omega)).mp h16; omega
        rw [hs] at hL1
        refine V_vret C hQ (by decide) (by decide) d_Li_layOutKind_92 rfl ?_
        exact ⟨rfl, rfl, rfl, rfl, heq1, hL1⟩
      · have hs : s5 < mn M 42 o9 := Nat.lt_of_not_le fun z => h16 ((nI_leI (by omega) (by omega)).mpr z)
        have hcv := (hI.cv ho).1 s5 hs
        have e0 : ι1 7 o9 s5 0 = M 43 0 0 (8 * o9 + s5) := (hC1.1 7 _ _ _ (by unfold isCl; omega)).trans hcv.1
        have e44 : M 44 0 0 (8 * o9 + s5) = nI (mn M 44 (8 * o9 + s5)) := hI.bd.b44.eq (by omega)
        have l44 := hI.bd.b44.le (t := (8 * o9 + s5)) (by omega)
        have e1 : ι1 7 o9 s5 1 = nI (mn M 44 (8 * o9 + s5)) := ((hC1.1 7 _ _ _ (by unfold isCl; omega)).trans hcv.2.1).trans e44
        have e2 : ι1 7 o9 s5 2 = M 45 0 0 (8 * o9 + s5) := (hC1.1 7 _ _ _ (by unfold isCl; omega)).trans hcv.2.2.1
        refine V_aload_n C d_Li_layOutKind_19 rfl ?_
        refine V_getR (kx := 0) C d_Li_layOutKind_20 cf_Un (by decide) k_Li_184 hU1.al rfl hU1.r0 ?_
        refine V_iload C d_Li_layOutKind_23 rfl ?_
        refine V_aald C d_Li_layOutKind_25 (by decide) (by decide) rfl hU1.n0 rfl (by omega) rfl (hU1.se hs).2.1 ?_
        refine V_astore (lv' := [(5, _), (4, _), (3, _), (0, _), (1, _), (2, _)]) C d_Li_layOutKind_26 (by decide) rfl ?_
        refine V_aload C d_Li_layOutKind_28 rfl ?_
        refine V_getI (kx := 0) C d_Li_layOutKind_30 cf_Se (by decide) k_Li_188 (nn (hU1.se hs).1) rfl ?_
        refine V_eqi (y := M 43 0 0 (8 * o9 + s5)) e0 ?_
        refine V_iload_n C d_Li_layOutKind_33 rfl ?_
        refine V_icmp_ne (tgt := 86) C d_Li_layOutKind_34 (by decide) (fun h34 => ?_) (fun h34 => ?_)
        · have g9 : ∀ L0, B0 x9 L0 → LC ι1 (((List.range (s5 + 1)).map (fun z => 8 * o9 + z)).foldl (secS M k9) (F L0)) := fun L0 h0 => by
            rw [List.range_succ, List.map_append, List.foldl_append]
            show LC ι1 (secS M k9 _ (8 * o9 + s5))
            rw [sec_sk (fun z => h34 z.2)]
            exact hL1 L0 h0
          refine V_iinc (v := nI (s5 + 1)) (lv' := [(4, _), (5, _), (3, _), (0, _), (1, _), (2, _)]) C d_Li_layOutKind_86 rfl (nI_1 s5) (by decide) rfl ?_
          refine V_goto (tgt := 10) C d_Li_layOutKind_89 (by decide) ?_
          refine V_pick [0, 2, 3, 4, 5] rfl ?_
          first
            | exact ih (s5 + 1) ι1 (by omega) (by omega) hC1 heq1 g9
            | (refine V_io (show _ = scI ι1 (8 * o9 + s5) (M 44 0 0 (8 * o9 + s5)) (M 45 0 0 (8 * o9 + s5)) by rw [e44]; rfl) ?_
               exact ih (s5 + 1) _ (by omega) (by omega) (hC1.eqx (sc_e Eqx.rf) (fun _ _ => pk9_c) LFq.rf) (sc_e heq1) (fun L0 h0 => by
                 rw [List.range_succ, List.map_append, List.foldl_append]
                 exact (hL1 L0 h0).sec (by omega) (by rw [← (hL1 L0 h0).2.2.2.2.2.2 _ (by omega)]; exact h48) h34))
        · refine V_aload_n C d_Li_layOutKind_37 rfl ?_
          refine V_getR (kx := 4) C d_Li_layOutKind_38 cf_Li (by decide) k_Li_28 (nn hO1.n0) rfl hO1.r04 ?_
          refine V_iload_n C d_Li_layOutKind_41 rfl ?_
          refine V_iload C d_Li_layOutKind_42 rfl ?_
          refine V_callSN (as := [_, _]) C d_Li_layOutKind_44 (c_OL_slotOf (a := o9) (b := s5)) m_OL_slotOf k_Li_168 ⟨by decide, by decide⟩ (Nat.le_of_ble_eq_true rfl) ⟨by decide, by decide⟩ rfl ?_
          rintro _ _ _ _ _ ⟨rfl, rfl, rfl, rfl, rfl⟩
          dsimp only [Option.toList, List.cons_append, List.nil_append]
          refine V_zald C d_Li_layOutKind_47 (by decide) rfl hO1.n28 rfl (by omega) rfl ?_
          refine V_if_eq (tgt := 86) C d_Li_layOutKind_48 (by decide) (fun h48 => ?_) (fun h48 => ?_)
          · have g9 : ∀ L0, B0 x9 L0 → LC ι1 (((List.range (s5 + 1)).map (fun z => 8 * o9 + z)).foldl (secS M k9) (F L0)) := fun L0 h0 => by
              rw [List.range_succ, List.map_append, List.foldl_append]
              show LC ι1 (secS M k9 _ (8 * o9 + s5))
              rw [sec_sk (fun z => z.1 (((hL1 L0 h0).2.2.2.2.2.2 _ (by omega)).symm.trans h48))]
              exact hL1 L0 h0
            refine V_iinc (v := nI (s5 + 1)) (lv' := [(4, _), (5, _), (3, _), (0, _), (1, _), (2, _)]) C d_Li_layOutKind_86 rfl (nI_1 s5) (by decide) rfl ?_
            refine V_goto (tgt := 10) C d_Li_layOutKind_89 (by decide) ?_
            refine V_pick [0, 2, 3, 4, 5] rfl ?_
            first
              | exact ih (s5 + 1) ι1 (by omega) (by omega) hC1 heq1 g9
              | (refine V_io (show _ = scI ι1 (8 * o9 + s5) (M 44 0 0 (8 * o9 + s5)) (M 45 0 0 (8 * o9 + s5)) by rw [e44]; rfl) ?_
                 exact ih (s5 + 1) _ (by omega) (by omega) (hC1.eqx (sc_e Eqx.rf) (fun _ _ => pk9_c) LFq.rf) (sc_e heq1) (fun L0 h0 => by
                   rw [List.range_succ, List.map_append, List.foldl_append]
                   exact (hL1 L0 h0).sec (by omega) (by rw [← (hL1 L0 h0).2.2.2.2.2.2 _ (by omega)]; exact h48) h34))
          · refine V_aload_n C d_Li_layOutKind_51 rfl ?_
            refine V_getR (kx := 7) C d_Li_layOutKind_52 cf_Li (by decide) k_Li_35 (nn hO1.n0) rfl hO1.r07 ?_
            refine V_iload_n C d_Li_layOutKind_55 rfl ?_
            refine V_iload C d_Li_layOutKind_56 rfl ?_
            refine V_callSN (as := [_, _]) C d_Li_layOutKind_58 (c_OL_slotOf (a := o9) (b := s5)) m_OL_slotOf k_Li_168 ⟨by decide, by decide⟩ (Nat.le_of_ble_eq_true rfl) ⟨by decide, by decide⟩ rfl ?_
            rintro _ _ _ _ _ ⟨rfl, rfl, rfl, rfl, rfl⟩
            dsimp only [Option.toList, List.cons_append, List.nil_append]
            refine V_aload_n C d_Li_layOutKind_61 rfl ?_
            refine V_aload C d_Li_layOutKind_62 rfl ?_
            refine V_getI (kx := 1) C d_Li_layOutKind_64 cf_Se (by decide) k_Li_193 (nn (hU1.se hs).1) rfl ?_
            refine V_eqi (y := nI (mn M 44 (8 * o9 + s5))) e1 ?_
            refine V_aload C d_Li_layOutKind_67 rfl ?_
            refine V_getI (kx := 2) C d_Li_layOutKind_69 cf_Se (by decide) k_Li_196 (nn (hU1.se hs).1) rfl ?_
            refine V_eqi (y := M 45 0 0 (8 * o9 + s5)) e2 ?_
            refine V_callV (as := [_, _]) C d_Li_layOutKind_72 (c_Li_nextPlace hO1 (show mn M 44 (8 * o9 + s5) ≤ 7 by omega)) m_Li_nextPlace cf_Li k_Li_197 (nn hO1.n0) ⟨by decide, by decide⟩ (Nat.le_of_ble_eq_true rfl) ⟨by decide, by decide⟩ rfl ?_
            rintro _ _ _ _ _ ⟨rfl, rfl, rfl, rfl, rfl⟩
            dsimp only [Option.toList, List.cons_append, List.nil_append]
            refine V_iast C d_Li_layOutKind_75 (by decide) rfl hO1.n30 rfl (by omega) rfl ?_
            refine V_aload_n C d_Li_layOutKind_76 rfl ?_
            refine V_dup C d_Li_layOutKind_77 rfl ?_
            refine V_getI (kx := 12) C d_Li_layOutKind_78 cf_Li (by decide) k_Li_116 (nn hO1.n0) rfl ?_
            refine V_iconst (v := 1) C d_Li_layOutKind_81 (by decide) ?_
            refine V_iadd C d_Li_layOutKind_82 ?_
            refine V_putI (kx := 12) C d_Li_layOutKind_83 cf_Li (by decide) k_Li_116 (nn hO1.n0) rfl rfl rfl rfl ?_
            refine V_iinc (v := nI (s5 + 1)) (lv' := [(4, _), (5, _), (3, _), (0, _), (1, _), (2, _)]) C d_Li_layOutKind_86 rfl (nI_1 s5) (by decide) rfl ?_
            refine V_goto (tgt := 10) C d_Li_layOutKind_89 (by decide) ?_
            refine V_pick [0, 2, 3, 4, 5] rfl ?_
            first
              | exact ih (s5 + 1) ι1 (by omega) (by omega) hC1 heq1 g9
              | (refine V_io (show _ = scI ι1 (8 * o9 + s5) (M 44 0 0 (8 * o9 + s5)) (M 45 0 0 (8 * o9 + s5)) by rw [e44]; rfl) ?_
                 exact ih (s5 + 1) _ (by omega) (by omega) (hC1.eqx (sc_e Eqx.rf) (fun _ _ => pk9_c) LFq.rf) (sc_e heq1) (fun L0 h0 => by
                   rw [List.range_succ, List.map_append, List.foldl_append]
                   exact (hL1 L0 h0).sec (by omega) (by rw [← (hL1 L0 h0).2.2.2.2.2.2 _ (by omega)]; exact h48) h34))
  refine V_aload_n C d_Li_layOutKind_0 rfl ?_
  refine V_getR (kx := 0) C d_Li_layOutKind_1 cf_Li (by decide) k_Li_11 (nn hO.n0) rfl hO.r00 ?_
  refine V_iload_n C d_Li_layOutKind_4 rfl ?_
  refine V_aald C d_Li_layOutKind_5 (by decide) (by decide) rfl hO.n26 rfl (by omega) rfl h26 ?_
  refine V_astore_n (lv' := [(3, _), (0, _), (1, _), (2, _)]) C d_Li_layOutKind_6 (by decide) rfl ?_
  refine V_iconst (v := 0) C d_Li_layOutKind_7 (by decide) ?_
  refine V_istore (lv' := [(4, _), (3, _), (0, _), (1, _), (2, _)]) C d_Li_layOutKind_8 (by decide) rfl ?_
  refine V_pick [0, 1, 2, 3, 4] rfl ?_
  exact loop (mn M 42 o9 + 1) 0 ι (by omega) (by omega) hC Eqx.rf hL
set_option maxHeartbeats 1000000 in
set_option maxRecDepth 10000 in
theorem c_Li_layOutCommons {ν : Nu} {ι : Io} {ρ : Ro} {ℓ : Lo} {M : Io} {ρ0 : Ro} {N c9 w9 n9 z9 kn g9 : Nat} (hI : IV ν M ρ0 N c9 w9 n9 z9 kn g9) (hC : CuL M ι ρ0 ρ c9) {z1 : Nat} {kx : Nat → Nat} (hT : T3 M ι ρ (sq M 12 47 c9) z1 kx) {x9 : Int32} {F : Ls → Ls} (hL : ∀ L0, B0 x9 L0 → LC ι (F L0)) (hcm : ∀ L0, B0 x9 L0 → CM M ι c9 kx (F L0)) (hA : ∀ k, k < z1 → ι 1 k 0 6 = 0 → ι 1 k 0 7 = -1) : Ct y_Li_layOutCommons (Cond.code y_Li_layOutCommons b_Li_layOutCommons 3 none :: tb_) { frames := 1, cells := 0, slots := 0, locals := 25 } [sR 0 0 0] ν ι ρ ℓ (fun v ν1 ι1 ρ1 ℓ1 => none = v ∧ ν = ν1 ∧ ρ = ρ1 ∧ ℓ = ℓ1 ∧ Eqx Pl9 ι ι1 ∧ ∀ L0, B0 x9 L0 → LC ι1 ((cmL M (sq M 12 47 c9)).foldl (comS M c9) (F L0)) ∧ AC ι1 z1 kx (cmL M (sq M 12 47 c9)) ((cmL M (sq M 12 47 c9)).foldl (comS M c9) (F L0))) (noX) := by
  refine Ct.ofV (by decide) (Nat.le_of_ble_eq_true rfl) rfl ?_
  intro p l e s m args below meth c D B tW α0 Q C hQ
  have hO := hC.os hI.os
  have hlen : (sq M 12 47 c9).length ≤ 144 := hI.lk.nl
  have hcl := (cmL_sub (M := M) (sq M 12 47 c9)).2
  have loop : ∀ (f : Nat) (t : Nat) (ι1 : Io), (cmL M (sq M 12 47 c9)).length - t < f → t ≤ (cmL M (sq M 12 47 c9)).length → CuL M ι1 ρ0 ρ c9 → Eqx Pl9 ι ι1 → (∀ L0, B0 x9 L0 → LC ι1 (((cmL M (sq M 12 47 c9)).take t).foldl (comS M c9) (F L0)) ∧ AC ι1 z1 kx ((cmL M (sq M 12 47 c9)).take t) (((cmL M (sq M 12 47 c9)).take t).foldl (comS M c9) (F L0))) → V p l e { frames := 1, cells := 0, slots := 0, locals := 25 } s m args below meth c D B α0 ν 3 Q 0 0 ν ι1 ρ ℓ 2 [(1, sI (nI t)), (0, sR 0 0 0)] [] := by
    intro f
    induction f with
    | zero => intros; omega
    | succ f ih =>
      intro t ι1 hf ht0 hC1 heq1 hL1
      have hO1 := hC1.os hI.os
      refine V_iload_n C d_Li_layOutCommons_2 rfl ?_
      refine V_aload_n C d_Li_layOutCommons_3 rfl ?_
      refine V_getR (kx := 3) C d_Li_layOutCommons_4 cf_Li (by decide) k_Li_24 (nn hO1.n0) rfl hO1.r03 ?_
      refine V_getI (kx := 4) C d_Li_layOutCommons_7 cf_NT (by decide) k_Li_200 (nn hO1.n3) rfl ?_
      refine V_eqi (y := nI (cmL M (sq M 12 47 c9)).length) ((heq1 3 0 0 4 (by unfold Pl9; omega)).trans hT.2.2.2.2.2.2.1) ?_
      refine V_icmp_ge (tgt := 70) C d_Li_layOutCommons_10 (by decide) (fun h10 => ?_) (fun h10 => ?_)
      · have ht : t = (cmL M (sq M 12 47 c9)).length := by have := (nI_leI (a := (cmL M (sq M 12 47 c9)).length) (b := t) (by omega) (by omega)).mp h10; omega
        rw [ht, List.take_length] at hL1
        refine V_vret C hQ (by decide) (by decide) d_Li_layOutCommons_70 rfl ?_
        exact ⟨rfl, rfl, rfl, rfl, heq1, hL1⟩
      · have ht : t < (cmL M (sq M 12 47 c9)).length := Nat.lt_of_not_le fun z => h10 ((nI_leI (by omega) (by omega)).mpr z)
        have hmem : ((cmL M (sq M 12 47 c9))[t]) ∈ (cmL M (sq M 12 47 c9)) := List.getElem_mem ht
        have hsq := (cmL_sub (M := M) _).1 _ hmem
        obtain ⟨p1, p2, p3⟩ := hT.2.2.1 _ hsq
        have hk144 : kx ((cmL M (sq M 12 47 c9))[t]) < 144 := by have := hT.2.1; omega
        have hmg := hT.2.2.2.2.2.1 _ p1
        have f1 : ι1 1 (kx ((cmL M (sq M 12 47 c9))[t])) 0 1 = ι 1 (kx ((cmL M (sq M 12 47 c9))[t])) 0 1 := heq1 1 _ 0 1 (by unfold Pl9; omega)
        have f4 : ι1 1 (kx ((cmL M (sq M 12 47 c9))[t])) 0 4 = ι 1 (kx ((cmL M (sq M 12 47 c9))[t])) 0 4 := heq1 1 _ 0 4 (by unfold Pl9; omega)
        have f5 : ι1 1 (kx ((cmL M (sq M 12 47 c9))[t])) 0 5 = ι 1 (kx ((cmL M (sq M 12 47 c9))[t])) 0 5 := heq1 1 _ 0 5 (by unfold Pl9; omega)
        have f6 : ι1 1 (kx ((cmL M (sq M 12 47 c9))[t])) 0 6 = ι 1 (kx ((cmL M (sq M 12 47 c9))[t])) 0 6 := heq1 1 _ 0 6 (by unfold Pl9; omega)
        refine V_aload_n C d_Li_layOutCommons_13 rfl ?_
        refine V_getR (kx := 3) C d_Li_layOutCommons_14 cf_Li (by decide) k_Li_24 (nn hO1.n0) rfl hO1.r03 ?_
        refine V_getR (kx := 3) C d_Li_layOutCommons_17 cf_NT (by decide) k_Li_203 (nn hO1.n3) rfl hO1.r33 ?_
        refine V_iload_n C d_Li_layOutCommons_20 rfl ?_
        refine V_aald C d_Li_layOutCommons_21 (by decide) (by decide) rfl hO1.n34 rfl (by omega) rfl (hT.2.2.2.2.2.2.2 t ht) ?_
        refine V_astore_n (lv' := [(2, _), (1, _), (0, _)]) C d_Li_layOutCommons_22 (by decide) rfl ?_
        refine V_aload_n C d_Li_layOutCommons_23 rfl ?_
        refine V_getI (kx := 1) C d_Li_layOutCommons_24 cf_Me (by decide) k_Li_66 (nn (hO1.me _ hk144).1) rfl ?_
        refine V_eqi (y := ι 1 (kx ((cmL M (sq M 12 47 c9))[t])) 0 1) f1 ?_
        refine V_iconst (v := 2) C d_Li_layOutCommons_27 (by decide) ?_
        refine V_icmp_ne (tgt := 64) C d_Li_layOutCommons_28 (by decide) (fun h28 => ?_) (fun h28 => ?_)
        · have g9 : ∀ L0, B0 x9 L0 → LC ι1 (((cmL M (sq M 12 47 c9)).take (t + 1)).foldl (comS M c9) (F L0)) ∧ AC ι1 z1 kx ((cmL M (sq M 12 47 c9)).take (t + 1)) (((cmL M (sq M 12 47 c9)).take (t + 1)).foldl (comS M c9) (F L0)) := fun L0 h0 => by
            obtain ⟨u1, u2⟩ := hL1 L0 h0
            have hz : (((cmL M (sq M 12 47 c9)).take t).foldl (comS M c9) (F L0)) 62 ((cmL M (sq M 12 47 c9))[t]) = 0 := by
              rw [coms62]
              apply Classical.byContradiction
              intro z
              exact (fun z => h28 z.1) ((hcm L0 h0).cm hT hI.nb hmem |>.mp z)
            rw [tk_s ht, List.foldl_append]
            show LC ι1 (comS M c9 _ ((cmL M (sq M 12 47 c9))[t])) ∧ AC ι1 z1 kx _ (comS M c9 _ ((cmL M (sq M 12 47 c9))[t]))
            rw [com_sk hz]
            exact ⟨u1, u2.skip hz⟩
          refine V_iinc (v := nI (t + 1)) (lv' := [(1, _), (2, _), (0, _)]) C d_Li_layOutCommons_64 rfl (nI_1 t) (by decide) rfl ?_
          refine V_goto (tgt := 2) C d_Li_layOutCommons_67 (by decide) ?_
          refine V_pick [0, 2] rfl ?_
          first
            | exact ih (t + 1) ι1 (by omega) (by omega) hC1 heq1 g9
            | (refine V_io (show _ = cmI ι1 (kx ((cmL M (sq M 12 47 c9))[t])) (gr M c9 (M 48 0 0 ((cmL M (sq M 12 47 c9))[t])) 50) (gr M c9 (M 48 0 0 ((cmL M (sq M 12 47 c9))[t])) 51) by rw [e4]; rfl) ?_
               exact ih (t + 1) _ (by omega) (by omega) (hC1.eqx (cm_e Eqx.rf) (fun _ _ => pl9_c) LFq.rf) (cm_e heq1) (fun L0 h0 => by
                 obtain ⟨u1, u2⟩ := hL1 L0 h0
                 have hz : ((((cmL M (sq M 12 47 c9)).take t).foldl (comS M c9) (F L0))) 62 ((cmL M (sq M 12 47 c9))[t]) ≠ 0 := by rw [coms62]; exact hrr L0 h0
                 rw [tk_s ht, List.foldl_append]
                 exact ⟨(u1.com hz).1, u2.add (hT.el heq1) (fun i hi => List.mem_of_mem_take hi) hmem u1 hz (by rw [f6]; exact h35)⟩))
        · refine V_aload_n C d_Li_layOutCommons_31 rfl ?_
          refine V_getI (kx := 6) C d_Li_layOutCommons_32 cf_Me (by decide) k_Li_166 (nn (hO1.me _ hk144).1) rfl ?_
          refine V_eqi (y := ι 1 (kx ((cmL M (sq M 12 47 c9))[t])) 0 6) f6 ?_
          refine V_if_eq (tgt := 64) C d_Li_layOutCommons_35 (by decide) (fun h35 => ?_) (fun h35 => ?_)
          · have g9 : ∀ L0, B0 x9 L0 → LC ι1 (((cmL M (sq M 12 47 c9)).take (t + 1)).foldl (comS M c9) (F L0)) ∧ AC ι1 z1 kx ((cmL M (sq M 12 47 c9)).take (t + 1)) (((cmL M (sq M 12 47 c9)).take (t + 1)).foldl (comS M c9) (F L0)) := fun L0 h0 => by
              obtain ⟨u1, u2⟩ := hL1 L0 h0
              have hz : (((cmL M (sq M 12 47 c9)).take t).foldl (comS M c9) (F L0)) 62 ((cmL M (sq M 12 47 c9))[t]) = 0 := by
                rw [coms62]
                apply Classical.byContradiction
                intro z
                exact (fun z => z.2 h35) ((hcm L0 h0).cm hT hI.nb hmem |>.mp z)
              rw [tk_s ht, List.foldl_append]
              show LC ι1 (comS M c9 _ ((cmL M (sq M 12 47 c9))[t])) ∧ AC ι1 z1 kx _ (comS M c9 _ ((cmL M (sq M 12 47 c9))[t]))
              rw [com_sk hz]
              exact ⟨u1, u2.skip hz⟩
            refine V_iinc (v := nI (t + 1)) (lv' := [(1, _), (2, _), (0, _)]) C d_Li_layOutCommons_64 rfl (nI_1 t) (by decide) rfl ?_
            refine V_goto (tgt := 2) C d_Li_layOutCommons_67 (by decide) ?_
            refine V_pick [0, 2] rfl ?_
            first
              | exact ih (t + 1) ι1 (by omega) (by omega) hC1 heq1 g9
              | (refine V_io (show _ = cmI ι1 (kx ((cmL M (sq M 12 47 c9))[t])) (gr M c9 (M 48 0 0 ((cmL M (sq M 12 47 c9))[t])) 50) (gr M c9 (M 48 0 0 ((cmL M (sq M 12 47 c9))[t])) 51) by rw [e4]; rfl) ?_
                 exact ih (t + 1) _ (by omega) (by omega) (hC1.eqx (cm_e Eqx.rf) (fun _ _ => pl9_c) LFq.rf) (cm_e heq1) (fun L0 h0 => by
                   obtain ⟨u1, u2⟩ := hL1 L0 h0
                   have hz : ((((cmL M (sq M 12 47 c9)).take t).foldl (comS M c9) (F L0))) 62 ((cmL M (sq M 12 47 c9))[t]) ≠ 0 := by rw [coms62]; exact hrr L0 h0
                   rw [tk_s ht, List.foldl_append]
                   exact ⟨(u1.com hz).1, u2.add (hT.el heq1) (fun i hi => List.mem_of_mem_take hi) hmem u1 hz (by rw [f6]; exact h35)⟩))
          · have hs2 : srt M (sq M 12 47 c9) (M 48 0 0 ((cmL M (sq M 12 47 c9))[t])) = 2 := by rw [← p2, ← hmg.1]; exact h28
            have hgg := hmg.2.2 (by rw [p2, hs2]; decide)
            rw [p2] at hgg
            obtain ⟨a4, l4, e4⟩ := gr_le (n := M 48 0 0 ((cmL M (sq M 12 47 c9))[t])) hI.bd.b50 (by decide) hI.lk
            have hrr : ∀ L0, B0 x9 L0 → F L0 62 ((cmL M (sq M 12 47 c9))[t]) ≠ 0 := fun L0 h0 => ((hcm L0 h0).cm hT hI.nb hmem).mpr ⟨h28, h35⟩
            refine V_aload_n C d_Li_layOutCommons_38 rfl ?_
            refine V_aload_n C d_Li_layOutCommons_39 rfl ?_
            refine V_aload_n C d_Li_layOutCommons_40 rfl ?_
            refine V_getI (kx := 4) C d_Li_layOutCommons_41 cf_Me (by decide) k_Li_207 (nn (hO1.me _ hk144).1) rfl ?_
            refine V_eqi (y := nI a4) (f4.trans (hgg.1.trans e4)) ?_
            refine V_aload_n C d_Li_layOutCommons_44 rfl ?_
            refine V_getI (kx := 5) C d_Li_layOutCommons_45 cf_Me (by decide) k_Li_208 (nn (hO1.me _ hk144).1) rfl ?_
            refine V_eqi (y := gr M c9 (M 48 0 0 ((cmL M (sq M 12 47 c9))[t])) 51) (f5.trans hgg.2) ?_
            refine V_callV (as := [_, _]) C d_Li_layOutCommons_48 (c_Li_nextPlace hO1 l4) m_Li_nextPlace cf_Li k_Li_197 (nn hO1.n0) ⟨by decide, by decide⟩ (Nat.le_of_ble_eq_true rfl) ⟨by decide, by decide⟩ rfl ?_
            rintro _ _ _ _ _ ⟨rfl, rfl, rfl, rfl, rfl⟩
            dsimp only [Option.toList, List.cons_append, List.nil_append]
            refine V_putI (kx := 7) C d_Li_layOutCommons_51 cf_Me (by decide) k_Li_71 (nn (hO1.me _ hk144).1) rfl rfl rfl rfl ?_
            refine V_aload_n C d_Li_layOutCommons_54 rfl ?_
            refine V_dup C d_Li_layOutCommons_55 rfl ?_
            refine V_getI (kx := 13) C d_Li_layOutCommons_56 cf_Li (by decide) k_Li_119 (nn hO1.n0) rfl ?_
            refine V_iconst (v := 1) C d_Li_layOutCommons_59 (by decide) ?_
            refine V_iadd C d_Li_layOutCommons_60 ?_
            refine V_putI (kx := 13) C d_Li_layOutCommons_61 cf_Li (by decide) k_Li_119 (nn hO1.n0) rfl rfl rfl rfl ?_
            refine V_iinc (v := nI (t + 1)) (lv' := [(1, _), (2, _), (0, _)]) C d_Li_layOutCommons_64 rfl (nI_1 t) (by decide) rfl ?_
            refine V_goto (tgt := 2) C d_Li_layOutCommons_67 (by decide) ?_
            refine V_pick [0, 2] rfl ?_
            first
              | exact ih (t + 1) ι1 (by omega) (by omega) hC1 heq1 g9
              | (refine V_io (show _ = cmI ι1 (kx ((cmL M (sq M 12 47 c9))[t])) (gr M c9 (M 48 0 0 ((cmL M (sq M 12 47 c9))[t])) 50) (gr M c9 (M 48 0 0 ((cmL M (sq M 12 47 c9))[t])) 51) by rw [e4]; rfl) ?_
                 exact ih (t + 1) _ (by omega) (by omega) (hC1.eqx (cm_e Eqx.rf) (fun _ _ => pl9_c) LFq.rf) (cm_e heq1) (fun L0 h0 => by
                   obtain ⟨u1, u2⟩ := hL1 L0 h0
                   have hz : ((((cmL M (sq M 12 47 c9)).take t).foldl (comS M c9) (F L0))) 62 ((cmL M (sq M 12 47 c9))[t]) ≠ 0 := by rw [coms62]; exact hrr L0 h0
                   rw [tk_s ht, List.foldl_append]
                   exact ⟨(u1.com hz).1, u2.add (hT.el heq1) (fun i hi => List.mem_of_mem_take hi) hmem u1 hz (by rw [f6]; exact h35)⟩))
  refine V_iconst (v := 0) C d_Li_layOutCommons_0 (by decide) ?_
  refine V_istore_n (lv' := [(1, _), (0, _)]) C d_Li_layOutCommons_1 (by decide) rfl ?_
  refine V_pick [0, 1] rfl ?_
  exact loop ((cmL M (sq M 12 47 c9)).length + 1) 0 ι (by omega) (by omega) hC Eqx.rf (fun L0 h0 => ⟨hL L0 h0, fun i hi => absurd hi (by simp), hA⟩)
