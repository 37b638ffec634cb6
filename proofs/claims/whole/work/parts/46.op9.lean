theorem pk9l {r k : Nat} (h : Pk9 r k) : Pl9 r k := h.imp id Or.inl
abbrev cqA (ι : Io) (s : Nat) : Nat := (ι 30 0 0 s - ι 0 0 0 9).toNatClampNeg
def cqN (M : Io) (s : Nat) : Nat := if M 43 0 0 s = 3 then 0 else mn M 45 s
def cqG (ι : Io) (n k : Nat) : Int32 := if k < n then 0 else ι 31 0 0 k
theorem cq_0 {ι : Io} {n : Nat} : filG ι 31 0 0 0 n (fun _ => 0) = upA ι 31 0 0 (cqG ι n) := by
  funext r i j k
  by_cases h : r = 31 ∧ i = 0 ∧ j = 0
  · obtain ⟨rfl, rfl, rfl⟩ := h
    rw [upA_s]
    unfold cqG
    by_cases hk : k < n
    · rw [filG_in (by omega), if_pos hk]
    · rw [filG_ne (by omega), if_neg hk]
  · rw [upA_ne h, filG_ne (fun z => h ⟨z.1, z.2.1, z.2.2.1⟩)]
theorem fil31 {ι : Io} {n : Nat} : up4 (filG ι 31 0 0 0 n (fun _ => 0)) 31 0 0 n 0 = filG ι 31 0 0 0 (n + 1) (fun _ => 0) := by
  have h := filG_s (ι := ι) (r := 31) (i0 := 0) (j0 := 0) (a := 0) (n := n) (g := fun _ => 0) (x := 0) rfl
  rw [Nat.zero_add] at h
  exact h
theorem cpy_bw {f g : Nat → Int32} {d n : Nat} : va_cpy f g 0 d n = bw d n f g := by
  funext k
  unfold va_cpy bw
  rw [Nat.zero_add]
set_option maxHeartbeats 1000000 in
set_option maxRecDepth 10000 in
theorem c_Li_copyBytes {ν : Nu} {ι : Io} {ρ : Ro} {ℓ : Lo} {M : Io} {ρ0 : Ro} {N c9 w9 n9 z9 kn g9 : Nat} (hI : IV ν M ρ0 N c9 w9 n9 z9 kn g9) (hC : CuL M ι ρ0 ρ c9) {z1 q9 n : Nat} {qs : Nat → Nat} {en : Int32} (hR : RQ M ι c9 z1 en q9 qs) (h11 : ι 0 0 0 11 = nI n) (hn4 : n ≤ 4096) (hfit : ∀ t, t < q9 → ∃ d, ι 30 0 0 (qs t) - ι 0 0 0 9 = nI d ∧ d + cqN M (qs t) ≤ n) : Ct y_Li_copyBytes (Cond.code y_Li_copyBytes b_Li_copyBytes 4 none :: tb_) { frames := 1, cells := 0, slots := 0, locals := 40 } [sR 0 0 0] ν ι ρ ℓ (pEq none ν (upA ι 31 0 0 (bwF (cqA ι) (cqN M) (cD M) ((List.range q9).map qs) (cqG ι n))) ρ ℓ) (noX) := by
  refine Ct.ofV (by decide) (Nat.le_of_ble_eq_true rfl) rfl ?_
  intro p l e s m args below meth c D B tW α0 Q C hQ
  have hO := hC.os hI.os
  have hq96 := hR.q96
  have cpl : ∀ (f : Nat) (t : Nat), q9 - t < f → (t ≤ q9) → V p l e { frames := 1, cells := 0, slots := 0, locals := 40 } s m args below meth c D B α0 ν 4 Q 0 0 ν (upA ι 31 0 0 (bwF (cqA ι) (cqN M) (cD M) ((List.range t).map qs) (cqG ι n))) ρ ℓ 25 [(1, sI (nI t)), (0, sR 0 0 0)] [] := by
    intro f
    induction f with
    | zero => intros; omega
    | succ f ihc =>
      intro t hf ht0
      refine V_iload_n C d_Li_copyBytes_25 rfl ?_
      refine V_aload_n C d_Li_copyBytes_26 rfl ?_
      refine V_getI (kx := 6) C d_Li_copyBytes_27 cf_Li (by decide) k_Li_110 (nn hO.n0) rfl ?_
      refine V_eqi (y := nI q9) hR.1 ?_
      refine V_icmp_ge (tgt := 89) C d_Li_copyBytes_30 (by decide) (fun h30 => ?_) (fun h30 => ?_)
      · have ht : t = q9 := by have := (nI_leI (a := q9) (b := t) (by omega) (by omega)).mp h30; omega
        subst ht
        refine V_vret C hQ (by decide) (by decide) d_Li_copyBytes_89 rfl ?_
        exact ⟨rfl, rfl, rfl, rfl, rfl⟩
      · have ht : t < q9 := Nat.lt_of_not_le fun z => h30 ((nI_leI (by omega) (by omega)).mpr z)
        obtain ⟨u1, u2, u3, i0, u4, u5, u6⟩ := hR.2.1 t ht
        obtain ⟨u7, u8⟩ := Tc.nl hI.lk u4
        obtain ⟨k, s, a1, a2, a3, a4, a5⟩ := hI.rs u7 u5 (by rcases u8 with z | z | z <;> rw [z] <;> decide) u6
        obtain ⟨ho, h27, h26, hU⟩ := hC.un hI a1
        have h12 := hI.N12
        have l8 := hU.c8
        have hS := hU.se a2
        have hcv := (hI.cv ho).1 s a2
        have hb24 : ν 24 (mn M 59 k) s = some (cqN M (qs t)) := by
          obtain ⟨n1, g1, g2, g3⟩ := se_n (hI.um ho |>.se a2) hcv hI.bd (by omega)
          rw [g2, g3, hcv.1, ← a3]
          unfold cqN
          rfl
        obtain ⟨d9, hd9, hdn⟩ := hfit t ht
        have hA : cqA ι (qs t) = d9 := by unfold cqA; rw [hd9, nI_clamp (by omega)]
        refine V_aload_n C d_Li_copyBytes_33 rfl ?_
        refine V_getR (kx := 5) C d_Li_copyBytes_34 cf_Li (by decide) k_Li_32 (nn hO.n0) rfl hO.r05 ?_
        refine V_iload_n C d_Li_copyBytes_37 rfl ?_
        refine V_iald C d_Li_copyBytes_38 (by decide) rfl hO.n29 rfl (by omega) rfl ?_
        refine V_eqi (y := nI (qs t)) u1 ?_
        refine V_istore_n (lv' := [(2, _), (1, _), (0, _)]) C d_Li_copyBytes_39 (by decide) rfl ?_
        refine V_aload_n C d_Li_copyBytes_40 rfl ?_
        refine V_getR (kx := 0) C d_Li_copyBytes_41 cf_Li (by decide) k_Li_11 (nn hO.n0) rfl hO.r00 ?_
        refine V_iload_n C d_Li_copyBytes_44 rfl ?_
        refine V_bipush (v := 8) C d_Li_copyBytes_45 (by decide) ?_
        refine V_idiv C d_Li_copyBytes_47 (by decide) ?_
        refine V_eqi (y := nI (mn M 59 k)) ((pk_div (d := 8) (by omega) (by omega) (by omega)).trans (by rw [a4])) ?_
        refine V_aald C d_Li_copyBytes_48 (by decide) (by decide) rfl hO.n26 rfl (by omega) rfl h26 ?_
        refine V_getR (kx := 0) C d_Li_copyBytes_49 cf_Un (by decide) k_Li_184 hU.al rfl hU.r0 ?_
        refine V_iload_n C d_Li_copyBytes_52 rfl ?_
        refine V_bipush (v := 8) C d_Li_copyBytes_53 (by decide) ?_
        refine V_irem C d_Li_copyBytes_55 (by decide) ?_
        refine V_eqi (y := nI s) ((pk_rem (d := 8) (by omega) (by omega) (by omega)).trans (by rw [a5])) ?_
        refine V_aald C d_Li_copyBytes_56 (by decide) (by decide) rfl hU.n0 rfl (by omega) rfl hS.2.1 ?_
        refine V_getR (kx := 3) C d_Li_copyBytes_57 cf_Se (by decide) k_Li_211 (nn hS.1) rfl hS.2.2.1 ?_
        refine V_astore_n (lv' := [(3, _), (2, _), (1, _), (0, _)]) C d_Li_copyBytes_60 (by decide) rfl ?_
        refine V_aload_n C d_Li_copyBytes_61 rfl ?_
        refine V_iconst (v := 0) C d_Li_copyBytes_62 (by decide) ?_
        refine V_aload_n C d_Li_copyBytes_63 rfl ?_
        refine V_getR (kx := 10) C d_Li_copyBytes_64 cf_Li (by decide) k_Li_38 (nn hO.n0) rfl hO.r010 ?_
        refine V_aload_n C d_Li_copyBytes_67 rfl ?_
        refine V_getR (kx := 7) C d_Li_copyBytes_68 cf_Li (by decide) k_Li_35 (nn hO.n0) rfl hO.r07 ?_
        refine V_iload_n C d_Li_copyBytes_71 rfl ?_
        refine V_iald C d_Li_copyBytes_72 (by decide) rfl hO.n30 rfl (by omega) rfl ?_
        refine V_aload_n C d_Li_copyBytes_73 rfl ?_
        refine V_getI (kx := 9) C d_Li_copyBytes_74 cf_Li (by decide) k_Li_55 (nn hO.n0) rfl ?_
        skip
        refine V_isub C d_Li_copyBytes_77 ?_
        refine V_aload_n C d_Li_copyBytes_78 rfl ?_
        refine V_alen (ti := 0) C d_Li_copyBytes_79 (by decide) (by decide) hb24 rfl ?_
        refine V_copy C d_Li_copyBytes_80 k_Li_214 k_copy (by decide) rfl (by decide) rfl (fun _ => rfl) (fun _ => rfl) hb24 hO.n31 (t := 0) rfl (d9 := d9) hd9 (k9 := cqN M (qs t)) rfl (by omega) (by omega) (by decide) (Nat.le_of_ble_eq_true rfl) ?_
        refine V_iinc (v := nI (t + 1)) (lv' := [(1, _), (3, _), (2, _), (0, _)]) C d_Li_copyBytes_83 rfl (nI_1 t) (by decide) rfl ?_
        refine V_goto (tgt := 25) C d_Li_copyBytes_86 (by decide) ?_
        refine V_pick [0, 3] rfl ?_
        refine V_io (show upA (upA ι 31 0 0 (bwF (cqA ι) (cqN M) (cD M) ((List.range t).map qs) (cqG ι n))) 31 0 0 (va_cpy (ι 24 (mn M 59 k) s) (bwF (cqA ι) (cqN M) (cD M) ((List.range t).map qs) (cqG ι n)) 0 d9 (cqN M (qs t))) = (upA ι 31 0 0 (bwF (cqA ι) (cqN M) (cD M) ((List.range (t + 1)).map qs) (cqG ι n))) from ?_) ?_
        · rw [upA_A, cpy_bw, List.range_succ, List.map_append]
          show upA ι 31 0 0 (bw d9 _ _ _) = upA ι 31 0 0 (bwF _ _ _ (_ ++ [qs t]) _)
          rw [bwF_s, hA]
          congr 1
          refine bw_c (fun k9 hk9 => ?_)
          rw [hC.1 24 _ _ _ (by unfold isCl; omega)]
          unfold cqN at hk9
          by_cases h3 : M 43 0 0 (qs t) = 3
          · rw [if_pos h3] at hk9; omega
          · rw [if_neg h3] at hk9
            show _ = M 46 0 0 (128 * qs t + k9)
            rw [a3] at h3 hk9 ⊢
            exact hcv.2.2.2 h3 k9 hk9
        exact ihc (t + 1) (by omega) (by omega)
  have loop : ∀ (f : Nat) (i : Nat), n - i < f → (i ≤ n) → V p l e { frames := 1, cells := 0, slots := 0, locals := 40 } s m args below meth c D B α0 ν 4 Q 0 0 ν (filG ι 31 0 0 0 i (fun _ => 0)) ρ ℓ 2 [(1, sI (nI i)), (0, sR 0 0 0)] [] := by
    intro f
    induction f with
    | zero => intros; omega
    | succ f ih =>
      intro i hf hi0
      refine V_iload_n C d_Li_copyBytes_2 rfl ?_
      refine V_aload_n C d_Li_copyBytes_3 rfl ?_
      refine V_getI (kx := 11) C d_Li_copyBytes_4 cf_Li (by decide) k_Li_113 (nn hO.n0) rfl ?_
      refine V_eqi (y := nI n) h11 ?_
      refine V_icmp_ge (tgt := 23) C d_Li_copyBytes_7 (by decide) (fun h7 => ?_) (fun h7 => ?_)
      · have hi : i = n := by have := (nI_leI (a := n) (b := i) (by omega) (by omega)).mp h7; omega
        subst hi
        refine V_iconst (v := 0) C d_Li_copyBytes_23 (by decide) ?_
        refine V_istore_n (lv' := [(1, _), (0, _)]) C d_Li_copyBytes_24 (by decide) rfl ?_
        refine V_pick [0, 1] rfl ?_
        refine V_io (cq_0.trans (show _ = (upA ι 31 0 0 (bwF (cqA ι) (cqN M) (cD M) ((List.range 0).map qs) (cqG ι i))) from rfl)) ?_
        exact cpl (q9 + 1) 0 (by omega) (by omega)
      · have hi : i < n := Nat.lt_of_not_le fun z => h7 ((nI_leI (by omega) (by omega)).mpr z)
        refine V_aload_n C d_Li_copyBytes_10 rfl ?_
        refine V_getR (kx := 10) C d_Li_copyBytes_11 cf_Li (by decide) k_Li_38 (nn hO.n0) rfl hO.r010 ?_
        refine V_iload_n C d_Li_copyBytes_14 rfl ?_
        refine V_iconst (v := 0) C d_Li_copyBytes_15 (by decide) ?_
        refine V_iast C d_Li_copyBytes_16 (by decide) rfl hO.n31 rfl (by omega) rfl ?_
        refine V_iinc (v := nI (i + 1)) (lv' := [(1, _), (0, _)]) C d_Li_copyBytes_17 rfl (nI_1 i) (by decide) rfl ?_
        refine V_goto (tgt := 2) C d_Li_copyBytes_20 (by decide) ?_
        refine V_pick [0, 1] rfl ?_
        refine V_io fil31 ?_
        exact ih (i + 1) (by omega) (by omega)
  refine V_iconst (v := 0) C d_Li_copyBytes_0 (by decide) ?_
  refine V_istore_n (lv' := [(1, _), (0, _)]) C d_Li_copyBytes_1 (by decide) rfl ?_
  refine V_pick [0, 1] rfl ?_
  refine V_io (filG_0 (r := 31) (i0 := 0) (j0 := 0) (a := 0) (g := fun _ => 0)).symm ?_
  exact loop (n + 1) 0 (by omega) (by omega)
