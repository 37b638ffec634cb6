abbrev isMr (r : Nat) : Prop := r = 10 ∨ (40 ≤ r ∧ r < 80)
section Fr
variable {β : Type} {f g : Nat → Nat → Nat → Nat → β} {F : Nat → Prop}
theorem frA (h : ∀ r i j k, ¬ F r → f r i j k = g r i j k) {r0 i0 j0 : Nat} {x : Nat → β} (hr : F r0) : ∀ r i j k, ¬ F r → upA f r0 i0 j0 x r i j k = g r i j k := by
  intro r i j k hn
  unfold upA
  rw [if_neg (fun z => hn (by rw [z.1]; exact hr))]
  exact h r i j k hn
theorem fr4 (h : ∀ r i j k, ¬ F r → f r i j k = g r i j k) {r0 i0 j0 k0 : Nat} {x : β} (hr : F r0) : ∀ r i j k, ¬ F r → up4 f r0 i0 j0 k0 x r i j k = g r i j k := by
  intro r i j k hn
  rw [up4_ne (fun z => hn (by rw [z.1]; exact hr))]
  exact h r i j k hn
theorem fr3 {f g : Nat → Nat → Nat → β} (h : ∀ r i j, ¬ F r → f r i j = g r i j) {r0 i0 j0 : Nat} {x : β} (hr : F r0) : ∀ r i j, ¬ F r → up3 f r0 i0 j0 x r i j = g r i j := by
  intro r i j hn
  unfold up3
  rw [if_neg (fun z => hn (by rw [z.1]; exact hr))]
  exact h r i j hn
theorem frf {f g : Io} (h : ∀ r i j k, ¬ F r → f r i j k = g r i j k) {r0 a n : Nat} {x : Int32} (hr : F r0) : ∀ r i j k, ¬ F r → fil f r0 a n x r i j k = g r i j k := by
  intro r i j k hn
  unfold fil
  rw [if_neg (fun z => hn (by rw [z.1]; exact hr))]
  exact h r i j k hn
end Fr
def MiN (ν : Nu) : Nu := (up3 (up3 (up3 (up3 (up3 (up3 (up3 (up3 (up3 (up3 (up3 (up3 (up3 (up3 (up3 (up3 (up3 (up3 (up3 (up3 (up3 (up3 (up3 (up3 (up3 ν 42 0 0 (some 13)) 43 0 0 (some 104)) 44 0 0 (some 104)) 45 0 0 (some 104)) 46 0 0 (some 13312)) 47 0 0 (some 13)) 48 0 0 (some 156)) 49 0 0 (some 156)) 50 0 0 (some 156)) 51 0 0 (some 156)) 52 0 0 (some 13)) 53 0 0 (some 208)) 54 0 0 (some 208)) 55 0 0 (some 208)) 56 0 0 (some 208)) 57 0 0 (some 208)) 59 0 0 (some 12)) 61 0 0 (some 96)) 62 0 0 (some 144)) 63 0 0 (some 144)) 64 0 0 (some 96)) 73 0 0 (some 4096)) 75 0 0 (some 144)) 76 0 0 (some 144)) 78 0 0 (some 1400))
def MiI (ι : Io) : Io := (upA (upA (upA (upA (up4 (up4 (upA (upA (upA (upA (upA (upA (upA (upA (upA (upA (upA (upA (upA (upA (upA (upA (upA (upA (upA (upA (upA ι 42 0 0 (fun _ => 0)) 43 0 0 (fun _ => 0)) 44 0 0 (fun _ => 0)) 45 0 0 (fun _ => 0)) 46 0 0 (fun _ => 0)) 47 0 0 (fun _ => 0)) 48 0 0 (fun _ => 0)) 49 0 0 (fun _ => 0)) 50 0 0 (fun _ => 0)) 51 0 0 (fun _ => 0)) 52 0 0 (fun _ => 0)) 53 0 0 (fun _ => 0)) 54 0 0 (fun _ => 0)) 55 0 0 (fun _ => 0)) 56 0 0 (fun _ => 0)) 57 0 0 (fun _ => 0)) 59 0 0 (fun _ => 0)) 61 0 0 (fun _ => 0)) 62 0 0 (fun _ => 0)) 63 0 0 (fun _ => 0)) 64 0 0 (fun _ => 0)) 10 0 0 26 (-1)) 10 0 0 27 (-1)) 73 0 0 (fun _ => 0)) 75 0 0 (fun _ => 0)) 76 0 0 (fun _ => 0)) 78 0 0 (fun _ => 0))
def MiR (ρ : Ro) : Ro := (up4 (up4 (up4 (up4 (up4 (up4 (up4 (up4 (up4 (up4 (up4 (up4 (up4 (up4 (up4 (up4 (up4 (up4 (up4 (up4 (up4 (up4 (up4 (up4 (up4 ρ 10 0 0 2 (some (42, 0, 0))) 10 0 0 3 (some (43, 0, 0))) 10 0 0 4 (some (44, 0, 0))) 10 0 0 5 (some (45, 0, 0))) 10 0 0 6 (some (46, 0, 0))) 10 0 0 7 (some (47, 0, 0))) 10 0 0 8 (some (48, 0, 0))) 10 0 0 9 (some (49, 0, 0))) 10 0 0 10 (some (50, 0, 0))) 10 0 0 11 (some (51, 0, 0))) 10 0 0 12 (some (52, 0, 0))) 10 0 0 13 (some (53, 0, 0))) 10 0 0 14 (some (54, 0, 0))) 10 0 0 15 (some (55, 0, 0))) 10 0 0 16 (some (56, 0, 0))) 10 0 0 17 (some (57, 0, 0))) 10 0 0 19 (some (59, 0, 0))) 10 0 0 21 (some (61, 0, 0))) 10 0 0 22 (some (62, 0, 0))) 10 0 0 23 (some (63, 0, 0))) 10 0 0 24 (some (64, 0, 0))) 10 0 0 33 (some (73, 0, 0))) 10 0 0 35 (some (75, 0, 0))) 10 0 0 36 (some (76, 0, 0))) 10 0 0 38 (some (78, 0, 0)))
theorem MiN_fr {ν : Nu} : ∀ r i j, ¬ isMr r → MiN ν r i j = ν r i j := (fr3 (fr3 (fr3 (fr3 (fr3 (fr3 (fr3 (fr3 (fr3 (fr3 (fr3 (fr3 (fr3 (fr3 (fr3 (fr3 (fr3 (fr3 (fr3 (fr3 (fr3 (fr3 (fr3 (fr3 (fr3 (fun _ _ _ _ => rfl) (by decide)) (by decide)) (by decide)) (by decide)) (by decide)) (by decide)) (by decide)) (by decide)) (by decide)) (by decide)) (by decide)) (by decide)) (by decide)) (by decide)) (by decide)) (by decide)) (by decide)) (by decide)) (by decide)) (by decide)) (by decide)) (by decide)) (by decide)) (by decide)) (by decide))
theorem MiI_fr {ι : Io} : ∀ r i j k, ¬ isMr r → MiI ι r i j k = ι r i j k := (frA (frA (frA (frA (fr4 (fr4 (frA (frA (frA (frA (frA (frA (frA (frA (frA (frA (frA (frA (frA (frA (frA (frA (frA (frA (frA (frA (frA (fun _ _ _ _ _ => rfl) (by decide)) (by decide)) (by decide)) (by decide)) (by decide)) (by decide)) (by decide)) (by decide)) (by decide)) (by decide)) (by decide)) (by decide)) (by decide)) (by decide)) (by decide)) (by decide)) (by decide)) (by decide)) (by decide)) (by decide)) (by decide)) (by decide)) (by decide)) (by decide)) (by decide)) (by decide)) (by decide))
theorem MiR_fr {ρ : Ro} : ∀ r i j k, ¬ isMr r → MiR ρ r i j k = ρ r i j k := (fr4 (fr4 (fr4 (fr4 (fr4 (fr4 (fr4 (fr4 (fr4 (fr4 (fr4 (fr4 (fr4 (fr4 (fr4 (fr4 (fr4 (fr4 (fr4 (fr4 (fr4 (fr4 (fr4 (fr4 (fr4 (fun _ _ _ _ _ => rfl) (by decide)) (by decide)) (by decide)) (by decide)) (by decide)) (by decide)) (by decide)) (by decide)) (by decide)) (by decide)) (by decide)) (by decide)) (by decide)) (by decide)) (by decide)) (by decide)) (by decide)) (by decide)) (by decide)) (by decide)) (by decide)) (by decide)) (by decide)) (by decide)) (by decide))
theorem MiS {ν : Nu} {ρ : Ro} (h : ν 10 0 0 = some 42) : MoS (MiN ν) (MiR ρ) := ⟨h, ⟨rfl, rfl⟩, ⟨rfl, rfl⟩, ⟨rfl, rfl⟩, ⟨rfl, rfl⟩, ⟨rfl, rfl⟩, ⟨rfl, rfl⟩, ⟨rfl, rfl⟩, ⟨rfl, rfl⟩, ⟨rfl, rfl⟩, ⟨rfl, rfl⟩, ⟨rfl, rfl⟩, ⟨rfl, rfl⟩, ⟨rfl, rfl⟩, ⟨rfl, rfl⟩, ⟨rfl, rfl⟩, ⟨rfl, rfl⟩, ⟨rfl, rfl⟩, ⟨rfl, rfl⟩, ⟨rfl, rfl⟩, ⟨rfl, rfl⟩, ⟨rfl, rfl⟩, ⟨rfl, rfl⟩, ⟨rfl, rfl⟩, ⟨rfl, rfl⟩, ⟨rfl, rfl⟩⟩
theorem MiA {ι : Io} (r t : Nat) (hr : r = 42 ∨ r = 43 ∨ r = 44 ∨ r = 45 ∨ r = 46 ∨ r = 47 ∨ r = 48 ∨ r = 49 ∨ r = 50 ∨ r = 51 ∨ r = 52 ∨ r = 53 ∨ r = 54 ∨ r = 55 ∨ r = 56 ∨ r = 57 ∨ r = 59 ∨ r = 61 ∨ r = 62 ∨ r = 63 ∨ r = 73 ∨ r = 75 ∨ r = 76 ∨ r = 78) : fil (MiI ι) 64 0 96 (-1) r 0 0 t = 0 := by
  rcases hr with h | h | h | h | h | h | h | h | h | h | h | h | h | h | h | h | h | h | h | h | h | h | h | h <;> subst h <;> rfl
set_option maxHeartbeats 1000000 in
set_option maxRecDepth 10000 in
theorem c_Mo_init {ν : Nu} {ι : Io} {ρ : Ro} {ℓ : Lo} (hal : ν 10 0 0 ≠ none) (hN : ∀ r, 40 ≤ r → r < 80 → ν r 0 0 = none) : Ct y_Mo_init (Cond.code y_Mo_init b_Mo_init 2 none :: tb_) { frames := 1, cells := 25, slots := 21603, locals := 40 } [sR 10 0 0] ν ι ρ ℓ (pEq none (MiN ν) (fil (MiI ι) 64 0 96 (-1)) (MiR ρ) ℓ) (noX) := by
  refine Ct.ofV (by decide) (Nat.le_of_ble_eq_true rfl) rfl ?_
  intro p l e s m args below meth c D B tW α0 Q C hQ
  have loop : ∀ (f : Nat) (i : Nat), 96 - i < f → (i ≤ 96) → V p l e { frames := 1, cells := 25, slots := 21603, locals := 40 } s m args below meth c D B α0 ν 2 Q 25 21603 (MiN ν) (fil (MiI ι) 64 0 i (-1)) (MiR ρ) ℓ 232 [(1, sI (nI i)), (0, sR 10 0 0)] [] := by
    intro f
    induction f with
    | zero => intros; omega
    | succ f ih =>
      intro i hf hi0
      refine V_iload_n C d_Mo_init_232 rfl ?_
      refine V_bipush (v := 96) C d_Mo_init_233 (by decide) ?_
      refine V_icmp_ge (tgt := 251) C d_Mo_init_235 (by decide) (fun h235 => ?_) (fun h235 => ?_)
      · have hi : i = 96 := by have := (nI_leI (a := 96) (b := i) (by decide) (by omega)).mp h235; omega
        subst hi
        refine V_vret C hQ (by decide) (by decide) d_Mo_init_251 rfl ?_
        exact ⟨rfl, rfl, rfl, rfl, rfl⟩
      · have hi : i < 96 := Nat.lt_of_not_le fun z => h235 ((nI_leI (a := 96) (b := i) (by decide) (by omega)).mpr z)
        refine V_aload_n C d_Mo_init_238 rfl ?_
        refine V_getR (kx := 24) C d_Mo_init_239 cf_Mo (by decide) k_Mo_71 (show MiN ν 10 0 0 ≠ none from hal) rfl rfl ?_
        refine V_iload_n C d_Mo_init_242 rfl ?_
        refine V_iconst (v := (-1)) C d_Mo_init_243 (by decide) ?_
        refine V_iast C d_Mo_init_244 (by decide) rfl (show MiN ν 64 0 0 = some 96 from rfl) rfl hi rfl ?_
        refine V_iinc (v := nI (i + 1)) (lv' := [(1, _), (0, _)]) C d_Mo_init_245 rfl (nI_1 i) (by decide) rfl ?_
        refine V_goto (tgt := 232) C d_Mo_init_248 (by decide) ?_
        refine V_pick [0, 1] rfl ?_
        refine V_io (show up4 (fil (MiI ι) 64 0 i (-1)) 64 0 0 i (-1) = fil (MiI ι) 64 0 (i + 1) (-1) by have := fil_s (ι := MiI ι) (r := 64) (a := 0) (n := i) (x := -1); rwa [Nat.zero_add] at this) ?_
        exact ih (i + 1) (by omega) (by omega)
  refine V_aload_n C d_Mo_init_0 rfl ?_
  refine V_objI C d_Mo_init_1 k_Mo_1 k_obj (by decide) (Nat.le_of_ble_eq_true rfl) ?_
  refine V_aload_n C d_Mo_init_4 rfl ?_
  refine V_bipush (v := 13) C d_Mo_init_5 (by decide) ?_
  refine V_newa (r := 42) (i := 0) (j := 0) (n := 13) C d_Mo_init_7 k_arr_int (by decide) (by decide) (by decide) rfl (fun _ _ => ⟨rfl, rfl⟩) (hN 42 (by decide) (by decide)) rfl (by decide) (by decide) (by decide) (by decide) (fun _ => show (0 : Nat) ≠ 1 by decide) ?_
  refine V_putRF (kx := 2) C d_Mo_init_9 cf_Mo (by decide) k_Mo_7 hal rfl rfl rfl rfl (fun _ => rfl) (fun _ => rfl) ?_
  refine V_aload_n C d_Mo_init_12 rfl ?_
  refine V_bipush (v := 104) C d_Mo_init_13 (by decide) ?_
  refine V_newa (r := 43) (i := 0) (j := 0) (n := 104) C d_Mo_init_15 k_arr_int (by decide) (by decide) (by decide) rfl (fun _ _ => ⟨rfl, rfl⟩) (hN 43 (by decide) (by decide)) rfl (by decide) (by decide) (by decide) (by decide) (fun _ => show (0 : Nat) ≠ 1 by decide) ?_
  refine V_putRF (kx := 3) C d_Mo_init_17 cf_Mo (by decide) k_Mo_13 hal rfl rfl rfl rfl (fun _ => rfl) (fun _ => rfl) ?_
  refine V_aload_n C d_Mo_init_20 rfl ?_
  refine V_bipush (v := 104) C d_Mo_init_21 (by decide) ?_
  refine V_newa (r := 44) (i := 0) (j := 0) (n := 104) C d_Mo_init_23 k_arr_int (by decide) (by decide) (by decide) rfl (fun _ _ => ⟨rfl, rfl⟩) (hN 44 (by decide) (by decide)) rfl (by decide) (by decide) (by decide) (by decide) (fun _ => show (0 : Nat) ≠ 1 by decide) ?_
  refine V_putRF (kx := 4) C d_Mo_init_25 cf_Mo (by decide) k_Mo_16 hal rfl rfl rfl rfl (fun _ => rfl) (fun _ => rfl) ?_
  refine V_aload_n C d_Mo_init_28 rfl ?_
  refine V_bipush (v := 104) C d_Mo_init_29 (by decide) ?_
  refine V_newa (r := 45) (i := 0) (j := 0) (n := 104) C d_Mo_init_31 k_arr_int (by decide) (by decide) (by decide) rfl (fun _ _ => ⟨rfl, rfl⟩) (hN 45 (by decide) (by decide)) rfl (by decide) (by decide) (by decide) (by decide) (fun _ => show (0 : Nat) ≠ 1 by decide) ?_
  refine V_putRF (kx := 5) C d_Mo_init_33 cf_Mo (by decide) k_Mo_19 hal rfl rfl rfl rfl (fun _ => rfl) (fun _ => rfl) ?_
  refine V_aload_n C d_Mo_init_36 rfl ?_
  refine V_sipush (v := 13312) C d_Mo_init_37 (by decide) ?_
  refine V_newa (r := 46) (i := 0) (j := 0) (n := 13312) C d_Mo_init_40 k_arr_int (by decide) (by decide) (by decide) rfl (fun _ _ => ⟨rfl, rfl⟩) (hN 46 (by decide) (by decide)) rfl (by decide) (by decide) (by decide) (by decide) (fun _ => show (0 : Nat) ≠ 1 by decide) ?_
  refine V_putRF (kx := 6) C d_Mo_init_42 cf_Mo (by decide) k_Mo_22 hal rfl rfl rfl rfl (fun _ => rfl) (fun _ => rfl) ?_
  refine V_aload_n C d_Mo_init_45 rfl ?_
  refine V_bipush (v := 13) C d_Mo_init_46 (by decide) ?_
  refine V_newa (r := 47) (i := 0) (j := 0) (n := 13) C d_Mo_init_48 k_arr_int (by decide) (by decide) (by decide) rfl (fun _ _ => ⟨rfl, rfl⟩) (hN 47 (by decide) (by decide)) rfl (by decide) (by decide) (by decide) (by decide) (fun _ => show (0 : Nat) ≠ 1 by decide) ?_
  refine V_putRF (kx := 7) C d_Mo_init_50 cf_Mo (by decide) k_Mo_25 hal rfl rfl rfl rfl (fun _ => rfl) (fun _ => rfl) ?_
  refine V_aload_n C d_Mo_init_53 rfl ?_
  refine V_sipush (v := 156) C d_Mo_init_54 (by decide) ?_
  refine V_newa (r := 48) (i := 0) (j := 0) (n := 156) C d_Mo_init_57 k_arr_int (by decide) (by decide) (by decide) rfl (fun _ _ => ⟨rfl, rfl⟩) (hN 48 (by decide) (by decide)) rfl (by decide) (by decide) (by decide) (by decide) (fun _ => show (0 : Nat) ≠ 1 by decide) ?_
  refine V_putRF (kx := 8) C d_Mo_init_59 cf_Mo (by decide) k_Mo_28 hal rfl rfl rfl rfl (fun _ => rfl) (fun _ => rfl) ?_
  refine V_aload_n C d_Mo_init_62 rfl ?_
  refine V_sipush (v := 156) C d_Mo_init_63 (by decide) ?_
  refine V_newa (r := 49) (i := 0) (j := 0) (n := 156) C d_Mo_init_66 k_arr_int (by decide) (by decide) (by decide) rfl (fun _ _ => ⟨rfl, rfl⟩) (hN 49 (by decide) (by decide)) rfl (by decide) (by decide) (by decide) (by decide) (fun _ => show (0 : Nat) ≠ 1 by decide) ?_
  refine V_putRF (kx := 9) C d_Mo_init_68 cf_Mo (by decide) k_Mo_31 hal rfl rfl rfl rfl (fun _ => rfl) (fun _ => rfl) ?_
  refine V_aload_n C d_Mo_init_71 rfl ?_
  refine V_sipush (v := 156) C d_Mo_init_72 (by decide) ?_
  refine V_newa (r := 50) (i := 0) (j := 0) (n := 156) C d_Mo_init_75 k_arr_int (by decide) (by decide) (by decide) rfl (fun _ _ => ⟨rfl, rfl⟩) (hN 50 (by decide) (by decide)) rfl (by decide) (by decide) (by decide) (by decide) (fun _ => show (0 : Nat) ≠ 1 by decide) ?_
  refine V_putRF (kx := 10) C d_Mo_init_77 cf_Mo (by decide) k_Mo_34 hal rfl rfl rfl rfl (fun _ => rfl) (fun _ => rfl) ?_
  refine V_aload_n C d_Mo_init_80 rfl ?_
  refine V_sipush (v := 156) C d_Mo_init_81 (by decide) ?_
  refine V_newa (r := 51) (i := 0) (j := 0) (n := 156) C d_Mo_init_84 k_arr_int (by decide) (by decide) (by decide) rfl (fun _ _ => ⟨rfl, rfl⟩) (hN 51 (by decide) (by decide)) rfl (by decide) (by decide) (by decide) (by decide) (fun _ => show (0 : Nat) ≠ 1 by decide) ?_
  refine V_putRF (kx := 11) C d_Mo_init_86 cf_Mo (by decide) k_Mo_37 hal rfl rfl rfl rfl (fun _ => rfl) (fun _ => rfl) ?_
  refine V_aload_n C d_Mo_init_89 rfl ?_
  refine V_bipush (v := 13) C d_Mo_init_90 (by decide) ?_
  refine V_newa (r := 52) (i := 0) (j := 0) (n := 13) C d_Mo_init_92 k_arr_int (by decide) (by decide) (by decide) rfl (fun _ _ => ⟨rfl, rfl⟩) (hN 52 (by decide) (by decide)) rfl (by decide) (by decide) (by decide) (by decide) (fun _ => show (0 : Nat) ≠ 1 by decide) ?_
  refine V_putRF (kx := 12) C d_Mo_init_94 cf_Mo (by decide) k_Mo_40 hal rfl rfl rfl rfl (fun _ => rfl) (fun _ => rfl) ?_
  refine V_aload_n C d_Mo_init_97 rfl ?_
  refine V_sipush (v := 208) C d_Mo_init_98 (by decide) ?_
  refine V_newa (r := 53) (i := 0) (j := 0) (n := 208) C d_Mo_init_101 k_arr_int (by decide) (by decide) (by decide) rfl (fun _ _ => ⟨rfl, rfl⟩) (hN 53 (by decide) (by decide)) rfl (by decide) (by decide) (by decide) (by decide) (fun _ => show (0 : Nat) ≠ 1 by decide) ?_
  refine V_putRF (kx := 13) C d_Mo_init_103 cf_Mo (by decide) k_Mo_43 hal rfl rfl rfl rfl (fun _ => rfl) (fun _ => rfl) ?_
  refine V_aload_n C d_Mo_init_106 rfl ?_
  refine V_sipush (v := 208) C d_Mo_init_107 (by decide) ?_
  refine V_newa (r := 54) (i := 0) (j := 0) (n := 208) C d_Mo_init_110 k_arr_int (by decide) (by decide) (by decide) rfl (fun _ _ => ⟨rfl, rfl⟩) (hN 54 (by decide) (by decide)) rfl (by decide) (by decide) (by decide) (by decide) (fun _ => show (0 : Nat) ≠ 1 by decide) ?_
  refine V_putRF (kx := 14) C d_Mo_init_112 cf_Mo (by decide) k_Mo_46 hal rfl rfl rfl rfl (fun _ => rfl) (fun _ => rfl) ?_
  refine V_aload_n C d_Mo_init_115 rfl ?_
  refine V_sipush (v := 208) C d_Mo_init_116 (by decide) ?_
  refine V_newa (r := 55) (i := 0) (j := 0) (n := 208) C d_Mo_init_119 k_arr_int (by decide) (by decide) (by decide) rfl (fun _ _ => ⟨rfl, rfl⟩) (hN 55 (by decide) (by decide)) rfl (by decide) (by decide) (by decide) (by decide) (fun _ => show (0 : Nat) ≠ 1 by decide) ?_
  refine V_putRF (kx := 15) C d_Mo_init_121 cf_Mo (by decide) k_Mo_49 hal rfl rfl rfl rfl (fun _ => rfl) (fun _ => rfl) ?_
  refine V_aload_n C d_Mo_init_124 rfl ?_
  refine V_sipush (v := 208) C d_Mo_init_125 (by decide) ?_
  refine V_newa (r := 56) (i := 0) (j := 0) (n := 208) C d_Mo_init_128 k_arr_int (by decide) (by decide) (by decide) rfl (fun _ _ => ⟨rfl, rfl⟩) (hN 56 (by decide) (by decide)) rfl (by decide) (by decide) (by decide) (by decide) (fun _ => show (0 : Nat) ≠ 1 by decide) ?_
  refine V_putRF (kx := 16) C d_Mo_init_130 cf_Mo (by decide) k_Mo_52 hal rfl rfl rfl rfl (fun _ => rfl) (fun _ => rfl) ?_
  refine V_aload_n C d_Mo_init_133 rfl ?_
  refine V_sipush (v := 208) C d_Mo_init_134 (by decide) ?_
  refine V_newa (r := 57) (i := 0) (j := 0) (n := 208) C d_Mo_init_137 k_arr_int (by decide) (by decide) (by decide) rfl (fun _ _ => ⟨rfl, rfl⟩) (hN 57 (by decide) (by decide)) rfl (by decide) (by decide) (by decide) (by decide) (fun _ => show (0 : Nat) ≠ 1 by decide) ?_
  refine V_putRF (kx := 17) C d_Mo_init_139 cf_Mo (by decide) k_Mo_55 hal rfl rfl rfl rfl (fun _ => rfl) (fun _ => rfl) ?_
  refine V_aload_n C d_Mo_init_142 rfl ?_
  refine V_bipush (v := 12) C d_Mo_init_143 (by decide) ?_
  refine V_newa (r := 59) (i := 0) (j := 0) (n := 12) C d_Mo_init_145 k_arr_int (by decide) (by decide) (by decide) rfl (fun _ _ => ⟨rfl, rfl⟩) (hN 59 (by decide) (by decide)) rfl (by decide) (by decide) (by decide) (by decide) (fun _ => show (0 : Nat) ≠ 1 by decide) ?_
  refine V_putRF (kx := 19) C d_Mo_init_147 cf_Mo (by decide) k_Mo_58 hal rfl rfl rfl rfl (fun _ => rfl) (fun _ => rfl) ?_
  refine V_aload_n C d_Mo_init_150 rfl ?_
  refine V_bipush (v := 96) C d_Mo_init_151 (by decide) ?_
  refine V_newa (r := 61) (i := 0) (j := 0) (n := 96) C d_Mo_init_153 k_arr_boolean (by decide) (by decide) (by decide) rfl (fun _ _ => ⟨rfl, rfl⟩) (hN 61 (by decide) (by decide)) rfl (by decide) (by decide) (by decide) (by decide) (fun _ => show (0 : Nat) ≠ 1 by decide) ?_
  refine V_putRF (kx := 21) C d_Mo_init_155 cf_Mo (by decide) k_Mo_61 hal rfl rfl rfl rfl (fun _ => rfl) (fun _ => rfl) ?_
  refine V_aload_n C d_Mo_init_158 rfl ?_
  refine V_sipush (v := 144) C d_Mo_init_159 (by decide) ?_
  refine V_newa (r := 62) (i := 0) (j := 0) (n := 144) C d_Mo_init_162 k_arr_boolean (by decide) (by decide) (by decide) rfl (fun _ _ => ⟨rfl, rfl⟩) (hN 62 (by decide) (by decide)) rfl (by decide) (by decide) (by decide) (by decide) (fun _ => show (0 : Nat) ≠ 1 by decide) ?_
  refine V_putRF (kx := 22) C d_Mo_init_164 cf_Mo (by decide) k_Mo_65 hal rfl rfl rfl rfl (fun _ => rfl) (fun _ => rfl) ?_
  refine V_aload_n C d_Mo_init_167 rfl ?_
  refine V_sipush (v := 144) C d_Mo_init_168 (by decide) ?_
  refine V_newa (r := 63) (i := 0) (j := 0) (n := 144) C d_Mo_init_171 k_arr_int (by decide) (by decide) (by decide) rfl (fun _ _ => ⟨rfl, rfl⟩) (hN 63 (by decide) (by decide)) rfl (by decide) (by decide) (by decide) (by decide) (fun _ => show (0 : Nat) ≠ 1 by decide) ?_
  refine V_putRF (kx := 23) C d_Mo_init_173 cf_Mo (by decide) k_Mo_68 hal rfl rfl rfl rfl (fun _ => rfl) (fun _ => rfl) ?_
  refine V_aload_n C d_Mo_init_176 rfl ?_
  refine V_bipush (v := 96) C d_Mo_init_177 (by decide) ?_
  refine V_newa (r := 64) (i := 0) (j := 0) (n := 96) C d_Mo_init_179 k_arr_int (by decide) (by decide) (by decide) rfl (fun _ _ => ⟨rfl, rfl⟩) (hN 64 (by decide) (by decide)) rfl (by decide) (by decide) (by decide) (by decide) (fun _ => show (0 : Nat) ≠ 1 by decide) ?_
  refine V_putRF (kx := 24) C d_Mo_init_181 cf_Mo (by decide) k_Mo_71 hal rfl rfl rfl rfl (fun _ => rfl) (fun _ => rfl) ?_
  refine V_aload_n C d_Mo_init_184 rfl ?_
  refine V_iconst (v := (-1)) C d_Mo_init_185 (by decide) ?_
  refine V_putI (kx := 26) C d_Mo_init_186 cf_Mo (by decide) k_Mo_74 hal rfl rfl rfl rfl ?_
  refine V_aload_n C d_Mo_init_189 rfl ?_
  refine V_iconst (v := (-1)) C d_Mo_init_190 (by decide) ?_
  refine V_putI (kx := 27) C d_Mo_init_191 cf_Mo (by decide) k_Mo_78 hal rfl rfl rfl rfl ?_
  refine V_aload_n C d_Mo_init_194 rfl ?_
  refine V_sipush (v := 4096) C d_Mo_init_195 (by decide) ?_
  refine V_newa (r := 73) (i := 0) (j := 0) (n := 4096) C d_Mo_init_198 k_arr_int (by decide) (by decide) (by decide) rfl (fun _ _ => ⟨rfl, rfl⟩) (hN 73 (by decide) (by decide)) rfl (by decide) (by decide) (by decide) (by decide) (fun _ => show (0 : Nat) ≠ 1 by decide) ?_
  refine V_putRF (kx := 33) C d_Mo_init_200 cf_Mo (by decide) k_Mo_81 hal rfl rfl rfl rfl (fun _ => rfl) (fun _ => rfl) ?_
  refine V_aload_n C d_Mo_init_203 rfl ?_
  refine V_sipush (v := 144) C d_Mo_init_204 (by decide) ?_
  refine V_newa (r := 75) (i := 0) (j := 0) (n := 144) C d_Mo_init_207 k_arr_int (by decide) (by decide) (by decide) rfl (fun _ _ => ⟨rfl, rfl⟩) (hN 75 (by decide) (by decide)) rfl (by decide) (by decide) (by decide) (by decide) (fun _ => show (0 : Nat) ≠ 1 by decide) ?_
  refine V_putRF (kx := 35) C d_Mo_init_209 cf_Mo (by decide) k_Mo_84 hal rfl rfl rfl rfl (fun _ => rfl) (fun _ => rfl) ?_
  refine V_aload_n C d_Mo_init_212 rfl ?_
  refine V_sipush (v := 144) C d_Mo_init_213 (by decide) ?_
  refine V_newa (r := 76) (i := 0) (j := 0) (n := 144) C d_Mo_init_216 k_arr_int (by decide) (by decide) (by decide) rfl (fun _ _ => ⟨rfl, rfl⟩) (hN 76 (by decide) (by decide)) rfl (by decide) (by decide) (by decide) (by decide) (fun _ => show (0 : Nat) ≠ 1 by decide) ?_
  refine V_putRF (kx := 36) C d_Mo_init_218 cf_Mo (by decide) k_Mo_87 hal rfl rfl rfl rfl (fun _ => rfl) (fun _ => rfl) ?_
  refine V_aload_n C d_Mo_init_221 rfl ?_
  refine V_sipush (v := 1400) C d_Mo_init_222 (by decide) ?_
  refine V_newa (r := 78) (i := 0) (j := 0) (n := 1400) C d_Mo_init_225 k_arr_int (by decide) (by decide) (by decide) rfl (fun _ _ => ⟨rfl, rfl⟩) (hN 78 (by decide) (by decide)) rfl (by decide) (by decide) (by decide) (by decide) (fun _ => show (0 : Nat) ≠ 1 by decide) ?_
  refine V_putRF (kx := 38) C d_Mo_init_227 cf_Mo (by decide) k_Mo_90 hal rfl rfl rfl rfl (fun _ => rfl) (fun _ => rfl) ?_
  refine V_iconst (v := 0) C d_Mo_init_230 (by decide) ?_
  refine V_istore_n (lv' := [(1, _), (0, _)]) C d_Mo_init_231 (by decide) rfl ?_
  refine V_pick [0, 1] rfl ?_
  refine V_io (fil_0 (r := 64) (a := 0) (x := -1)).symm ?_
  exact loop 97 0 (by omega) (by omega)
