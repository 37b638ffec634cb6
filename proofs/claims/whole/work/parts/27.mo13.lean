def flF (L : Ls) (r a n : Nat) (g : Nat → Int32) : Ls := fun r' k => if r' = r ∧ a ≤ k ∧ k < a + n then g (k - a) else L r' k
theorem flF_0 {L : Ls} {r a : Nat} {g : Nat → Int32} : flF L r a 0 g = L := by
  funext r' k
  unfold flF
  exact if_neg (by omega)
theorem flF_s {L : Ls} {r a n : Nat} {g : Nat → Int32} {x : Int32} (hx : x = g n) : up2 (flF L r a n g) r (a + n) x = flF L r a (n + 1) g := by
  subst hx
  funext r' k
  unfold up2 flF
  by_cases h : r' = r ∧ k = a + n
  · rw [if_pos h, if_pos (by omega), h.2, show a + n - a = n by omega]
  · rw [if_neg h]
    by_cases h2 : r' = r ∧ a ≤ k ∧ k < a + n
    · rw [if_pos h2, if_pos (by omega)]
    · rw [if_neg h2, if_neg (by omega)]
theorem filF_set {ι : Io} {L : Ls} {r a n : Nat} {g : Nat → Int32} (h : ∀ k, isL r k = true) : filF (setL ι L) r a n g = setL ι (flF L r a n g) := by
  funext r' i j k
  unfold filF setL flF
  grind
def cpS (ι : Io) (L : Ls) (s : Nat) : Ls := if L 61 s ≠ 0 ∧ ι 43 0 0 s ≠ 3 then flF L 73 (L 64 s - L 10 20).toNatClampNeg (mn ι 45 s) (fun k => ι 46 0 0 (128 * s + k)) else L
def copL (ι : Io) (L : Ls) : Ls := (List.range 96).foldl (cpS ι) (flL L 73 4096 0)
theorem cpS_fr {ι : Io} {L : Ls} {s r k : Nat} (h : r ≠ 73) : cpS ι L s r k = L r k := by
  unfold cpS
  split
  · exact if_neg (by omega)
  · rfl
def wd (w : Nat) : Nat := if w = 0 then 4 else if w = 3 then 1 else 2
def puL (L : Ls) (q : Int32) (v : Int64) (w : Nat) : Ls := flF L 73 (q - L 10 20).toNatClampNeg w (byL v w)
def pmL (ι : Io) (L : Ls) (m : Int32) : Int32 := if m < 0 then -1 else if ι 49 0 0 m.toNatClampNeg = 2 then (if L 62 m.toNatClampNeg = 0 then -1 else L 63 m.toNatClampNeg) else (if L 61 (8 * (m.toNatClampNeg / 12) + mn ι 50 m.toNatClampNeg) = 0 then -1 else L 64 (8 * (m.toNatClampNeg / 12) + mn ι 50 m.toNatClampNeg) + ι 51 0 0 m.toNatClampNeg)
def pR (ι : Io) (L : Ls) (j : Nat) : Int32 := L 64 (slR ι j) + ι 54 0 0 j
def sm (ι : Io) (c : Nat) (L : Ls) (j : Nat) : Int64 := (pmL ι L (meR ι c j)).toInt64 + (ι 57 0 0 j).toInt64
def ap (ι : Io) (c : Nat) (L : Ls) (j : Nat) : Int64 := sm ι c L j - (pR ι L j).toInt64
def fltV (w : Nat) (s a : Int64) : Int32 := if w = 1 then (if 0 ≤ s ∧ s ≤ 65535 then 0 else 5) else if w = 2 then (if -32768 ≤ a ∧ a ≤ 32767 then 0 else 5) else if w = 3 then (if a &&& 3 ≠ 0 then 4 else if -128 ≤ a >>> ((2 : Int32).toInt64 &&& 63) ∧ a >>> ((2 : Int32).toInt64 &&& 63) ≤ 127 then 0 else 5) else 0
def vluV (w : Nat) (s a : Int64) : Int64 := if w = 2 then a else if w = 3 then a >>> ((2 : Int32).toInt64 &&& 63) else if w = 4 then (s + 32768) >>> ((16 : Int32).toInt64 &&& 63) else s
def tl0 (L : Ls) (f a b : Int32) : Ls := if f = 0 then L else tlL L f a b
def wkS (ι : Io) (c : Nat) (L : Ls) (j : Nat) : Ls :=
  if mn ι 45 (slR ι j) < mn ι 54 j + wd (mn ι 55 j) then tlL L 3 (nI (j / 16)) (nI (j % 16)) else puL (tl0 L (fltV (mn ι 55 j) (sm ι c L j) (ap ι c L j)) (nI (j / 16)) (nI (j % 16))) (pR ι L j) (vluV (mn ι 55 j) (sm ι c L j) (ap ι c L j)) (wd (mn ι 55 j))
theorem tlL_20 {L : Ls} {a b d : Int32} : tlL L a b d 10 20 = L 10 20 := by
  unfold tlL
  split <;> rfl
theorem tl0_20 {L : Ls} {a b d : Int32} : tl0 L a b d 10 20 = L 10 20 := by
  unfold tl0
  split
  · rfl
  · exact tlL_20
theorem k_put {ν : Nu} {ι : Io} {ρ : Ro} {ℓ : Lo} (hM : MoS ν ρ) {c9 : Nat} (K : LK ι c9) {L : Ls} {x : Int32} {v : Int64} {w : Nat} (hp : ∃ a, x - L 10 20 = nI a ∧ a + w ≤ 4096) : Ct y_Mo_put (Cond.code y_Mo_put b_Mo_put 6 none :: tb_) { frames := 0, cells := 0, slots := 0, locals := 0 } [sR 10 0 0, sI x, sL v, sI (nI w)] ν (setL ι L) ρ ℓ (pEq none ν (setL ι (puL L x v w)) ρ ℓ) (noX) := by
  obtain ⟨a, h1, h2⟩ := hp
  unfold puL
  rw [h1, nI_clamp (by omega), ← filF_set (fun _ => rfl)]
  exact c_Mo_put (ι := setL ι L) hM h1 h2
theorem k_placeOfMeaning {ν : Nu} {ι : Io} {ρ : Ro} {ℓ : Lo} (hM : MoS ν ρ) {c9 : Nat} (K : LK ι c9) {L : Ls} {m9 : Int32} (hm : m9 = -1 ∨ ∃ i, i < 144 ∧ m9 = nI i) : Ct y_Mo_placeOfMeaning (Cond.code y_Mo_placeOfMeaning b_Mo_placeOfMeaning 3 (some .int) :: tb_) { frames := 0, cells := 0, slots := 0, locals := 0 } [sR 10 0 0, sI m9] ν (setL ι L) ρ ℓ (pEq (some (sI (pmL ι L m9))) ν (setL ι L) ρ ℓ) (noX) := by
  rcases hm with h | ⟨i, hi, h⟩
  · have h1 : m9 < 0 := by rw [h]; decide
    unfold pmL
    rw [if_pos h1]
    exact c_Mo_placeOfMeaning_no h1
  · subst h
    unfold pmL
    rw [if_neg (nI_nneg (by omega)), nI_clamp (by omega)]
    exact c_Mo_placeOfMeaning (ι := setL ι L) hM hi K.b50
theorem fold_fr {f : Ls → Nat → Ls} {r k : Nat} (h : ∀ L s, f L s r k = L r k) {l : List Nat} {L : Ls} : l.foldl f L r k = L r k := by
  induction l generalizing L with
  | nil => rfl
  | cons a l ih => rw [List.foldl_cons, ih, h]
set_option maxHeartbeats 1000000 in
set_option maxRecDepth 10000 in
theorem k_copySections {ν : Nu} {ι : Io} {ρ : Ro} {ℓ : Lo} (hM : MoS ν ρ) {c9 : Nat} (K : LK ι c9) {L : Ls} (hL : ∀ s, s < 96 → L 61 s ≠ 0 → ∃ a, L 64 s - L 10 20 = nI a ∧ a + mn ι 45 s ≤ 4096) : Ct y_Mo_copySections (Cond.code y_Mo_copySections b_Mo_copySections 3 none :: tb_) { frames := 0, cells := 0, slots := 0, locals := 0 } [sR 10 0 0] ν (setL ι L) ρ ℓ (pEq none ν (setL ι (copL ι L)) ρ ℓ) (noX) := by
  refine Ct.ofV (by decide) (Nat.le_of_ble_eq_true rfl) rfl ?_
  intro p l e s m args below meth c D B tW α0 Q C hQ
  have secs : ∀ (f : Nat) (s9 : Nat) (L1 : Ls), 96 - s9 < f → (s9 ≤ 96) → (L1 = (List.range s9).foldl (cpS ι) (flL L 73 4096 0)) → V p l e { frames := 0, cells := 0, slots := 0, locals := 0 } s m args below meth c D B α0 ν 3 Q 0 0 ν (setL ι L1) ρ ℓ 24 [(1, sI (nI s9)), (0, sR 10 0 0)] [] := by
    intro f
    induction f with
    | zero => intros; omega
    | succ f ih =>
      intro s9 L1 hf hs0 hpre
      have hfr0 : ∀ r, r ≠ 73 → ∀ k, L1 r k = L r k := by
        intro r hr k
        rw [hpre, fold_fr (fun L s => cpS_fr hr)]
        exact if_neg (by omega)
      refine V_iload_n C d_Mo_copySections_24 rfl ?_
      refine V_bipush (v := 96) C d_Mo_copySections_25 (by decide) ?_
      refine V_icmp_ge (tgt := 103) C d_Mo_copySections_27 (by decide) (fun h27 => ?_) (fun h27 => ?_)
      · have hs : s9 = 96 := by have := (nI_leI (a := 96) (b := s9) (by decide) (by omega)).mp h27; omega
        subst hs
        refine V_vret C hQ (by decide) (by decide) d_Mo_copySections_103 rfl ?_
        exact ⟨rfl, rfl, congrArg (setL ι) hpre.symm, rfl, rfl⟩
      · have hs : s9 < 96 := Nat.lt_of_not_le fun z => h27 ((nI_leI (a := 96) (b := s9) (by decide) (by omega)).mpr z)
        have hl9 := K.b45.le (t := s9) (by omega)
        have hnx := ih (s9 + 1) _ (by omega) (by omega) (show cpS ι L1 s9 = _ by rw [List.range_succ, fold_g, ← hpre])
        refine V_iconst (v := 0) C d_Mo_copySections_30 (by decide) ?_
        refine V_istore_n (lv' := [(2, _), (1, _), (0, _)]) C d_Mo_copySections_31 (by decide) rfl ?_
        refine V_pick [0, 1, 2] rfl ?_
        have hfr : ∀ r, r ≠ 73 → ∀ k, L1 r k = L r k := fun r h k => hfr0 r h k
        by_cases hr : L1 61 s9 ≠ 0 ∧ ι 43 0 0 s9 ≠ 3
        · obtain ⟨a9, ha, ha2⟩ := hL s9 hs (by rw [← hfr 61 (by decide)]; exact hr.1)
          rw [← hfr 64 (by decide), ← hfr 10 (by decide)] at ha
          have inner : ∀ (f : Nat) (i : Nat), mn ι 45 s9 - i < f → (i ≤ mn ι 45 s9) → V p l e { frames := 0, cells := 0, slots := 0, locals := 0 } s m args below meth c D B α0 ν 3 Q 0 0 ν (setL ι (flF L1 73 a9 i (fun k => ι 46 0 0 (128 * s9 + k)))) ρ ℓ 32 [(2, sI (nI i)), (1, sI (nI s9)), (0, sR 10 0 0)] [] := by
            intro f
            induction f with
            | zero => intros; omega
            | succ f ih2 =>
                    intro i hf2 hi0
                    refine V_aload_n C d_Mo_copySections_32 rfl ?_
                    refine V_getR (kx := 21) C d_Mo_copySections_33 cf_Mo (by decide) k_Mo_61 hM.al rfl hM.r21 ?_
                    refine V_iload_n C d_Mo_copySections_36 rfl ?_
                    refine V_zald C d_Mo_copySections_37 (by decide) rfl hM.n21 rfl hs rfl ?_
                    refine V_if_eq (tgt := 97) C d_Mo_copySections_38 (by decide) (fun h38 => absurd h38 hr.1) (fun h38 => ?_)
                    refine V_iload_n C d_Mo_copySections_41 rfl ?_
                    refine V_aload_n C d_Mo_copySections_42 rfl ?_
                    refine V_getR (kx := 5) C d_Mo_copySections_43 cf_Mo (by decide) k_Mo_19 hM.al rfl hM.r5 ?_
                    refine V_iload_n C d_Mo_copySections_46 rfl ?_
                    refine V_iald C d_Mo_copySections_47 (by decide) rfl hM.n5 rfl (by omega) rfl ?_
                    refine V_eqi (y := nI (mn ι 45 s9)) (K.b45.eq (t := s9) (by omega)) ?_
                    refine V_icmp_ge (tgt := 97) C d_Mo_copySections_48 (by decide) (fun h48 => ?_) (fun h48 => ?_)
                    · have hi : i = mn ι 45 s9 := by have := (nI_leI (by omega) (by omega)).mp h48; omega
                      subst hi
                      refine V_iinc (v := nI (s9 + 1)) (lv' := [(1, _), (2, _), (0, _)]) C d_Mo_copySections_97 rfl (nI_1 s9) (by decide) rfl ?_
                      refine V_goto (tgt := 24) C d_Mo_copySections_100 (by decide) ?_
                      refine V_pick [0, 2] rfl ?_
                      refine V_io (show _ = setL ι (cpS ι L1 s9) by unfold cpS; rw [if_pos hr, ha, nI_clamp (by omega)]) ?_
                      exact hnx
                    · have hi : i < mn ι 45 s9 := Nat.lt_of_not_le fun z => h48 ((nI_leI (by omega) (by omega)).mpr z)
                      refine V_aload_n C d_Mo_copySections_51 rfl ?_
                      refine V_getR (kx := 3) C d_Mo_copySections_52 cf_Mo (by decide) k_Mo_13 hM.al rfl hM.r3 ?_
                      refine V_iload_n C d_Mo_copySections_55 rfl ?_
                      refine V_iald C d_Mo_copySections_56 (by decide) rfl hM.n3 rfl (by omega) rfl ?_
                      refine V_iconst (v := 3) C d_Mo_copySections_57 (by decide) ?_
                      refine V_icmp_eq (tgt := 97) C d_Mo_copySections_58 (by decide) (fun h58 => absurd h58 hr.2) (fun h58 => ?_)
                      refine V_aload_n C d_Mo_copySections_61 rfl ?_
                      refine V_getR (kx := 33) C d_Mo_copySections_62 cf_Mo (by decide) k_Mo_81 hM.al rfl hM.r33 ?_
                      refine V_aload_n C d_Mo_copySections_65 rfl ?_
                      refine V_getR (kx := 24) C d_Mo_copySections_66 cf_Mo (by decide) k_Mo_71 hM.al rfl hM.r24 ?_
                      refine V_iload_n C d_Mo_copySections_69 rfl ?_
                      refine V_iald C d_Mo_copySections_70 (by decide) rfl hM.n24 rfl hs rfl ?_
                      refine V_aload_n C d_Mo_copySections_71 rfl ?_
                      refine V_getI (kx := 20) C d_Mo_copySections_72 cf_Mo (by decide) k_Mo_176 hM.al rfl ?_
                      refine V_isub C d_Mo_copySections_75 ?_
                      refine V_iload_n C d_Mo_copySections_76 rfl ?_
                      refine V_iadd C d_Mo_copySections_77 ?_
                      refine V_aload_n C d_Mo_copySections_78 rfl ?_
                      refine V_getR (kx := 6) C d_Mo_copySections_79 cf_Mo (by decide) k_Mo_22 hM.al rfl hM.r6 ?_
                      refine V_sipush (v := 128) C d_Mo_copySections_82 (by decide) ?_
                      refine V_iload_n C d_Mo_copySections_85 rfl ?_
                      refine V_imul C d_Mo_copySections_86 ?_
                      refine V_iload_n C d_Mo_copySections_87 rfl ?_
                      refine V_iadd C d_Mo_copySections_88 ?_
                      refine V_iald C d_Mo_copySections_89 (by decide) rfl hM.n6 (ixa 128 s9 i) (by omega) rfl ?_
                      refine V_iast C d_Mo_copySections_90 (by decide) rfl hM.n33 (show L1 64 s9 - L1 10 20 + nI i = nI (a9 + i) by rw [ha, nI_add]) (by omega) rfl ?_
                      refine V_iinc (v := nI (i + 1)) (lv' := [(2, _), (1, _), (0, _)]) C d_Mo_copySections_91 rfl (nI_1 i) (by decide) rfl ?_
                      refine V_goto (tgt := 32) C d_Mo_copySections_94 (by decide) ?_
                      refine V_pick [0, 1, 2] rfl ?_
                      refine V_io (show _ = setL ι (flF L1 73 a9 (i + 1) (fun k => ι 46 0 0 (128 * s9 + k))) by rw [setL_up rfl]; exact congrArg (setL ι) (flF_s rfl)) ?_
                      exact ih2 (i + 1) (by omega) (by omega)
          refine V_io (congrArg (setL ι) (flF_0 (r := 73) (a := a9) (g := (fun k => ι 46 0 0 (128 * s9 + k)))).symm) ?_
          exact inner (mn ι 45 s9 + 1) 0 (by omega) (by omega)
        · skip
          refine V_aload_n C d_Mo_copySections_32 rfl ?_
          refine V_getR (kx := 21) C d_Mo_copySections_33 cf_Mo (by decide) k_Mo_61 hM.al rfl hM.r21 ?_
          refine V_iload_n C d_Mo_copySections_36 rfl ?_
          refine V_zald C d_Mo_copySections_37 (by decide) rfl hM.n21 rfl hs rfl ?_
          refine V_if_eq (tgt := 97) C d_Mo_copySections_38 (by decide) (fun h38 => ?_) (fun h38 => ?_)
          · refine V_iinc (v := nI (s9 + 1)) (lv' := [(1, _), (2, _), (0, _)]) C d_Mo_copySections_97 rfl (nI_1 s9) (by decide) rfl ?_
            refine V_goto (tgt := 24) C d_Mo_copySections_100 (by decide) ?_
            refine V_pick [0, 2] rfl ?_
            refine V_io (show _ = setL ι (cpS ι L1 s9) by unfold cpS; rw [if_neg hr]) ?_
            exact hnx
          · refine V_iload_n C d_Mo_copySections_41 rfl ?_
            refine V_aload_n C d_Mo_copySections_42 rfl ?_
            refine V_getR (kx := 5) C d_Mo_copySections_43 cf_Mo (by decide) k_Mo_19 hM.al rfl hM.r5 ?_
            refine V_iload_n C d_Mo_copySections_46 rfl ?_
            refine V_iald C d_Mo_copySections_47 (by decide) rfl hM.n5 rfl (by omega) rfl ?_
            refine V_icmp_ge (tgt := 97) C d_Mo_copySections_48 (by decide) (fun h48 => ?_) (fun h48 => ?_)
            · refine V_iinc (v := nI (s9 + 1)) (lv' := [(1, _), (2, _), (0, _)]) C d_Mo_copySections_97 rfl (nI_1 s9) (by decide) rfl ?_
              refine V_goto (tgt := 24) C d_Mo_copySections_100 (by decide) ?_
              refine V_pick [0, 2] rfl ?_
              refine V_io (show _ = setL ι (cpS ι L1 s9) by unfold cpS; rw [if_neg hr]) ?_
              exact hnx
            · refine V_aload_n C d_Mo_copySections_51 rfl ?_
              refine V_getR (kx := 3) C d_Mo_copySections_52 cf_Mo (by decide) k_Mo_13 hM.al rfl hM.r3 ?_
              refine V_iload_n C d_Mo_copySections_55 rfl ?_
              refine V_iald C d_Mo_copySections_56 (by decide) rfl hM.n3 rfl (by omega) rfl ?_
              refine V_iconst (v := 3) C d_Mo_copySections_57 (by decide) ?_
              refine V_icmp_eq (tgt := 97) C d_Mo_copySections_58 (by decide) (fun h58 => ?_) (fun h58 => absurd ⟨h38, h58⟩ hr)
              refine V_iinc (v := nI (s9 + 1)) (lv' := [(1, _), (2, _), (0, _)]) C d_Mo_copySections_97 rfl (nI_1 s9) (by decide) rfl ?_
              refine V_goto (tgt := 24) C d_Mo_copySections_100 (by decide) ?_
              refine V_pick [0, 2] rfl ?_
              refine V_io (show _ = setL ι (cpS ι L1 s9) by unfold cpS; rw [if_neg hr]) ?_
              exact hnx
  have fl9 : ∀ (f : Nat) (i : Nat), 4096 - i < f → (i ≤ 4096) → V p l e { frames := 0, cells := 0, slots := 0, locals := 0 } s m args below meth c D B α0 ν 3 Q 0 0 ν (setL ι (flL L 73 i 0)) ρ ℓ 2 [(1, sI (nI i)), (0, sR 10 0 0)] [] := by
    intro f
    induction f with
    | zero => intros; omega
    | succ f ih =>
      intro i hf hi0
      refine V_iload_n C d_Mo_copySections_2 rfl ?_
      refine V_sipush (v := 4096) C d_Mo_copySections_3 (by decide) ?_
      refine V_icmp_ge (tgt := 22) C d_Mo_copySections_6 (by decide) (fun h6 => ?_) (fun h6 => ?_)
      · have hi : i = 4096 := by have := (nI_leI (a := 4096) (b := i) (by decide) (by omega)).mp h6; omega
        subst hi
        refine V_iconst (v := 0) C d_Mo_copySections_22 (by decide) ?_
        refine V_istore_n (lv' := [(1, _), (0, _)]) C d_Mo_copySections_23 (by decide) rfl ?_
        refine V_pick [0, 1] rfl ?_
        exact secs 97 0 _ (by omega) (by omega) rfl
      · have hi : i < 4096 := Nat.lt_of_not_le fun z => h6 ((nI_leI (a := 4096) (b := i) (by decide) (by omega)).mpr z)
        refine V_aload_n C d_Mo_copySections_9 rfl ?_
        refine V_getR (kx := 33) C d_Mo_copySections_10 cf_Mo (by decide) k_Mo_81 hM.al rfl hM.r33 ?_
        refine V_iload_n C d_Mo_copySections_13 rfl ?_
        refine V_iconst (v := 0) C d_Mo_copySections_14 (by decide) ?_
        refine V_iast C d_Mo_copySections_15 (by decide) rfl hM.n33 rfl hi rfl ?_
        refine V_iinc (v := nI (i + 1)) (lv' := [(1, _), (0, _)]) C d_Mo_copySections_16 rfl (nI_1 i) (by decide) rfl ?_
        refine V_goto (tgt := 2) C d_Mo_copySections_19 (by decide) ?_
        refine V_pick [0, 1] rfl ?_
        refine V_io (show up4 (setL ι (flL L 73 i 0)) 73 0 0 i 0 = setL ι (flL L 73 (i + 1) 0) by rw [setL_up rfl, flL_s]) ?_
        exact ih (i + 1) (by omega) (by omega)
  refine V_iconst (v := 0) C d_Mo_copySections_0 (by decide) ?_
  refine V_istore_n (lv' := [(1, _), (0, _)]) C d_Mo_copySections_1 (by decide) rfl ?_
  refine V_pick [0, 1] rfl ?_
  refine V_io (congrArg (setL ι) (flL_0 (L := L) (r := 73) (x := 0)).symm) ?_
  exact fl9 4097 0 (by omega) (by omega)
set_option maxHeartbeats 1000000 in
set_option maxRecDepth 10000 in
theorem k_workIn0 {ν : Nu} {ι : Io} {ρ : Ro} {ℓ : Lo} (hM : MoS ν ρ) {c9 : Nat} (K : LK ι c9) {L : Ls} {t j : Nat} (ht : t < 12) (hj : j < 16) (hw9 : mn ι 55 (16 * t + j) = 0) (hp : mn ι 54 (16 * t + j) + 4 ≤ mn ι 45 (slR ι (16 * t + j)) → ∃ a, pR ι L (16 * t + j) - L 10 20 = nI a ∧ a + 4 ≤ 4096) : Ct y_Mo_workIn (Cond.code y_Mo_workIn b_Mo_workIn 12 none :: tb_) { frames := 3, cells := 0, slots := 0, locals := 70 } [sR 10 0 0, sI (nI t), sI (nI j)] ν (setL ι L) ρ ℓ (pEq none ν (setL ι (wkS ι c9 L (16 * t + j))) ρ ℓ) (noX) := by
  refine Ct.ofV (by decide) (Nat.le_of_ble_eq_true rfl) rfl ?_
  intro p l e s m args below meth c D B tW α0 Q C hQ
  have hsl : slR ι (16 * t + j) = 8 * t + mn ι 53 (16 * t + j) := by unfold slR; rw [show (16 * t + j) / 16 = t by omega]
  have h53 := K.b53.le (t := 16 * t + j) (by omega)
  have h54 := K.b54.le (t := 16 * t + j) (by omega)
  have hway : ι 55 0 0 (16 * t + j) = 0 := (K.b55.eq (t := 16 * t + j) (by omega)).trans (by rw [hw9]; rfl)
  have h45 := K.b45.le (t := slR ι (16 * t + j)) (by omega)
  refine V_bipush (v := 16) C d_Mo_workIn_0 (by decide) ?_
  refine V_iload_n C d_Mo_workIn_2 rfl ?_
  refine V_imul C d_Mo_workIn_3 ?_
  refine V_iload_n C d_Mo_workIn_4 rfl ?_
  refine V_iadd C d_Mo_workIn_5 ?_
  refine V_eqi (y := nI (16 * t + j)) (ixa 16 t j) ?_
  refine V_istore_n (lv' := [(3, _), (0, _), (1, _), (2, _)]) C d_Mo_workIn_6 (by decide) rfl ?_
  refine V_bipush (v := 8) C d_Mo_workIn_7 (by decide) ?_
  refine V_iload_n C d_Mo_workIn_9 rfl ?_
  refine V_imul C d_Mo_workIn_10 ?_
  refine V_aload_n C d_Mo_workIn_11 rfl ?_
  refine V_getR (kx := 13) C d_Mo_workIn_12 cf_Mo (by decide) k_Mo_43 hM.al rfl hM.r13 ?_
  refine V_iload_n C d_Mo_workIn_15 rfl ?_
  refine V_iald C d_Mo_workIn_16 (by decide) rfl hM.n13 rfl (by omega) rfl ?_
  refine V_eqi (y := nI (mn ι 53 (16 * t + j))) (K.b53.eq (t := 16 * t + j) (by omega)) ?_
  refine V_iadd C d_Mo_workIn_17 ?_
  refine V_eqi (y := nI (slR ι (16 * t + j))) (by rw [hsl]; exact ixa 8 t _) ?_
  refine V_istore (lv' := [(4, _), (3, _), (0, _), (1, _), (2, _)]) C d_Mo_workIn_18 (by decide) rfl ?_
  refine V_aload_n C d_Mo_workIn_20 rfl ?_
  refine V_getR (kx := 15) C d_Mo_workIn_21 cf_Mo (by decide) k_Mo_49 hM.al rfl hM.r15 ?_
  refine V_iload_n C d_Mo_workIn_24 rfl ?_
  refine V_iald C d_Mo_workIn_25 (by decide) rfl hM.n15 rfl (by omega) rfl ?_
  refine V_eqi (y := 0) hway ?_
  refine V_istore (lv' := [(5, _), (4, _), (3, _), (0, _), (1, _), (2, _)]) C d_Mo_workIn_26 (by decide) rfl ?_
  refine V_iload C d_Mo_workIn_28 rfl ?_
  refine V_if_ne (tgt := 37) C d_Mo_workIn_30 (by decide) (fun h30 => absurd rfl h30) (fun h30 => ?_)
  refine V_iconst (v := 4) C d_Mo_workIn_33 (by decide) ?_
  refine V_goto (tgt := 48) C d_Mo_workIn_34 (by decide) ?_
  refine V_istore (lv' := [(6, _), (5, _), (4, _), (3, _), (0, _), (1, _), (2, _)]) C d_Mo_workIn_48 (by decide) rfl ?_
  refine V_aload_n C d_Mo_workIn_50 rfl ?_
  refine V_getR (kx := 14) C d_Mo_workIn_51 cf_Mo (by decide) k_Mo_46 hM.al rfl hM.r14 ?_
  refine V_iload_n C d_Mo_workIn_54 rfl ?_
  refine V_iald C d_Mo_workIn_55 (by decide) rfl hM.n14 rfl (by omega) rfl ?_
  refine V_iload C d_Mo_workIn_56 rfl ?_
  refine V_iadd C d_Mo_workIn_58 ?_
  refine V_eqi (y := nI (mn ι 54 (16 * t + j) + 4)) (by rw [show (setL ι L 54 0 0 (16 * t + j) : Int32) = ι 54 0 0 (16 * t + j) from rfl, K.b54.eq (t := 16 * t + j) (by omega)]; exact nI_add _ 4) ?_
  refine V_aload_n C d_Mo_workIn_59 rfl ?_
  refine V_getR (kx := 5) C d_Mo_workIn_60 cf_Mo (by decide) k_Mo_19 hM.al rfl hM.r5 ?_
  refine V_iload C d_Mo_workIn_63 rfl ?_
  refine V_iald C d_Mo_workIn_65 (by decide) rfl hM.n5 rfl (show slR ι (16 * t + j) < 104 by omega) rfl ?_
  refine V_eqi (y := nI (mn ι 45 (slR ι (16 * t + j)))) (K.b45.eq (t := slR ι (16 * t + j)) (by omega)) ?_
  refine V_icmp_le (tgt := 77) C d_Mo_workIn_66 (by decide) (fun h66 => ?_) (fun h66 => ?_)
  · have hin := (nI_leI (by omega) (by omega)).mp h66
    have hst : wkS ι c9 L (16 * t + j) = _ := if_neg (by rw [hw9]; exact Nat.not_lt.mpr hin)
    rw [hw9] at hst
    obtain ⟨a9, ha, ha2⟩ := hp hin
    refine V_aload_n C d_Mo_workIn_77 rfl ?_
    refine V_getR (kx := 24) C d_Mo_workIn_78 cf_Mo (by decide) k_Mo_71 hM.al rfl hM.r24 ?_
    refine V_iload C d_Mo_workIn_81 rfl ?_
    refine V_iald C d_Mo_workIn_83 (by decide) rfl hM.n24 rfl (show slR ι (16 * t + j) < 96 by omega) rfl ?_
    refine V_aload_n C d_Mo_workIn_84 rfl ?_
    refine V_getR (kx := 14) C d_Mo_workIn_85 cf_Mo (by decide) k_Mo_46 hM.al rfl hM.r14 ?_
    refine V_iload_n C d_Mo_workIn_88 rfl ?_
    refine V_iald C d_Mo_workIn_89 (by decide) rfl hM.n14 rfl (by omega) rfl ?_
    refine V_iadd C d_Mo_workIn_90 ?_
    refine V_eqi (y := pR ι L (16 * t + j)) rfl ?_
    refine V_istore (lv' := [(7, _), (6, _), (5, _), (4, _), (3, _), (0, _), (1, _), (2, _)]) C d_Mo_workIn_91 (by decide) rfl ?_
    refine V_aload_n C d_Mo_workIn_93 rfl ?_
    refine V_aload_n C d_Mo_workIn_94 rfl ?_
    refine V_iload_n C d_Mo_workIn_95 rfl ?_
    refine V_iload_n C d_Mo_workIn_96 rfl ?_
    refine V_callV (as := [_, _]) C d_Mo_workIn_97 (k_meaningOf hM K (t := t) (j := j) ht hj) m_Mo_meaningOf cf_Mo k_Mo_167 hM.al ⟨by decide, by decide⟩ (Nat.le_of_ble_eq_true rfl) ⟨by decide, by decide⟩ rfl ?_
    rintro _ _ _ _ _ ⟨rfl, rfl, rfl, rfl, rfl⟩
    dsimp only [Option.toList, List.cons_append, List.nil_append]
    refine V_callV (as := [_]) C d_Mo_workIn_100 (k_placeOfMeaning hM K (by rcases K.me (nuR ι (16 * t + j)) with h | ⟨i9, h1, -, h2, -⟩; exact Or.inl h; exact Or.inr ⟨i9, h1, h2⟩)) m_Mo_placeOfMeaning cf_Mo k_Mo_197 hM.al ⟨by decide, by decide⟩ (Nat.le_of_ble_eq_true rfl) ⟨by decide, by decide⟩ rfl ?_
    rintro _ _ _ _ _ ⟨rfl, rfl, rfl, rfl, rfl⟩
    dsimp only [Option.toList, List.cons_append, List.nil_append]
    refine V_i2l C d_Mo_workIn_103 ?_
    refine V_aload_n C d_Mo_workIn_104 rfl ?_
    refine V_getR (kx := 17) C d_Mo_workIn_105 cf_Mo (by decide) k_Mo_55 hM.al rfl hM.r17 ?_
    refine V_iload_n C d_Mo_workIn_108 rfl ?_
    refine V_iald C d_Mo_workIn_109 (by decide) rfl hM.n17 rfl (by omega) rfl ?_
    refine V_i2l C d_Mo_workIn_110 ?_
    refine V_ladd C d_Mo_workIn_111 ?_
    refine V_eql (y := sm ι c9 L (16 * t + j)) rfl ?_
    refine V_lstore (lv' := [(8, _), (7, _), (6, _), (5, _), (4, _), (3, _), (0, _), (1, _), (2, _)]) C d_Mo_workIn_112 (by decide) rfl ?_
    refine V_lload C d_Mo_workIn_114 rfl ?_
    refine V_iload C d_Mo_workIn_116 rfl ?_
    refine V_i2l C d_Mo_workIn_118 ?_
    refine V_lsub C d_Mo_workIn_119 ?_
    refine V_eql (y := ap ι c9 L (16 * t + j)) rfl ?_
    refine V_lstore (lv' := [(10, _), (8, _), (7, _), (6, _), (5, _), (4, _), (3, _), (0, _), (1, _), (2, _)]) C d_Mo_workIn_120 (by decide) rfl ?_
    refine V_iload C d_Mo_workIn_122 rfl ?_
    refine V_if_ne (tgt := 136) C d_Mo_workIn_124 (by decide) (fun h124 => absurd rfl h124) (fun h124 => ?_)
    refine V_aload_n C d_Mo_workIn_127 rfl ?_
    refine V_iload C d_Mo_workIn_128 rfl ?_
    refine V_lload C d_Mo_workIn_130 rfl ?_
    refine V_iconst (v := 4) C d_Mo_workIn_132 (by decide) ?_
    refine V_callV (as := [_, _, _]) C d_Mo_workIn_133 (k_put hM K (w := 4) ⟨a9, by first | exact ha | (rw [tlL_20]; exact ha), ha2⟩) m_Mo_put cf_Mo k_Mo_200 hM.al ⟨by decide, by decide⟩ (Nat.le_of_ble_eq_true rfl) ⟨by decide, by decide⟩ rfl ?_
    rintro _ _ _ _ _ ⟨rfl, rfl, rfl, rfl, rfl⟩
    dsimp only [Option.toList, List.cons_append, List.nil_append]
    refine V_iload C d_Mo_workIn_136 rfl ?_
    refine V_iconst (v := 4) C d_Mo_workIn_138 (by decide) ?_
    refine V_icmp_ne (tgt := 158) C d_Mo_workIn_139 (by decide) (fun h139 => ?_) (fun h139 => absurd h139 (by decide))
    refine V_iload C d_Mo_workIn_158 rfl ?_
    refine V_iconst (v := 1) C d_Mo_workIn_160 (by decide) ?_
    refine V_icmp_ne (tgt := 176) C d_Mo_workIn_161 (by decide) (fun h161 => ?_) (fun h161 => absurd h161 (by decide))
    refine V_iload C d_Mo_workIn_176 rfl ?_
    refine V_iconst (v := 2) C d_Mo_workIn_178 (by decide) ?_
    refine V_icmp_ne (tgt := 203) C d_Mo_workIn_179 (by decide) (fun h179 => ?_) (fun h179 => absurd h179 (by decide))
    refine V_iload C d_Mo_workIn_203 rfl ?_
    refine V_iconst (v := 1) C d_Mo_workIn_205 (by decide) ?_
    refine V_icmp_ne (tgt := 218) C d_Mo_workIn_206 (by decide) (fun h206 => ?_) (fun h206 => absurd h206 (by decide))
    refine V_iload C d_Mo_workIn_218 rfl ?_
    refine V_iconst (v := 2) C d_Mo_workIn_220 (by decide) ?_
    refine V_icmp_ne (tgt := 233) C d_Mo_workIn_221 (by decide) (fun h221 => ?_) (fun h221 => absurd h221 (by decide))
    refine V_iload C d_Mo_workIn_233 rfl ?_
    refine V_iconst (v := 3) C d_Mo_workIn_235 (by decide) ?_
    refine V_icmp_ne (tgt := 294) C d_Mo_workIn_236 (by decide) (fun h236 => ?_) (fun h236 => absurd h236 (by decide))
    refine V_vret C hQ (by decide) (by decide) d_Mo_workIn_294 rfl ?_
    refine ⟨rfl, rfl, congrArg (setL ι) (hst.trans ?_), rfl, rfl⟩
    rw [show fltV 0 (sm ι c9 L (16 * t + j)) (ap ι c9 L (16 * t + j)) = 0 from rfl]
    rw [show (16 * t + j) / 16 = t by omega, show (16 * t + j) % 16 = j by omega]
    rfl
  · have hin : ¬ _ := fun z => h66 ((nI_leI (by omega) (by omega)).mpr z)
    have hst : wkS ι c9 L (16 * t + j) = _ := if_pos (by rw [hw9]; exact Nat.lt_of_not_le hin)
    rw [show (16 * t + j) / 16 = t by omega, show (16 * t + j) % 16 = j by omega] at hst
    refine V_aload_n C d_Mo_workIn_69 rfl ?_
    refine V_iconst (v := 3) C d_Mo_workIn_70 (by decide) ?_
    refine V_iload_n C d_Mo_workIn_71 rfl ?_
    refine V_iload_n C d_Mo_workIn_72 rfl ?_
    refine V_callV (as := [_, _, _]) C d_Mo_workIn_73 (k_tell hM K) m_Mo_tell cf_Mo k_Mo_157 hM.al ⟨by decide, by decide⟩ (Nat.le_of_ble_eq_true rfl) ⟨by decide, by decide⟩ rfl ?_
    rintro _ _ _ _ _ ⟨rfl, rfl, rfl, rfl, rfl⟩
    dsimp only [Option.toList, List.cons_append, List.nil_append]
    refine V_vret C hQ (by decide) (by decide) d_Mo_workIn_76 rfl ?_
    exact ⟨rfl, rfl, congrArg (setL ι) hst, rfl, rfl⟩
set_option maxHeartbeats 1000000 in
set_option maxRecDepth 10000 in
theorem k_workIn1 {ν : Nu} {ι : Io} {ρ : Ro} {ℓ : Lo} (hM : MoS ν ρ) {c9 : Nat} (K : LK ι c9) {L : Ls} {t j : Nat} (ht : t < 12) (hj : j < 16) (hw9 : mn ι 55 (16 * t + j) = 1) (hp : mn ι 54 (16 * t + j) + 2 ≤ mn ι 45 (slR ι (16 * t + j)) → ∃ a, pR ι L (16 * t + j) - L 10 20 = nI a ∧ a + 2 ≤ 4096) : Ct y_Mo_workIn (Cond.code y_Mo_workIn b_Mo_workIn 12 none :: tb_) { frames := 3, cells := 0, slots := 0, locals := 70 } [sR 10 0 0, sI (nI t), sI (nI j)] ν (setL ι L) ρ ℓ (pEq none ν (setL ι (wkS ι c9 L (16 * t + j))) ρ ℓ) (noX) := by
  refine Ct.ofV (by decide) (Nat.le_of_ble_eq_true rfl) rfl ?_
  intro p l e s m args below meth c D B tW α0 Q C hQ
  have hsl : slR ι (16 * t + j) = 8 * t + mn ι 53 (16 * t + j) := by unfold slR; rw [show (16 * t + j) / 16 = t by omega]
  have h53 := K.b53.le (t := 16 * t + j) (by omega)
  have h54 := K.b54.le (t := 16 * t + j) (by omega)
  have hway : ι 55 0 0 (16 * t + j) = 1 := (K.b55.eq (t := 16 * t + j) (by omega)).trans (by rw [hw9]; rfl)
  have h45 := K.b45.le (t := slR ι (16 * t + j)) (by omega)
  refine V_bipush (v := 16) C d_Mo_workIn_0 (by decide) ?_
  refine V_iload_n C d_Mo_workIn_2 rfl ?_
  refine V_imul C d_Mo_workIn_3 ?_
  refine V_iload_n C d_Mo_workIn_4 rfl ?_
  refine V_iadd C d_Mo_workIn_5 ?_
  refine V_eqi (y := nI (16 * t + j)) (ixa 16 t j) ?_
  refine V_istore_n (lv' := [(3, _), (0, _), (1, _), (2, _)]) C d_Mo_workIn_6 (by decide) rfl ?_
  refine V_bipush (v := 8) C d_Mo_workIn_7 (by decide) ?_
  refine V_iload_n C d_Mo_workIn_9 rfl ?_
  refine V_imul C d_Mo_workIn_10 ?_
  refine V_aload_n C d_Mo_workIn_11 rfl ?_
  refine V_getR (kx := 13) C d_Mo_workIn_12 cf_Mo (by decide) k_Mo_43 hM.al rfl hM.r13 ?_
  refine V_iload_n C d_Mo_workIn_15 rfl ?_
  refine V_iald C d_Mo_workIn_16 (by decide) rfl hM.n13 rfl (by omega) rfl ?_
  refine V_eqi (y := nI (mn ι 53 (16 * t + j))) (K.b53.eq (t := 16 * t + j) (by omega)) ?_
  refine V_iadd C d_Mo_workIn_17 ?_
  refine V_eqi (y := nI (slR ι (16 * t + j))) (by rw [hsl]; exact ixa 8 t _) ?_
  refine V_istore (lv' := [(4, _), (3, _), (0, _), (1, _), (2, _)]) C d_Mo_workIn_18 (by decide) rfl ?_
  refine V_aload_n C d_Mo_workIn_20 rfl ?_
  refine V_getR (kx := 15) C d_Mo_workIn_21 cf_Mo (by decide) k_Mo_49 hM.al rfl hM.r15 ?_
  refine V_iload_n C d_Mo_workIn_24 rfl ?_
  refine V_iald C d_Mo_workIn_25 (by decide) rfl hM.n15 rfl (by omega) rfl ?_
  refine V_eqi (y := 1) hway ?_
  refine V_istore (lv' := [(5, _), (4, _), (3, _), (0, _), (1, _), (2, _)]) C d_Mo_workIn_26 (by decide) rfl ?_
  refine V_iload C d_Mo_workIn_28 rfl ?_
  refine V_if_ne (tgt := 37) C d_Mo_workIn_30 (by decide) (fun h30 => ?_) (fun h30 => absurd h30 (by decide))
  refine V_iload C d_Mo_workIn_37 rfl ?_
  refine V_iconst (v := 3) C d_Mo_workIn_39 (by decide) ?_
  refine V_icmp_ne (tgt := 47) C d_Mo_workIn_40 (by decide) (fun h40 => ?_) (fun h40 => absurd h40 (by decide))
  refine V_iconst (v := 2) C d_Mo_workIn_47 (by decide) ?_
  refine V_istore (lv' := [(6, _), (5, _), (4, _), (3, _), (0, _), (1, _), (2, _)]) C d_Mo_workIn_48 (by decide) rfl ?_
  refine V_aload_n C d_Mo_workIn_50 rfl ?_
  refine V_getR (kx := 14) C d_Mo_workIn_51 cf_Mo (by decide) k_Mo_46 hM.al rfl hM.r14 ?_
  refine V_iload_n C d_Mo_workIn_54 rfl ?_
  refine V_iald C d_Mo_workIn_55 (by decide) rfl hM.n14 rfl (by omega) rfl ?_
  refine V_iload C d_Mo_workIn_56 rfl ?_
  refine V_iadd C d_Mo_workIn_58 ?_
  refine V_eqi (y := nI (mn ι 54 (16 * t + j) + 2)) (by rw [show (setL ι L 54 0 0 (16 * t + j) : Int32) = ι 54 0 0 (16 * t + j) from rfl, K.b54.eq (t := 16 * t + j) (by omega)]; exact nI_add _ 2) ?_
  refine V_aload_n C d_Mo_workIn_59 rfl ?_
  refine V_getR (kx := 5) C d_Mo_workIn_60 cf_Mo (by decide) k_Mo_19 hM.al rfl hM.r5 ?_
  refine V_iload C d_Mo_workIn_63 rfl ?_
  refine V_iald C d_Mo_workIn_65 (by decide) rfl hM.n5 rfl (show slR ι (16 * t + j) < 104 by omega) rfl ?_
  refine V_eqi (y := nI (mn ι 45 (slR ι (16 * t + j)))) (K.b45.eq (t := slR ι (16 * t + j)) (by omega)) ?_
  refine V_icmp_le (tgt := 77) C d_Mo_workIn_66 (by decide) (fun h66 => ?_) (fun h66 => ?_)
  · have hin := (nI_leI (by omega) (by omega)).mp h66
    have hst : wkS ι c9 L (16 * t + j) = _ := if_neg (by rw [hw9]; exact Nat.not_lt.mpr hin)
    rw [hw9] at hst
    obtain ⟨a9, ha, ha2⟩ := hp hin
    refine V_aload_n C d_Mo_workIn_77 rfl ?_
    refine V_getR (kx := 24) C d_Mo_workIn_78 cf_Mo (by decide) k_Mo_71 hM.al rfl hM.r24 ?_
    refine V_iload C d_Mo_workIn_81 rfl ?_
    refine V_iald C d_Mo_workIn_83 (by decide) rfl hM.n24 rfl (show slR ι (16 * t + j) < 96 by omega) rfl ?_
    refine V_aload_n C d_Mo_workIn_84 rfl ?_
    refine V_getR (kx := 14) C d_Mo_workIn_85 cf_Mo (by decide) k_Mo_46 hM.al rfl hM.r14 ?_
    refine V_iload_n C d_Mo_workIn_88 rfl ?_
    refine V_iald C d_Mo_workIn_89 (by decide) rfl hM.n14 rfl (by omega) rfl ?_
    refine V_iadd C d_Mo_workIn_90 ?_
    refine V_eqi (y := pR ι L (16 * t + j)) rfl ?_
    refine V_istore (lv' := [(7, _), (6, _), (5, _), (4, _), (3, _), (0, _), (1, _), (2, _)]) C d_Mo_workIn_91 (by decide) rfl ?_
    refine V_aload_n C d_Mo_workIn_93 rfl ?_
    refine V_aload_n C d_Mo_workIn_94 rfl ?_
    refine V_iload_n C d_Mo_workIn_95 rfl ?_
    refine V_iload_n C d_Mo_workIn_96 rfl ?_
    refine V_callV (as := [_, _]) C d_Mo_workIn_97 (k_meaningOf hM K (t := t) (j := j) ht hj) m_Mo_meaningOf cf_Mo k_Mo_167 hM.al ⟨by decide, by decide⟩ (Nat.le_of_ble_eq_true rfl) ⟨by decide, by decide⟩ rfl ?_
    rintro _ _ _ _ _ ⟨rfl, rfl, rfl, rfl, rfl⟩
    dsimp only [Option.toList, List.cons_append, List.nil_append]
    refine V_callV (as := [_]) C d_Mo_workIn_100 (k_placeOfMeaning hM K (by rcases K.me (nuR ι (16 * t + j)) with h | ⟨i9, h1, -, h2, -⟩; exact Or.inl h; exact Or.inr ⟨i9, h1, h2⟩)) m_Mo_placeOfMeaning cf_Mo k_Mo_197 hM.al ⟨by decide, by decide⟩ (Nat.le_of_ble_eq_true rfl) ⟨by decide, by decide⟩ rfl ?_
    rintro _ _ _ _ _ ⟨rfl, rfl, rfl, rfl, rfl⟩
    dsimp only [Option.toList, List.cons_append, List.nil_append]
    refine V_i2l C d_Mo_workIn_103 ?_
    refine V_aload_n C d_Mo_workIn_104 rfl ?_
    refine V_getR (kx := 17) C d_Mo_workIn_105 cf_Mo (by decide) k_Mo_55 hM.al rfl hM.r17 ?_
    refine V_iload_n C d_Mo_workIn_108 rfl ?_
    refine V_iald C d_Mo_workIn_109 (by decide) rfl hM.n17 rfl (by omega) rfl ?_
    refine V_i2l C d_Mo_workIn_110 ?_
    refine V_ladd C d_Mo_workIn_111 ?_
    refine V_eql (y := sm ι c9 L (16 * t + j)) rfl ?_
    refine V_lstore (lv' := [(8, _), (7, _), (6, _), (5, _), (4, _), (3, _), (0, _), (1, _), (2, _)]) C d_Mo_workIn_112 (by decide) rfl ?_
    refine V_lload C d_Mo_workIn_114 rfl ?_
    refine V_iload C d_Mo_workIn_116 rfl ?_
    refine V_i2l C d_Mo_workIn_118 ?_
    refine V_lsub C d_Mo_workIn_119 ?_
    refine V_eql (y := ap ι c9 L (16 * t + j)) rfl ?_
    refine V_lstore (lv' := [(10, _), (8, _), (7, _), (6, _), (5, _), (4, _), (3, _), (0, _), (1, _), (2, _)]) C d_Mo_workIn_120 (by decide) rfl ?_
    refine V_iload C d_Mo_workIn_122 rfl ?_
    refine V_if_ne (tgt := 136) C d_Mo_workIn_124 (by decide) (fun h124 => ?_) (fun h124 => absurd h124 (by decide))
    refine V_iload C d_Mo_workIn_136 rfl ?_
    refine V_iconst (v := 4) C d_Mo_workIn_138 (by decide) ?_
    refine V_icmp_ne (tgt := 158) C d_Mo_workIn_139 (by decide) (fun h139 => ?_) (fun h139 => absurd h139 (by decide))
    refine V_iload C d_Mo_workIn_158 rfl ?_
    refine V_iconst (v := 1) C d_Mo_workIn_160 (by decide) ?_
    refine V_icmp_ne (tgt := 176) C d_Mo_workIn_161 (by decide) (fun h161 => absurd rfl h161) (fun h161 => ?_)
    refine V_lload C d_Mo_workIn_164 rfl ?_
    refine V_lconst (v := 0) C d_Mo_workIn_166 (by decide) ?_
    refine V_ldc2 C d_Mo_workIn_167 k_Mo_206 ?_
    refine V_callS (as := [_, _, _]) C d_Mo_workIn_170 c_Mo_in m_Mo_in k_Mo_208 ⟨by decide, by decide⟩ (Nat.le_of_ble_eq_true rfl) ⟨by decide, by decide⟩ rfl ?_
    rintro _ _ _ _ _ ⟨rfl, rfl, rfl, rfl, rfl⟩
    dsimp only [Option.toList, List.cons_append, List.nil_append]
    refine V_if_eq (tgt := 196) C d_Mo_workIn_173 (by decide) (fun h173 => ?_) (fun h173 => ?_)
    · have hfl : fltV 1 (sm ι c9 L (16 * t + j)) (ap ι c9 L (16 * t + j)) = 5 := by unfold fltV; rw [if_pos rfl, if_neg (b2_0.mp h173)]
      refine V_aload_n C d_Mo_workIn_196 rfl ?_
      refine V_iconst (v := 5) C d_Mo_workIn_197 (by decide) ?_
      refine V_iload_n C d_Mo_workIn_198 rfl ?_
      refine V_iload_n C d_Mo_workIn_199 rfl ?_
      refine V_callV (as := [_, _, _]) C d_Mo_workIn_200 (k_tell hM K) m_Mo_tell cf_Mo k_Mo_157 hM.al ⟨by decide, by decide⟩ (Nat.le_of_ble_eq_true rfl) ⟨by decide, by decide⟩ rfl ?_
      rintro _ _ _ _ _ ⟨rfl, rfl, rfl, rfl, rfl⟩
      dsimp only [Option.toList, List.cons_append, List.nil_append]
      refine V_iload C d_Mo_workIn_203 rfl ?_
      refine V_iconst (v := 1) C d_Mo_workIn_205 (by decide) ?_
      refine V_icmp_ne (tgt := 218) C d_Mo_workIn_206 (by decide) (fun h206 => absurd rfl h206) (fun h206 => ?_)
      refine V_aload_n C d_Mo_workIn_209 rfl ?_
      refine V_iload C d_Mo_workIn_210 rfl ?_
      refine V_lload C d_Mo_workIn_212 rfl ?_
      refine V_iconst (v := 2) C d_Mo_workIn_214 (by decide) ?_
      refine V_callV (as := [_, _, _]) C d_Mo_workIn_215 (k_put hM K (w := 2) ⟨a9, by first | exact ha | (rw [tlL_20]; exact ha), ha2⟩) m_Mo_put cf_Mo k_Mo_200 hM.al ⟨by decide, by decide⟩ (Nat.le_of_ble_eq_true rfl) ⟨by decide, by decide⟩ rfl ?_
      rintro _ _ _ _ _ ⟨rfl, rfl, rfl, rfl, rfl⟩
      dsimp only [Option.toList, List.cons_append, List.nil_append]
      refine V_iload C d_Mo_workIn_218 rfl ?_
      refine V_iconst (v := 2) C d_Mo_workIn_220 (by decide) ?_
      refine V_icmp_ne (tgt := 233) C d_Mo_workIn_221 (by decide) (fun h221 => ?_) (fun h221 => absurd h221 (by decide))
      refine V_iload C d_Mo_workIn_233 rfl ?_
      refine V_iconst (v := 3) C d_Mo_workIn_235 (by decide) ?_
      refine V_icmp_ne (tgt := 294) C d_Mo_workIn_236 (by decide) (fun h236 => ?_) (fun h236 => absurd h236 (by decide))
      refine V_vret C hQ (by decide) (by decide) d_Mo_workIn_294 rfl ?_
      refine ⟨rfl, rfl, congrArg (setL ι) (hst.trans ?_), rfl, rfl⟩
      rw [hfl]
      rw [show (16 * t + j) / 16 = t by omega, show (16 * t + j) % 16 = j by omega]
      rfl
    · have hfl : fltV 1 (sm ι c9 L (16 * t + j)) (ap ι c9 L (16 * t + j)) = 0 := by unfold fltV; rw [if_pos rfl, if_pos (b2_n0.mp h173)]
      refine V_iload C d_Mo_workIn_176 rfl ?_
      refine V_iconst (v := 2) C d_Mo_workIn_178 (by decide) ?_
      refine V_icmp_ne (tgt := 203) C d_Mo_workIn_179 (by decide) (fun h179 => ?_) (fun h179 => absurd h179 (by decide))
      refine V_iload C d_Mo_workIn_203 rfl ?_
      refine V_iconst (v := 1) C d_Mo_workIn_205 (by decide) ?_
      refine V_icmp_ne (tgt := 218) C d_Mo_workIn_206 (by decide) (fun h206 => absurd rfl h206) (fun h206 => ?_)
      refine V_aload_n C d_Mo_workIn_209 rfl ?_
      refine V_iload C d_Mo_workIn_210 rfl ?_
      refine V_lload C d_Mo_workIn_212 rfl ?_
      refine V_iconst (v := 2) C d_Mo_workIn_214 (by decide) ?_
      refine V_callV (as := [_, _, _]) C d_Mo_workIn_215 (k_put hM K (w := 2) ⟨a9, by first | exact ha | (rw [tlL_20]; exact ha), ha2⟩) m_Mo_put cf_Mo k_Mo_200 hM.al ⟨by decide, by decide⟩ (Nat.le_of_ble_eq_true rfl) ⟨by decide, by decide⟩ rfl ?_
      rintro _ _ _ _ _ ⟨rfl, rfl, rfl, rfl, rfl⟩
      dsimp only [Option.toList, List.cons_append, List.nil_append]
      refine V_iload C d_Mo_workIn_218 rfl ?_
      refine V_iconst (v := 2) C d_Mo_workIn_220 (by decide) ?_
      refine V_icmp_ne (tgt := 233) C d_Mo_workIn_221 (by decide) (fun h221 => ?_) (fun h221 => absurd h221 (by decide))
      refine V_iload C d_Mo_workIn_233 rfl ?_
      refine V_iconst (v := 3) C d_Mo_workIn_235 (by decide) ?_
      refine V_icmp_ne (tgt := 294) C d_Mo_workIn_236 (by decide) (fun h236 => ?_) (fun h236 => absurd h236 (by decide))
      refine V_vret C hQ (by decide) (by decide) d_Mo_workIn_294 rfl ?_
      refine ⟨rfl, rfl, congrArg (setL ι) (hst.trans ?_), rfl, rfl⟩
      rw [hfl]
      rw [show (16 * t + j) / 16 = t by omega, show (16 * t + j) % 16 = j by omega]
      rfl
  · have hin : ¬ _ := fun z => h66 ((nI_leI (by omega) (by omega)).mpr z)
    have hst : wkS ι c9 L (16 * t + j) = _ := if_pos (by rw [hw9]; exact Nat.lt_of_not_le hin)
    rw [show (16 * t + j) / 16 = t by omega, show (16 * t + j) % 16 = j by omega] at hst
    refine V_aload_n C d_Mo_workIn_69 rfl ?_
    refine V_iconst (v := 3) C d_Mo_workIn_70 (by decide) ?_
    refine V_iload_n C d_Mo_workIn_71 rfl ?_
    refine V_iload_n C d_Mo_workIn_72 rfl ?_
    refine V_callV (as := [_, _, _]) C d_Mo_workIn_73 (k_tell hM K) m_Mo_tell cf_Mo k_Mo_157 hM.al ⟨by decide, by decide⟩ (Nat.le_of_ble_eq_true rfl) ⟨by decide, by decide⟩ rfl ?_
    rintro _ _ _ _ _ ⟨rfl, rfl, rfl, rfl, rfl⟩
    dsimp only [Option.toList, List.cons_append, List.nil_append]
    refine V_vret C hQ (by decide) (by decide) d_Mo_workIn_76 rfl ?_
    exact ⟨rfl, rfl, congrArg (setL ι) hst, rfl, rfl⟩
set_option maxHeartbeats 1000000 in
set_option maxRecDepth 10000 in
theorem k_workIn2 {ν : Nu} {ι : Io} {ρ : Ro} {ℓ : Lo} (hM : MoS ν ρ) {c9 : Nat} (K : LK ι c9) {L : Ls} {t j : Nat} (ht : t < 12) (hj : j < 16) (hw9 : mn ι 55 (16 * t + j) = 2) (hp : mn ι 54 (16 * t + j) + 2 ≤ mn ι 45 (slR ι (16 * t + j)) → ∃ a, pR ι L (16 * t + j) - L 10 20 = nI a ∧ a + 2 ≤ 4096) : Ct y_Mo_workIn (Cond.code y_Mo_workIn b_Mo_workIn 12 none :: tb_) { frames := 3, cells := 0, slots := 0, locals := 70 } [sR 10 0 0, sI (nI t), sI (nI j)] ν (setL ι L) ρ ℓ (pEq none ν (setL ι (wkS ι c9 L (16 * t + j))) ρ ℓ) (noX) := by
  refine Ct.ofV (by decide) (Nat.le_of_ble_eq_true rfl) rfl ?_
  intro p l e s m args below meth c D B tW α0 Q C hQ
  have hsl : slR ι (16 * t + j) = 8 * t + mn ι 53 (16 * t + j) := by unfold slR; rw [show (16 * t + j) / 16 = t by omega]
  have h53 := K.b53.le (t := 16 * t + j) (by omega)
  have h54 := K.b54.le (t := 16 * t + j) (by omega)
  have hway : ι 55 0 0 (16 * t + j) = 2 := (K.b55.eq (t := 16 * t + j) (by omega)).trans (by rw [hw9]; rfl)
  have h45 := K.b45.le (t := slR ι (16 * t + j)) (by omega)
  refine V_bipush (v := 16) C d_Mo_workIn_0 (by decide) ?_
  refine V_iload_n C d_Mo_workIn_2 rfl ?_
  refine V_imul C d_Mo_workIn_3 ?_
  refine V_iload_n C d_Mo_workIn_4 rfl ?_
  refine V_iadd C d_Mo_workIn_5 ?_
  refine V_eqi (y := nI (16 * t + j)) (ixa 16 t j) ?_
  refine V_istore_n (lv' := [(3, _), (0, _), (1, _), (2, _)]) C d_Mo_workIn_6 (by decide) rfl ?_
  refine V_bipush (v := 8) C d_Mo_workIn_7 (by decide) ?_
  refine V_iload_n C d_Mo_workIn_9 rfl ?_
  refine V_imul C d_Mo_workIn_10 ?_
  refine V_aload_n C d_Mo_workIn_11 rfl ?_
  refine V_getR (kx := 13) C d_Mo_workIn_12 cf_Mo (by decide) k_Mo_43 hM.al rfl hM.r13 ?_
  refine V_iload_n C d_Mo_workIn_15 rfl ?_
  refine V_iald C d_Mo_workIn_16 (by decide) rfl hM.n13 rfl (by omega) rfl ?_
  refine V_eqi (y := nI (mn ι 53 (16 * t + j))) (K.b53.eq (t := 16 * t + j) (by omega)) ?_
  refine V_iadd C d_Mo_workIn_17 ?_
  refine V_eqi (y := nI (slR ι (16 * t + j))) (by rw [hsl]; exact ixa 8 t _) ?_
  refine V_istore (lv' := [(4, _), (3, _), (0, _), (1, _), (2, _)]) C d_Mo_workIn_18 (by decide) rfl ?_
  refine V_aload_n C d_Mo_workIn_20 rfl ?_
  refine V_getR (kx := 15) C d_Mo_workIn_21 cf_Mo (by decide) k_Mo_49 hM.al rfl hM.r15 ?_
  refine V_iload_n C d_Mo_workIn_24 rfl ?_
  refine V_iald C d_Mo_workIn_25 (by decide) rfl hM.n15 rfl (by omega) rfl ?_
  refine V_eqi (y := 2) hway ?_
  refine V_istore (lv' := [(5, _), (4, _), (3, _), (0, _), (1, _), (2, _)]) C d_Mo_workIn_26 (by decide) rfl ?_
  refine V_iload C d_Mo_workIn_28 rfl ?_
  refine V_if_ne (tgt := 37) C d_Mo_workIn_30 (by decide) (fun h30 => ?_) (fun h30 => absurd h30 (by decide))
  refine V_iload C d_Mo_workIn_37 rfl ?_
  refine V_iconst (v := 3) C d_Mo_workIn_39 (by decide) ?_
  refine V_icmp_ne (tgt := 47) C d_Mo_workIn_40 (by decide) (fun h40 => ?_) (fun h40 => absurd h40 (by decide))
  refine V_iconst (v := 2) C d_Mo_workIn_47 (by decide) ?_
  refine V_istore (lv' := [(6, _), (5, _), (4, _), (3, _), (0, _), (1, _), (2, _)]) C d_Mo_workIn_48 (by decide) rfl ?_
  refine V_aload_n C d_Mo_workIn_50 rfl ?_
  refine V_getR (kx := 14) C d_Mo_workIn_51 cf_Mo (by decide) k_Mo_46 hM.al rfl hM.r14 ?_
  refine V_iload_n C d_Mo_workIn_54 rfl ?_
  refine V_iald C d_Mo_workIn_55 (by decide) rfl hM.n14 rfl (by omega) rfl ?_
  refine V_iload C d_Mo_workIn_56 rfl ?_
  refine V_iadd C d_Mo_workIn_58 ?_
  refine V_eqi (y := nI (mn ι 54 (16 * t + j) + 2)) (by rw [show (setL ι L 54 0 0 (16 * t + j) : Int32) = ι 54 0 0 (16 * t + j) from rfl, K.b54.eq (t := 16 * t + j) (by omega)]; exact nI_add _ 2) ?_
  refine V_aload_n C d_Mo_workIn_59 rfl ?_
  refine V_getR (kx := 5) C d_Mo_workIn_60 cf_Mo (by decide) k_Mo_19 hM.al rfl hM.r5 ?_
  refine V_iload C d_Mo_workIn_63 rfl ?_
  refine V_iald C d_Mo_workIn_65 (by decide) rfl hM.n5 rfl (show slR ι (16 * t + j) < 104 by omega) rfl ?_
  refine V_eqi (y := nI (mn ι 45 (slR ι (16 * t + j)))) (K.b45.eq (t := slR ι (16 * t + j)) (by omega)) ?_
  refine V_icmp_le (tgt := 77) C d_Mo_workIn_66 (by decide) (fun h66 => ?_) (fun h66 => ?_)
  · have hin := (nI_leI (by omega) (by omega)).mp h66
    have hst : wkS ι c9 L (16 * t + j) = _ := if_neg (by rw [hw9]; exact Nat.not_lt.mpr hin)
    rw [hw9] at hst
    obtain ⟨a9, ha, ha2⟩ := hp hin
    refine V_aload_n C d_Mo_workIn_77 rfl ?_
    refine V_getR (kx := 24) C d_Mo_workIn_78 cf_Mo (by decide) k_Mo_71 hM.al rfl hM.r24 ?_
    refine V_iload C d_Mo_workIn_81 rfl ?_
    refine V_iald C d_Mo_workIn_83 (by decide) rfl hM.n24 rfl (show slR ι (16 * t + j) < 96 by omega) rfl ?_
    refine V_aload_n C d_Mo_workIn_84 rfl ?_
    refine V_getR (kx := 14) C d_Mo_workIn_85 cf_Mo (by decide) k_Mo_46 hM.al rfl hM.r14 ?_
    refine V_iload_n C d_Mo_workIn_88 rfl ?_
    refine V_iald C d_Mo_workIn_89 (by decide) rfl hM.n14 rfl (by omega) rfl ?_
    refine V_iadd C d_Mo_workIn_90 ?_
    refine V_eqi (y := pR ι L (16 * t + j)) rfl ?_
    refine V_istore (lv' := [(7, _), (6, _), (5, _), (4, _), (3, _), (0, _), (1, _), (2, _)]) C d_Mo_workIn_91 (by decide) rfl ?_
    refine V_aload_n C d_Mo_workIn_93 rfl ?_
    refine V_aload_n C d_Mo_workIn_94 rfl ?_
    refine V_iload_n C d_Mo_workIn_95 rfl ?_
    refine V_iload_n C d_Mo_workIn_96 rfl ?_
    refine V_callV (as := [_, _]) C d_Mo_workIn_97 (k_meaningOf hM K (t := t) (j := j) ht hj) m_Mo_meaningOf cf_Mo k_Mo_167 hM.al ⟨by decide, by decide⟩ (Nat.le_of_ble_eq_true rfl) ⟨by decide, by decide⟩ rfl ?_
    rintro _ _ _ _ _ ⟨rfl, rfl, rfl, rfl, rfl⟩
    dsimp only [Option.toList, List.cons_append, List.nil_append]
    refine V_callV (as := [_]) C d_Mo_workIn_100 (k_placeOfMeaning hM K (by rcases K.me (nuR ι (16 * t + j)) with h | ⟨i9, h1, -, h2, -⟩; exact Or.inl h; exact Or.inr ⟨i9, h1, h2⟩)) m_Mo_placeOfMeaning cf_Mo k_Mo_197 hM.al ⟨by decide, by decide⟩ (Nat.le_of_ble_eq_true rfl) ⟨by decide, by decide⟩ rfl ?_
    rintro _ _ _ _ _ ⟨rfl, rfl, rfl, rfl, rfl⟩
    dsimp only [Option.toList, List.cons_append, List.nil_append]
    refine V_i2l C d_Mo_workIn_103 ?_
    refine V_aload_n C d_Mo_workIn_104 rfl ?_
    refine V_getR (kx := 17) C d_Mo_workIn_105 cf_Mo (by decide) k_Mo_55 hM.al rfl hM.r17 ?_
    refine V_iload_n C d_Mo_workIn_108 rfl ?_
    refine V_iald C d_Mo_workIn_109 (by decide) rfl hM.n17 rfl (by omega) rfl ?_
    refine V_i2l C d_Mo_workIn_110 ?_
    refine V_ladd C d_Mo_workIn_111 ?_
    refine V_eql (y := sm ι c9 L (16 * t + j)) rfl ?_
    refine V_lstore (lv' := [(8, _), (7, _), (6, _), (5, _), (4, _), (3, _), (0, _), (1, _), (2, _)]) C d_Mo_workIn_112 (by decide) rfl ?_
    refine V_lload C d_Mo_workIn_114 rfl ?_
    refine V_iload C d_Mo_workIn_116 rfl ?_
    refine V_i2l C d_Mo_workIn_118 ?_
    refine V_lsub C d_Mo_workIn_119 ?_
    refine V_eql (y := ap ι c9 L (16 * t + j)) rfl ?_
    refine V_lstore (lv' := [(10, _), (8, _), (7, _), (6, _), (5, _), (4, _), (3, _), (0, _), (1, _), (2, _)]) C d_Mo_workIn_120 (by decide) rfl ?_
    refine V_iload C d_Mo_workIn_122 rfl ?_
    refine V_if_ne (tgt := 136) C d_Mo_workIn_124 (by decide) (fun h124 => ?_) (fun h124 => absurd h124 (by decide))
    refine V_iload C d_Mo_workIn_136 rfl ?_
    refine V_iconst (v := 4) C d_Mo_workIn_138 (by decide) ?_
    refine V_icmp_ne (tgt := 158) C d_Mo_workIn_139 (by decide) (fun h139 => ?_) (fun h139 => absurd h139 (by decide))
    refine V_iload C d_Mo_workIn_158 rfl ?_
    refine V_iconst (v := 1) C d_Mo_workIn_160 (by decide) ?_
    refine V_icmp_ne (tgt := 176) C d_Mo_workIn_161 (by decide) (fun h161 => ?_) (fun h161 => absurd h161 (by decide))
    refine V_iload C d_Mo_workIn_176 rfl ?_
    refine V_iconst (v := 2) C d_Mo_workIn_178 (by decide) ?_
    refine V_icmp_ne (tgt := 203) C d_Mo_workIn_179 (by decide) (fun h179 => absurd rfl h179) (fun h179 => ?_)
    refine V_lload C d_Mo_workIn_182 rfl ?_
    refine V_ldc2 C d_Mo_workIn_184 k_Mo_212 ?_
    refine V_ldc2 C d_Mo_workIn_187 k_Mo_214 ?_
    refine V_callS (as := [_, _, _]) C d_Mo_workIn_190 c_Mo_in m_Mo_in k_Mo_208 ⟨by decide, by decide⟩ (Nat.le_of_ble_eq_true rfl) ⟨by decide, by decide⟩ rfl ?_
    rintro _ _ _ _ _ ⟨rfl, rfl, rfl, rfl, rfl⟩
    dsimp only [Option.toList, List.cons_append, List.nil_append]
    refine V_if_ne (tgt := 203) C d_Mo_workIn_193 (by decide) (fun h193 => ?_) (fun h193 => ?_)
    · have hfl : fltV 2 (sm ι c9 L (16 * t + j)) (ap ι c9 L (16 * t + j)) = 0 := by unfold fltV; rw [if_neg (by decide), if_pos rfl, if_pos (b2_n0.mp h193)]
      refine V_iload C d_Mo_workIn_203 rfl ?_
      refine V_iconst (v := 1) C d_Mo_workIn_205 (by decide) ?_
      refine V_icmp_ne (tgt := 218) C d_Mo_workIn_206 (by decide) (fun h206 => ?_) (fun h206 => absurd h206 (by decide))
      refine V_iload C d_Mo_workIn_218 rfl ?_
      refine V_iconst (v := 2) C d_Mo_workIn_220 (by decide) ?_
      refine V_icmp_ne (tgt := 233) C d_Mo_workIn_221 (by decide) (fun h221 => absurd rfl h221) (fun h221 => ?_)
      refine V_aload_n C d_Mo_workIn_224 rfl ?_
      refine V_iload C d_Mo_workIn_225 rfl ?_
      refine V_lload C d_Mo_workIn_227 rfl ?_
      refine V_iconst (v := 2) C d_Mo_workIn_229 (by decide) ?_
      refine V_callV (as := [_, _, _]) C d_Mo_workIn_230 (k_put hM K (w := 2) ⟨a9, by first | exact ha | (rw [tlL_20]; exact ha), ha2⟩) m_Mo_put cf_Mo k_Mo_200 hM.al ⟨by decide, by decide⟩ (Nat.le_of_ble_eq_true rfl) ⟨by decide, by decide⟩ rfl ?_
      rintro _ _ _ _ _ ⟨rfl, rfl, rfl, rfl, rfl⟩
      dsimp only [Option.toList, List.cons_append, List.nil_append]
      refine V_iload C d_Mo_workIn_233 rfl ?_
      refine V_iconst (v := 3) C d_Mo_workIn_235 (by decide) ?_
      refine V_icmp_ne (tgt := 294) C d_Mo_workIn_236 (by decide) (fun h236 => ?_) (fun h236 => absurd h236 (by decide))
      refine V_vret C hQ (by decide) (by decide) d_Mo_workIn_294 rfl ?_
      refine ⟨rfl, rfl, congrArg (setL ι) (hst.trans ?_), rfl, rfl⟩
      rw [hfl]
      rw [show (16 * t + j) / 16 = t by omega, show (16 * t + j) % 16 = j by omega]
      rfl
    · have hfl : fltV 2 (sm ι c9 L (16 * t + j)) (ap ι c9 L (16 * t + j)) = 5 := by unfold fltV; rw [if_neg (by decide), if_pos rfl, if_neg (b2_0.mp h193)]
      refine V_aload_n C d_Mo_workIn_196 rfl ?_
      refine V_iconst (v := 5) C d_Mo_workIn_197 (by decide) ?_
      refine V_iload_n C d_Mo_workIn_198 rfl ?_
      refine V_iload_n C d_Mo_workIn_199 rfl ?_
      refine V_callV (as := [_, _, _]) C d_Mo_workIn_200 (k_tell hM K) m_Mo_tell cf_Mo k_Mo_157 hM.al ⟨by decide, by decide⟩ (Nat.le_of_ble_eq_true rfl) ⟨by decide, by decide⟩ rfl ?_
      rintro _ _ _ _ _ ⟨rfl, rfl, rfl, rfl, rfl⟩
      dsimp only [Option.toList, List.cons_append, List.nil_append]
      refine V_iload C d_Mo_workIn_203 rfl ?_
      refine V_iconst (v := 1) C d_Mo_workIn_205 (by decide) ?_
      refine V_icmp_ne (tgt := 218) C d_Mo_workIn_206 (by decide) (fun h206 => ?_) (fun h206 => absurd h206 (by decide))
      refine V_iload C d_Mo_workIn_218 rfl ?_
      refine V_iconst (v := 2) C d_Mo_workIn_220 (by decide) ?_
      refine V_icmp_ne (tgt := 233) C d_Mo_workIn_221 (by decide) (fun h221 => absurd rfl h221) (fun h221 => ?_)
      refine V_aload_n C d_Mo_workIn_224 rfl ?_
      refine V_iload C d_Mo_workIn_225 rfl ?_
      refine V_lload C d_Mo_workIn_227 rfl ?_
      refine V_iconst (v := 2) C d_Mo_workIn_229 (by decide) ?_
      refine V_callV (as := [_, _, _]) C d_Mo_workIn_230 (k_put hM K (w := 2) ⟨a9, by first | exact ha | (rw [tlL_20]; exact ha), ha2⟩) m_Mo_put cf_Mo k_Mo_200 hM.al ⟨by decide, by decide⟩ (Nat.le_of_ble_eq_true rfl) ⟨by decide, by decide⟩ rfl ?_
      rintro _ _ _ _ _ ⟨rfl, rfl, rfl, rfl, rfl⟩
      dsimp only [Option.toList, List.cons_append, List.nil_append]
      refine V_iload C d_Mo_workIn_233 rfl ?_
      refine V_iconst (v := 3) C d_Mo_workIn_235 (by decide) ?_
      refine V_icmp_ne (tgt := 294) C d_Mo_workIn_236 (by decide) (fun h236 => ?_) (fun h236 => absurd h236 (by decide))
      refine V_vret C hQ (by decide) (by decide) d_Mo_workIn_294 rfl ?_
      refine ⟨rfl, rfl, congrArg (setL ι) (hst.trans ?_), rfl, rfl⟩
      rw [hfl]
      rw [show (16 * t + j) / 16 = t by omega, show (16 * t + j) % 16 = j by omega]
      rfl
  · have hin : ¬ _ := fun z => h66 ((nI_leI (by omega) (by omega)).mpr z)
    have hst : wkS ι c9 L (16 * t + j) = _ := if_pos (by rw [hw9]; exact Nat.lt_of_not_le hin)
    rw [show (16 * t + j) / 16 = t by omega, show (16 * t + j) % 16 = j by omega] at hst
    refine V_aload_n C d_Mo_workIn_69 rfl ?_
    refine V_iconst (v := 3) C d_Mo_workIn_70 (by decide) ?_
    refine V_iload_n C d_Mo_workIn_71 rfl ?_
    refine V_iload_n C d_Mo_workIn_72 rfl ?_
    refine V_callV (as := [_, _, _]) C d_Mo_workIn_73 (k_tell hM K) m_Mo_tell cf_Mo k_Mo_157 hM.al ⟨by decide, by decide⟩ (Nat.le_of_ble_eq_true rfl) ⟨by decide, by decide⟩ rfl ?_
    rintro _ _ _ _ _ ⟨rfl, rfl, rfl, rfl, rfl⟩
    dsimp only [Option.toList, List.cons_append, List.nil_append]
    refine V_vret C hQ (by decide) (by decide) d_Mo_workIn_76 rfl ?_
    exact ⟨rfl, rfl, congrArg (setL ι) hst, rfl, rfl⟩
set_option maxHeartbeats 1000000 in
set_option maxRecDepth 10000 in
theorem k_workIn3 {ν : Nu} {ι : Io} {ρ : Ro} {ℓ : Lo} (hM : MoS ν ρ) {c9 : Nat} (K : LK ι c9) {L : Ls} {t j : Nat} (ht : t < 12) (hj : j < 16) (hw9 : mn ι 55 (16 * t + j) = 3) (hp : mn ι 54 (16 * t + j) + 1 ≤ mn ι 45 (slR ι (16 * t + j)) → ∃ a, pR ι L (16 * t + j) - L 10 20 = nI a ∧ a + 1 ≤ 4096) : Ct y_Mo_workIn (Cond.code y_Mo_workIn b_Mo_workIn 12 none :: tb_) { frames := 3, cells := 0, slots := 0, locals := 70 } [sR 10 0 0, sI (nI t), sI (nI j)] ν (setL ι L) ρ ℓ (pEq none ν (setL ι (wkS ι c9 L (16 * t + j))) ρ ℓ) (noX) := by
  refine Ct.ofV (by decide) (Nat.le_of_ble_eq_true rfl) rfl ?_
  intro p l e s m args below meth c D B tW α0 Q C hQ
  have hsl : slR ι (16 * t + j) = 8 * t + mn ι 53 (16 * t + j) := by unfold slR; rw [show (16 * t + j) / 16 = t by omega]
  have h53 := K.b53.le (t := 16 * t + j) (by omega)
  have h54 := K.b54.le (t := 16 * t + j) (by omega)
  have hway : ι 55 0 0 (16 * t + j) = 3 := (K.b55.eq (t := 16 * t + j) (by omega)).trans (by rw [hw9]; rfl)
  have h45 := K.b45.le (t := slR ι (16 * t + j)) (by omega)
  refine V_bipush (v := 16) C d_Mo_workIn_0 (by decide) ?_
  refine V_iload_n C d_Mo_workIn_2 rfl ?_
  refine V_imul C d_Mo_workIn_3 ?_
  refine V_iload_n C d_Mo_workIn_4 rfl ?_
  refine V_iadd C d_Mo_workIn_5 ?_
  refine V_eqi (y := nI (16 * t + j)) (ixa 16 t j) ?_
  refine V_istore_n (lv' := [(3, _), (0, _), (1, _), (2, _)]) C d_Mo_workIn_6 (by decide) rfl ?_
  refine V_bipush (v := 8) C d_Mo_workIn_7 (by decide) ?_
  refine V_iload_n C d_Mo_workIn_9 rfl ?_
  refine V_imul C d_Mo_workIn_10 ?_
  refine V_aload_n C d_Mo_workIn_11 rfl ?_
  refine V_getR (kx := 13) C d_Mo_workIn_12 cf_Mo (by decide) k_Mo_43 hM.al rfl hM.r13 ?_
  refine V_iload_n C d_Mo_workIn_15 rfl ?_
  refine V_iald C d_Mo_workIn_16 (by decide) rfl hM.n13 rfl (by omega) rfl ?_
  refine V_eqi (y := nI (mn ι 53 (16 * t + j))) (K.b53.eq (t := 16 * t + j) (by omega)) ?_
  refine V_iadd C d_Mo_workIn_17 ?_
  refine V_eqi (y := nI (slR ι (16 * t + j))) (by rw [hsl]; exact ixa 8 t _) ?_
  refine V_istore (lv' := [(4, _), (3, _), (0, _), (1, _), (2, _)]) C d_Mo_workIn_18 (by decide) rfl ?_
  refine V_aload_n C d_Mo_workIn_20 rfl ?_
  refine V_getR (kx := 15) C d_Mo_workIn_21 cf_Mo (by decide) k_Mo_49 hM.al rfl hM.r15 ?_
  refine V_iload_n C d_Mo_workIn_24 rfl ?_
  refine V_iald C d_Mo_workIn_25 (by decide) rfl hM.n15 rfl (by omega) rfl ?_
  refine V_eqi (y := 3) hway ?_
  refine V_istore (lv' := [(5, _), (4, _), (3, _), (0, _), (1, _), (2, _)]) C d_Mo_workIn_26 (by decide) rfl ?_
  refine V_iload C d_Mo_workIn_28 rfl ?_
  refine V_if_ne (tgt := 37) C d_Mo_workIn_30 (by decide) (fun h30 => ?_) (fun h30 => absurd h30 (by decide))
  refine V_iload C d_Mo_workIn_37 rfl ?_
  refine V_iconst (v := 3) C d_Mo_workIn_39 (by decide) ?_
  refine V_icmp_ne (tgt := 47) C d_Mo_workIn_40 (by decide) (fun h40 => absurd rfl h40) (fun h40 => ?_)
  refine V_iconst (v := 1) C d_Mo_workIn_43 (by decide) ?_
  refine V_goto (tgt := 48) C d_Mo_workIn_44 (by decide) ?_
  refine V_istore (lv' := [(6, _), (5, _), (4, _), (3, _), (0, _), (1, _), (2, _)]) C d_Mo_workIn_48 (by decide) rfl ?_
  refine V_aload_n C d_Mo_workIn_50 rfl ?_
  refine V_getR (kx := 14) C d_Mo_workIn_51 cf_Mo (by decide) k_Mo_46 hM.al rfl hM.r14 ?_
  refine V_iload_n C d_Mo_workIn_54 rfl ?_
  refine V_iald C d_Mo_workIn_55 (by decide) rfl hM.n14 rfl (by omega) rfl ?_
  refine V_iload C d_Mo_workIn_56 rfl ?_
  refine V_iadd C d_Mo_workIn_58 ?_
  refine V_eqi (y := nI (mn ι 54 (16 * t + j) + 1)) (by rw [show (setL ι L 54 0 0 (16 * t + j) : Int32) = ι 54 0 0 (16 * t + j) from rfl, K.b54.eq (t := 16 * t + j) (by omega)]; exact nI_add _ 1) ?_
  refine V_aload_n C d_Mo_workIn_59 rfl ?_
  refine V_getR (kx := 5) C d_Mo_workIn_60 cf_Mo (by decide) k_Mo_19 hM.al rfl hM.r5 ?_
  refine V_iload C d_Mo_workIn_63 rfl ?_
  refine V_iald C d_Mo_workIn_65 (by decide) rfl hM.n5 rfl (show slR ι (16 * t + j) < 104 by omega) rfl ?_
  refine V_eqi (y := nI (mn ι 45 (slR ι (16 * t + j)))) (K.b45.eq (t := slR ι (16 * t + j)) (by omega)) ?_
  refine V_icmp_le (tgt := 77) C d_Mo_workIn_66 (by decide) (fun h66 => ?_) (fun h66 => ?_)
  · have hin := (nI_leI (by omega) (by omega)).mp h66
    have hst : wkS ι c9 L (16 * t + j) = _ := if_neg (by rw [hw9]; exact Nat.not_lt.mpr hin)
    rw [hw9] at hst
    obtain ⟨a9, ha, ha2⟩ := hp hin
    refine V_aload_n C d_Mo_workIn_77 rfl ?_
    refine V_getR (kx := 24) C d_Mo_workIn_78 cf_Mo (by decide) k_Mo_71 hM.al rfl hM.r24 ?_
    refine V_iload C d_Mo_workIn_81 rfl ?_
    refine V_iald C d_Mo_workIn_83 (by decide) rfl hM.n24 rfl (show slR ι (16 * t + j) < 96 by omega) rfl ?_
    refine V_aload_n C d_Mo_workIn_84 rfl ?_
    refine V_getR (kx := 14) C d_Mo_workIn_85 cf_Mo (by decide) k_Mo_46 hM.al rfl hM.r14 ?_
    refine V_iload_n C d_Mo_workIn_88 rfl ?_
    refine V_iald C d_Mo_workIn_89 (by decide) rfl hM.n14 rfl (by omega) rfl ?_
    refine V_iadd C d_Mo_workIn_90 ?_
    refine V_eqi (y := pR ι L (16 * t + j)) rfl ?_
    refine V_istore (lv' := [(7, _), (6, _), (5, _), (4, _), (3, _), (0, _), (1, _), (2, _)]) C d_Mo_workIn_91 (by decide) rfl ?_
    refine V_aload_n C d_Mo_workIn_93 rfl ?_
    refine V_aload_n C d_Mo_workIn_94 rfl ?_
    refine V_iload_n C d_Mo_workIn_95 rfl ?_
    refine V_iload_n C d_Mo_workIn_96 rfl ?_
    refine V_callV (as := [_, _]) C d_Mo_workIn_97 (k_meaningOf hM K (t := t) (j := j) ht hj) m_Mo_meaningOf cf_Mo k_Mo_167 hM.al ⟨by decide, by decide⟩ (Nat.le_of_ble_eq_true rfl) ⟨by decide, by decide⟩ rfl ?_
    rintro _ _ _ _ _ ⟨rfl, rfl, rfl, rfl, rfl⟩
    dsimp only [Option.toList, List.cons_append, List.nil_append]
    refine V_callV (as := [_]) C d_Mo_workIn_100 (k_placeOfMeaning hM K (by rcases K.me (nuR ι (16 * t + j)) with h | ⟨i9, h1, -, h2, -⟩; exact Or.inl h; exact Or.inr ⟨i9, h1, h2⟩)) m_Mo_placeOfMeaning cf_Mo k_Mo_197 hM.al ⟨by decide, by decide⟩ (Nat.le_of_ble_eq_true rfl) ⟨by decide, by decide⟩ rfl ?_
    rintro _ _ _ _ _ ⟨rfl, rfl, rfl, rfl, rfl⟩
    dsimp only [Option.toList, List.cons_append, List.nil_append]
    refine V_i2l C d_Mo_workIn_103 ?_
    refine V_aload_n C d_Mo_workIn_104 rfl ?_
    refine V_getR (kx := 17) C d_Mo_workIn_105 cf_Mo (by decide) k_Mo_55 hM.al rfl hM.r17 ?_
    refine V_iload_n C d_Mo_workIn_108 rfl ?_
    refine V_iald C d_Mo_workIn_109 (by decide) rfl hM.n17 rfl (by omega) rfl ?_
    refine V_i2l C d_Mo_workIn_110 ?_
    refine V_ladd C d_Mo_workIn_111 ?_
    refine V_eql (y := sm ι c9 L (16 * t + j)) rfl ?_
    refine V_lstore (lv' := [(8, _), (7, _), (6, _), (5, _), (4, _), (3, _), (0, _), (1, _), (2, _)]) C d_Mo_workIn_112 (by decide) rfl ?_
    refine V_lload C d_Mo_workIn_114 rfl ?_
    refine V_iload C d_Mo_workIn_116 rfl ?_
    refine V_i2l C d_Mo_workIn_118 ?_
    refine V_lsub C d_Mo_workIn_119 ?_
    refine V_eql (y := ap ι c9 L (16 * t + j)) rfl ?_
    refine V_lstore (lv' := [(10, _), (8, _), (7, _), (6, _), (5, _), (4, _), (3, _), (0, _), (1, _), (2, _)]) C d_Mo_workIn_120 (by decide) rfl ?_
    refine V_iload C d_Mo_workIn_122 rfl ?_
    refine V_if_ne (tgt := 136) C d_Mo_workIn_124 (by decide) (fun h124 => ?_) (fun h124 => absurd h124 (by decide))
    refine V_iload C d_Mo_workIn_136 rfl ?_
    refine V_iconst (v := 4) C d_Mo_workIn_138 (by decide) ?_
    refine V_icmp_ne (tgt := 158) C d_Mo_workIn_139 (by decide) (fun h139 => ?_) (fun h139 => absurd h139 (by decide))
    refine V_iload C d_Mo_workIn_158 rfl ?_
    refine V_iconst (v := 1) C d_Mo_workIn_160 (by decide) ?_
    refine V_icmp_ne (tgt := 176) C d_Mo_workIn_161 (by decide) (fun h161 => ?_) (fun h161 => absurd h161 (by decide))
    refine V_iload C d_Mo_workIn_176 rfl ?_
    refine V_iconst (v := 2) C d_Mo_workIn_178 (by decide) ?_
    refine V_icmp_ne (tgt := 203) C d_Mo_workIn_179 (by decide) (fun h179 => ?_) (fun h179 => absurd h179 (by decide))
    refine V_iload C d_Mo_workIn_203 rfl ?_
    refine V_iconst (v := 1) C d_Mo_workIn_205 (by decide) ?_
    refine V_icmp_ne (tgt := 218) C d_Mo_workIn_206 (by decide) (fun h206 => ?_) (fun h206 => absurd h206 (by decide))
    refine V_iload C d_Mo_workIn_218 rfl ?_
    refine V_iconst (v := 2) C d_Mo_workIn_220 (by decide) ?_
    refine V_icmp_ne (tgt := 233) C d_Mo_workIn_221 (by decide) (fun h221 => ?_) (fun h221 => absurd h221 (by decide))
    refine V_iload C d_Mo_workIn_233 rfl ?_
    refine V_iconst (v := 3) C d_Mo_workIn_235 (by decide) ?_
    refine V_icmp_ne (tgt := 294) C d_Mo_workIn_236 (by decide) (fun h236 => absurd rfl h236) (fun h236 => ?_)
    refine V_lload C d_Mo_workIn_239 rfl ?_
    refine V_ldc2 C d_Mo_workIn_241 k_Mo_216 ?_
    refine V_land C d_Mo_workIn_244 ?_
    refine V_lconst (v := 0) C d_Mo_workIn_245 (by decide) ?_
    refine V_lcmp C d_Mo_workIn_246 ?_
    refine V_if_eq (tgt := 260) C d_Mo_workIn_247 (by decide) (fun h247 => ?_) (fun h247 => ?_)
    · have h3z : ¬ (ap ι c9 L (16 * t + j) &&& 3 ≠ 0) := fun z => z (lgc_eq.mp h247)
      refine V_lload C d_Mo_workIn_260 rfl ?_
      refine V_iconst (v := 2) C d_Mo_workIn_262 (by decide) ?_
      refine V_lshr C d_Mo_workIn_263 ?_
      refine V_ldc2 C d_Mo_workIn_264 k_Mo_218 ?_
      refine V_ldc2 C d_Mo_workIn_267 k_Mo_220 ?_
      refine V_callS (as := [_, _, _]) C d_Mo_workIn_270 c_Mo_in m_Mo_in k_Mo_208 ⟨by decide, by decide⟩ (Nat.le_of_ble_eq_true rfl) ⟨by decide, by decide⟩ rfl ?_
      rintro _ _ _ _ _ ⟨rfl, rfl, rfl, rfl, rfl⟩
      dsimp only [Option.toList, List.cons_append, List.nil_append]
      refine V_if_ne (tgt := 283) C d_Mo_workIn_273 (by decide) (fun h273 => ?_) (fun h273 => ?_)
      · have hfl : fltV 3 (sm ι c9 L (16 * t + j)) (ap ι c9 L (16 * t + j)) = 0 := by unfold fltV; rw [if_neg (by decide), if_neg (by decide), if_pos rfl, if_neg h3z, if_pos (b2_n0.mp h273)]
        refine V_aload_n C d_Mo_workIn_283 rfl ?_
        refine V_iload C d_Mo_workIn_284 rfl ?_
        refine V_lload C d_Mo_workIn_286 rfl ?_
        refine V_iconst (v := 2) C d_Mo_workIn_288 (by decide) ?_
        refine V_lshr C d_Mo_workIn_289 ?_
        refine V_iconst (v := 1) C d_Mo_workIn_290 (by decide) ?_
        refine V_callV (as := [_, _, _]) C d_Mo_workIn_291 (k_put hM K (w := 1) ⟨a9, by first | exact ha | (rw [tlL_20]; exact ha), ha2⟩) m_Mo_put cf_Mo k_Mo_200 hM.al ⟨by decide, by decide⟩ (Nat.le_of_ble_eq_true rfl) ⟨by decide, by decide⟩ rfl ?_
        rintro _ _ _ _ _ ⟨rfl, rfl, rfl, rfl, rfl⟩
        dsimp only [Option.toList, List.cons_append, List.nil_append]
        refine V_vret C hQ (by decide) (by decide) d_Mo_workIn_294 rfl ?_
        refine ⟨rfl, rfl, congrArg (setL ι) (hst.trans ?_), rfl, rfl⟩
        rw [hfl]
        rw [show (16 * t + j) / 16 = t by omega, show (16 * t + j) % 16 = j by omega]
        rfl
      · have hfl : fltV 3 (sm ι c9 L (16 * t + j)) (ap ι c9 L (16 * t + j)) = 5 := by unfold fltV; rw [if_neg (by decide), if_neg (by decide), if_pos rfl, if_neg h3z, if_neg (b2_0.mp h273)]
        refine V_aload_n C d_Mo_workIn_276 rfl ?_
        refine V_iconst (v := 5) C d_Mo_workIn_277 (by decide) ?_
        refine V_iload_n C d_Mo_workIn_278 rfl ?_
        refine V_iload_n C d_Mo_workIn_279 rfl ?_
        refine V_callV (as := [_, _, _]) C d_Mo_workIn_280 (k_tell hM K) m_Mo_tell cf_Mo k_Mo_157 hM.al ⟨by decide, by decide⟩ (Nat.le_of_ble_eq_true rfl) ⟨by decide, by decide⟩ rfl ?_
        rintro _ _ _ _ _ ⟨rfl, rfl, rfl, rfl, rfl⟩
        dsimp only [Option.toList, List.cons_append, List.nil_append]
        refine V_aload_n C d_Mo_workIn_283 rfl ?_
        refine V_iload C d_Mo_workIn_284 rfl ?_
        refine V_lload C d_Mo_workIn_286 rfl ?_
        refine V_iconst (v := 2) C d_Mo_workIn_288 (by decide) ?_
        refine V_lshr C d_Mo_workIn_289 ?_
        refine V_iconst (v := 1) C d_Mo_workIn_290 (by decide) ?_
        refine V_callV (as := [_, _, _]) C d_Mo_workIn_291 (k_put hM K (w := 1) ⟨a9, by first | exact ha | (rw [tlL_20]; exact ha), ha2⟩) m_Mo_put cf_Mo k_Mo_200 hM.al ⟨by decide, by decide⟩ (Nat.le_of_ble_eq_true rfl) ⟨by decide, by decide⟩ rfl ?_
        rintro _ _ _ _ _ ⟨rfl, rfl, rfl, rfl, rfl⟩
        dsimp only [Option.toList, List.cons_append, List.nil_append]
        refine V_vret C hQ (by decide) (by decide) d_Mo_workIn_294 rfl ?_
        refine ⟨rfl, rfl, congrArg (setL ι) (hst.trans ?_), rfl, rfl⟩
        rw [hfl]
        rw [show (16 * t + j) / 16 = t by omega, show (16 * t + j) % 16 = j by omega]
        rfl
    · have hfl : fltV 3 (sm ι c9 L (16 * t + j)) (ap ι c9 L (16 * t + j)) = 4 := by unfold fltV; rw [if_neg (by decide), if_neg (by decide), if_pos rfl, if_pos (fun z => h247 (lgc_eq.mpr z))]
      refine V_aload_n C d_Mo_workIn_250 rfl ?_
      refine V_iconst (v := 4) C d_Mo_workIn_251 (by decide) ?_
      refine V_iload_n C d_Mo_workIn_252 rfl ?_
      refine V_iload_n C d_Mo_workIn_253 rfl ?_
      refine V_callV (as := [_, _, _]) C d_Mo_workIn_254 (k_tell hM K) m_Mo_tell cf_Mo k_Mo_157 hM.al ⟨by decide, by decide⟩ (Nat.le_of_ble_eq_true rfl) ⟨by decide, by decide⟩ rfl ?_
      rintro _ _ _ _ _ ⟨rfl, rfl, rfl, rfl, rfl⟩
      dsimp only [Option.toList, List.cons_append, List.nil_append]
      refine V_goto (tgt := 283) C d_Mo_workIn_257 (by decide) ?_
      refine V_aload_n C d_Mo_workIn_283 rfl ?_
      refine V_iload C d_Mo_workIn_284 rfl ?_
      refine V_lload C d_Mo_workIn_286 rfl ?_
      refine V_iconst (v := 2) C d_Mo_workIn_288 (by decide) ?_
      refine V_lshr C d_Mo_workIn_289 ?_
      refine V_iconst (v := 1) C d_Mo_workIn_290 (by decide) ?_
      refine V_callV (as := [_, _, _]) C d_Mo_workIn_291 (k_put hM K (w := 1) ⟨a9, by first | exact ha | (rw [tlL_20]; exact ha), ha2⟩) m_Mo_put cf_Mo k_Mo_200 hM.al ⟨by decide, by decide⟩ (Nat.le_of_ble_eq_true rfl) ⟨by decide, by decide⟩ rfl ?_
      rintro _ _ _ _ _ ⟨rfl, rfl, rfl, rfl, rfl⟩
      dsimp only [Option.toList, List.cons_append, List.nil_append]
      refine V_vret C hQ (by decide) (by decide) d_Mo_workIn_294 rfl ?_
      refine ⟨rfl, rfl, congrArg (setL ι) (hst.trans ?_), rfl, rfl⟩
      rw [hfl]
      rw [show (16 * t + j) / 16 = t by omega, show (16 * t + j) % 16 = j by omega]
      rfl
  · have hin : ¬ _ := fun z => h66 ((nI_leI (by omega) (by omega)).mpr z)
    have hst : wkS ι c9 L (16 * t + j) = _ := if_pos (by rw [hw9]; exact Nat.lt_of_not_le hin)
    rw [show (16 * t + j) / 16 = t by omega, show (16 * t + j) % 16 = j by omega] at hst
    refine V_aload_n C d_Mo_workIn_69 rfl ?_
    refine V_iconst (v := 3) C d_Mo_workIn_70 (by decide) ?_
    refine V_iload_n C d_Mo_workIn_71 rfl ?_
    refine V_iload_n C d_Mo_workIn_72 rfl ?_
    refine V_callV (as := [_, _, _]) C d_Mo_workIn_73 (k_tell hM K) m_Mo_tell cf_Mo k_Mo_157 hM.al ⟨by decide, by decide⟩ (Nat.le_of_ble_eq_true rfl) ⟨by decide, by decide⟩ rfl ?_
    rintro _ _ _ _ _ ⟨rfl, rfl, rfl, rfl, rfl⟩
    dsimp only [Option.toList, List.cons_append, List.nil_append]
    refine V_vret C hQ (by decide) (by decide) d_Mo_workIn_76 rfl ?_
    exact ⟨rfl, rfl, congrArg (setL ι) hst, rfl, rfl⟩
set_option maxHeartbeats 1000000 in
set_option maxRecDepth 10000 in
theorem k_workIn4 {ν : Nu} {ι : Io} {ρ : Ro} {ℓ : Lo} (hM : MoS ν ρ) {c9 : Nat} (K : LK ι c9) {L : Ls} {t j : Nat} (ht : t < 12) (hj : j < 16) (hw9 : mn ι 55 (16 * t + j) = 4) (hp : mn ι 54 (16 * t + j) + 2 ≤ mn ι 45 (slR ι (16 * t + j)) → ∃ a, pR ι L (16 * t + j) - L 10 20 = nI a ∧ a + 2 ≤ 4096) : Ct y_Mo_workIn (Cond.code y_Mo_workIn b_Mo_workIn 12 none :: tb_) { frames := 3, cells := 0, slots := 0, locals := 70 } [sR 10 0 0, sI (nI t), sI (nI j)] ν (setL ι L) ρ ℓ (pEq none ν (setL ι (wkS ι c9 L (16 * t + j))) ρ ℓ) (noX) := by
  refine Ct.ofV (by decide) (Nat.le_of_ble_eq_true rfl) rfl ?_
  intro p l e s m args below meth c D B tW α0 Q C hQ
  have hsl : slR ι (16 * t + j) = 8 * t + mn ι 53 (16 * t + j) := by unfold slR; rw [show (16 * t + j) / 16 = t by omega]
  have h53 := K.b53.le (t := 16 * t + j) (by omega)
  have h54 := K.b54.le (t := 16 * t + j) (by omega)
  have hway : ι 55 0 0 (16 * t + j) = 4 := (K.b55.eq (t := 16 * t + j) (by omega)).trans (by rw [hw9]; rfl)
  have h45 := K.b45.le (t := slR ι (16 * t + j)) (by omega)
  refine V_bipush (v := 16) C d_Mo_workIn_0 (by decide) ?_
  refine V_iload_n C d_Mo_workIn_2 rfl ?_
  refine V_imul C d_Mo_workIn_3 ?_
  refine V_iload_n C d_Mo_workIn_4 rfl ?_
  refine V_iadd C d_Mo_workIn_5 ?_
  refine V_eqi (y := nI (16 * t + j)) (ixa 16 t j) ?_
  refine V_istore_n (lv' := [(3, _), (0, _), (1, _), (2, _)]) C d_Mo_workIn_6 (by decide) rfl ?_
  refine V_bipush (v := 8) C d_Mo_workIn_7 (by decide) ?_
  refine V_iload_n C d_Mo_workIn_9 rfl ?_
  refine V_imul C d_Mo_workIn_10 ?_
  refine V_aload_n C d_Mo_workIn_11 rfl ?_
  refine V_getR (kx := 13) C d_Mo_workIn_12 cf_Mo (by decide) k_Mo_43 hM.al rfl hM.r13 ?_
  refine V_iload_n C d_Mo_workIn_15 rfl ?_
  refine V_iald C d_Mo_workIn_16 (by decide) rfl hM.n13 rfl (by omega) rfl ?_
  refine V_eqi (y := nI (mn ι 53 (16 * t + j))) (K.b53.eq (t := 16 * t + j) (by omega)) ?_
  refine V_iadd C d_Mo_workIn_17 ?_
  refine V_eqi (y := nI (slR ι (16 * t + j))) (by rw [hsl]; exact ixa 8 t _) ?_
  refine V_istore (lv' := [(4, _), (3, _), (0, _), (1, _), (2, _)]) C d_Mo_workIn_18 (by decide) rfl ?_
  refine V_aload_n C d_Mo_workIn_20 rfl ?_
  refine V_getR (kx := 15) C d_Mo_workIn_21 cf_Mo (by decide) k_Mo_49 hM.al rfl hM.r15 ?_
  refine V_iload_n C d_Mo_workIn_24 rfl ?_
  refine V_iald C d_Mo_workIn_25 (by decide) rfl hM.n15 rfl (by omega) rfl ?_
  refine V_eqi (y := 4) hway ?_
  refine V_istore (lv' := [(5, _), (4, _), (3, _), (0, _), (1, _), (2, _)]) C d_Mo_workIn_26 (by decide) rfl ?_
  refine V_iload C d_Mo_workIn_28 rfl ?_
  refine V_if_ne (tgt := 37) C d_Mo_workIn_30 (by decide) (fun h30 => ?_) (fun h30 => absurd h30 (by decide))
  refine V_iload C d_Mo_workIn_37 rfl ?_
  refine V_iconst (v := 3) C d_Mo_workIn_39 (by decide) ?_
  refine V_icmp_ne (tgt := 47) C d_Mo_workIn_40 (by decide) (fun h40 => ?_) (fun h40 => absurd h40 (by decide))
  refine V_iconst (v := 2) C d_Mo_workIn_47 (by decide) ?_
  refine V_istore (lv' := [(6, _), (5, _), (4, _), (3, _), (0, _), (1, _), (2, _)]) C d_Mo_workIn_48 (by decide) rfl ?_
  refine V_aload_n C d_Mo_workIn_50 rfl ?_
  refine V_getR (kx := 14) C d_Mo_workIn_51 cf_Mo (by decide) k_Mo_46 hM.al rfl hM.r14 ?_
  refine V_iload_n C d_Mo_workIn_54 rfl ?_
  refine V_iald C d_Mo_workIn_55 (by decide) rfl hM.n14 rfl (by omega) rfl ?_
  refine V_iload C d_Mo_workIn_56 rfl ?_
  refine V_iadd C d_Mo_workIn_58 ?_
  refine V_eqi (y := nI (mn ι 54 (16 * t + j) + 2)) (by rw [show (setL ι L 54 0 0 (16 * t + j) : Int32) = ι 54 0 0 (16 * t + j) from rfl, K.b54.eq (t := 16 * t + j) (by omega)]; exact nI_add _ 2) ?_
  refine V_aload_n C d_Mo_workIn_59 rfl ?_
  refine V_getR (kx := 5) C d_Mo_workIn_60 cf_Mo (by decide) k_Mo_19 hM.al rfl hM.r5 ?_
  refine V_iload C d_Mo_workIn_63 rfl ?_
  refine V_iald C d_Mo_workIn_65 (by decide) rfl hM.n5 rfl (show slR ι (16 * t + j) < 104 by omega) rfl ?_
  refine V_eqi (y := nI (mn ι 45 (slR ι (16 * t + j)))) (K.b45.eq (t := slR ι (16 * t + j)) (by omega)) ?_
  refine V_icmp_le (tgt := 77) C d_Mo_workIn_66 (by decide) (fun h66 => ?_) (fun h66 => ?_)
  · have hin := (nI_leI (by omega) (by omega)).mp h66
    have hst : wkS ι c9 L (16 * t + j) = _ := if_neg (by rw [hw9]; exact Nat.not_lt.mpr hin)
    rw [hw9] at hst
    obtain ⟨a9, ha, ha2⟩ := hp hin
    refine V_aload_n C d_Mo_workIn_77 rfl ?_
    refine V_getR (kx := 24) C d_Mo_workIn_78 cf_Mo (by decide) k_Mo_71 hM.al rfl hM.r24 ?_
    refine V_iload C d_Mo_workIn_81 rfl ?_
    refine V_iald C d_Mo_workIn_83 (by decide) rfl hM.n24 rfl (show slR ι (16 * t + j) < 96 by omega) rfl ?_
    refine V_aload_n C d_Mo_workIn_84 rfl ?_
    refine V_getR (kx := 14) C d_Mo_workIn_85 cf_Mo (by decide) k_Mo_46 hM.al rfl hM.r14 ?_
    refine V_iload_n C d_Mo_workIn_88 rfl ?_
    refine V_iald C d_Mo_workIn_89 (by decide) rfl hM.n14 rfl (by omega) rfl ?_
    refine V_iadd C d_Mo_workIn_90 ?_
    refine V_eqi (y := pR ι L (16 * t + j)) rfl ?_
    refine V_istore (lv' := [(7, _), (6, _), (5, _), (4, _), (3, _), (0, _), (1, _), (2, _)]) C d_Mo_workIn_91 (by decide) rfl ?_
    refine V_aload_n C d_Mo_workIn_93 rfl ?_
    refine V_aload_n C d_Mo_workIn_94 rfl ?_
    refine V_iload_n C d_Mo_workIn_95 rfl ?_
    refine V_iload_n C d_Mo_workIn_96 rfl ?_
    refine V_callV (as := [_, _]) C d_Mo_workIn_97 (k_meaningOf hM K (t := t) (j := j) ht hj) m_Mo_meaningOf cf_Mo k_Mo_167 hM.al ⟨by decide, by decide⟩ (Nat.le_of_ble_eq_true rfl) ⟨by decide, by decide⟩ rfl ?_
    rintro _ _ _ _ _ ⟨rfl, rfl, rfl, rfl, rfl⟩
    dsimp only [Option.toList, List.cons_append, List.nil_append]
    refine V_callV (as := [_]) C d_Mo_workIn_100 (k_placeOfMeaning hM K (by rcases K.me (nuR ι (16 * t + j)) with h | ⟨i9, h1, -, h2, -⟩; exact Or.inl h; exact Or.inr ⟨i9, h1, h2⟩)) m_Mo_placeOfMeaning cf_Mo k_Mo_197 hM.al ⟨by decide, by decide⟩ (Nat.le_of_ble_eq_true rfl) ⟨by decide, by decide⟩ rfl ?_
    rintro _ _ _ _ _ ⟨rfl, rfl, rfl, rfl, rfl⟩
    dsimp only [Option.toList, List.cons_append, List.nil_append]
    refine V_i2l C d_Mo_workIn_103 ?_
    refine V_aload_n C d_Mo_workIn_104 rfl ?_
    refine V_getR (kx := 17) C d_Mo_workIn_105 cf_Mo (by decide) k_Mo_55 hM.al rfl hM.r17 ?_
    refine V_iload_n C d_Mo_workIn_108 rfl ?_
    refine V_iald C d_Mo_workIn_109 (by decide) rfl hM.n17 rfl (by omega) rfl ?_
    refine V_i2l C d_Mo_workIn_110 ?_
    refine V_ladd C d_Mo_workIn_111 ?_
    refine V_eql (y := sm ι c9 L (16 * t + j)) rfl ?_
    refine V_lstore (lv' := [(8, _), (7, _), (6, _), (5, _), (4, _), (3, _), (0, _), (1, _), (2, _)]) C d_Mo_workIn_112 (by decide) rfl ?_
    refine V_lload C d_Mo_workIn_114 rfl ?_
    refine V_iload C d_Mo_workIn_116 rfl ?_
    refine V_i2l C d_Mo_workIn_118 ?_
    refine V_lsub C d_Mo_workIn_119 ?_
    refine V_eql (y := ap ι c9 L (16 * t + j)) rfl ?_
    refine V_lstore (lv' := [(10, _), (8, _), (7, _), (6, _), (5, _), (4, _), (3, _), (0, _), (1, _), (2, _)]) C d_Mo_workIn_120 (by decide) rfl ?_
    refine V_iload C d_Mo_workIn_122 rfl ?_
    refine V_if_ne (tgt := 136) C d_Mo_workIn_124 (by decide) (fun h124 => ?_) (fun h124 => absurd h124 (by decide))
    refine V_iload C d_Mo_workIn_136 rfl ?_
    refine V_iconst (v := 4) C d_Mo_workIn_138 (by decide) ?_
    refine V_icmp_ne (tgt := 158) C d_Mo_workIn_139 (by decide) (fun h139 => absurd rfl h139) (fun h139 => ?_)
    refine V_aload_n C d_Mo_workIn_142 rfl ?_
    refine V_iload C d_Mo_workIn_143 rfl ?_
    refine V_lload C d_Mo_workIn_145 rfl ?_
    refine V_ldc2 C d_Mo_workIn_147 k_Mo_204 ?_
    refine V_ladd C d_Mo_workIn_150 ?_
    refine V_bipush (v := 16) C d_Mo_workIn_151 (by decide) ?_
    refine V_lshr C d_Mo_workIn_153 ?_
    refine V_iconst (v := 2) C d_Mo_workIn_154 (by decide) ?_
    refine V_callV (as := [_, _, _]) C d_Mo_workIn_155 (k_put hM K (w := 2) ⟨a9, by first | exact ha | (rw [tlL_20]; exact ha), ha2⟩) m_Mo_put cf_Mo k_Mo_200 hM.al ⟨by decide, by decide⟩ (Nat.le_of_ble_eq_true rfl) ⟨by decide, by decide⟩ rfl ?_
    rintro _ _ _ _ _ ⟨rfl, rfl, rfl, rfl, rfl⟩
    dsimp only [Option.toList, List.cons_append, List.nil_append]
    refine V_iload C d_Mo_workIn_158 rfl ?_
    refine V_iconst (v := 1) C d_Mo_workIn_160 (by decide) ?_
    refine V_icmp_ne (tgt := 176) C d_Mo_workIn_161 (by decide) (fun h161 => ?_) (fun h161 => absurd h161 (by decide))
    refine V_iload C d_Mo_workIn_176 rfl ?_
    refine V_iconst (v := 2) C d_Mo_workIn_178 (by decide) ?_
    refine V_icmp_ne (tgt := 203) C d_Mo_workIn_179 (by decide) (fun h179 => ?_) (fun h179 => absurd h179 (by decide))
    refine V_iload C d_Mo_workIn_203 rfl ?_
    refine V_iconst (v := 1) C d_Mo_workIn_205 (by decide) ?_
    refine V_icmp_ne (tgt := 218) C d_Mo_workIn_206 (by decide) (fun h206 => ?_) (fun h206 => absurd h206 (by decide))
    refine V_iload C d_Mo_workIn_218 rfl ?_
    refine V_iconst (v := 2) C d_Mo_workIn_220 (by decide) ?_
    refine V_icmp_ne (tgt := 233) C d_Mo_workIn_221 (by decide) (fun h221 => ?_) (fun h221 => absurd h221 (by decide))
    refine V_iload C d_Mo_workIn_233 rfl ?_
    refine V_iconst (v := 3) C d_Mo_workIn_235 (by decide) ?_
    refine V_icmp_ne (tgt := 294) C d_Mo_workIn_236 (by decide) (fun h236 => ?_) (fun h236 => absurd h236 (by decide))
    refine V_vret C hQ (by decide) (by decide) d_Mo_workIn_294 rfl ?_
    refine ⟨rfl, rfl, congrArg (setL ι) (hst.trans ?_), rfl, rfl⟩
    rw [show fltV 4 (sm ι c9 L (16 * t + j)) (ap ι c9 L (16 * t + j)) = 0 from rfl]
    rw [show (16 * t + j) / 16 = t by omega, show (16 * t + j) % 16 = j by omega]
    rfl
  · have hin : ¬ _ := fun z => h66 ((nI_leI (by omega) (by omega)).mpr z)
    have hst : wkS ι c9 L (16 * t + j) = _ := if_pos (by rw [hw9]; exact Nat.lt_of_not_le hin)
    rw [show (16 * t + j) / 16 = t by omega, show (16 * t + j) % 16 = j by omega] at hst
    refine V_aload_n C d_Mo_workIn_69 rfl ?_
    refine V_iconst (v := 3) C d_Mo_workIn_70 (by decide) ?_
    refine V_iload_n C d_Mo_workIn_71 rfl ?_
    refine V_iload_n C d_Mo_workIn_72 rfl ?_
    refine V_callV (as := [_, _, _]) C d_Mo_workIn_73 (k_tell hM K) m_Mo_tell cf_Mo k_Mo_157 hM.al ⟨by decide, by decide⟩ (Nat.le_of_ble_eq_true rfl) ⟨by decide, by decide⟩ rfl ?_
    rintro _ _ _ _ _ ⟨rfl, rfl, rfl, rfl, rfl⟩
    dsimp only [Option.toList, List.cons_append, List.nil_append]
    refine V_vret C hQ (by decide) (by decide) d_Mo_workIn_76 rfl ?_
    exact ⟨rfl, rfl, congrArg (setL ι) hst, rfl, rfl⟩
theorem k_workIn {ν : Nu} {ι : Io} {ρ : Ro} {ℓ : Lo} (hM : MoS ν ρ) {c9 : Nat} (K : LK ι c9) {L : Ls} {t j : Nat} (ht : t < 12) (hj : j < 16) (hp : mn ι 54 (16 * t + j) + wd (mn ι 55 (16 * t + j)) ≤ mn ι 45 (slR ι (16 * t + j)) → ∃ a, pR ι L (16 * t + j) - L 10 20 = nI a ∧ a + wd (mn ι 55 (16 * t + j)) ≤ 4096) : Ct y_Mo_workIn (Cond.code y_Mo_workIn b_Mo_workIn 12 none :: tb_) { frames := 3, cells := 0, slots := 0, locals := 70 } [sR 10 0 0, sI (nI t), sI (nI j)] ν (setL ι L) ρ ℓ (pEq none ν (setL ι (wkS ι c9 L (16 * t + j))) ρ ℓ) (noX) := by
  have h55 := K.b55.le (t := 16 * t + j) (by omega)
  rcases (show mn ι 55 (16 * t + j) = 0 ∨ mn ι 55 (16 * t + j) = 1 ∨ mn ι 55 (16 * t + j) = 2 ∨ mn ι 55 (16 * t + j) = 3 ∨ mn ι 55 (16 * t + j) = 4 by omega) with h | h | h | h | h
  · exact k_workIn0 hM K ht hj h (by rw [h] at hp; exact hp)
  · exact k_workIn1 hM K ht hj h (by rw [h] at hp; exact hp)
  · exact k_workIn2 hM K ht hj h (by rw [h] at hp; exact hp)
  · exact k_workIn3 hM K ht hj h (by rw [h] at hp; exact hp)
  · exact k_workIn4 hM K ht hj h (by rw [h] at hp; exact hp)
def knI (ι : Io) (c : Nat) (L0 : Ls) (l : List Nat) (L : Ls) : Prop := L 10 34 = nI l.length ∧ (∀ t, (h : t < l.length) → L 75 t = ι 48 0 0 l[t] ∧ L 76 t = pmL ι L0 (me ι c (ι 48 0 0 l[t]))) ∧ (∀ r k, ¬ (r = 75 ∧ k < 144) → ¬ (r = 76 ∧ k < 144) → ¬ (r = 10 ∧ k = 34) → L r k = L0 r k)
theorem pm_fr {ι : Io} {L L' : Ls} {m : Int32} (h : ∀ r k, 61 ≤ r → r ≤ 64 → L r k = L' r k) : pmL ι L m = pmL ι L' m := by
  unfold pmL
  rw [h 61 _ (by omega) (by omega), h 62 _ (by omega) (by omega), h 63 _ (by omega) (by omega), h 64 _ (by omega) (by omega)]
theorem knI_s {ι : Io} {c : Nat} {L0 L : Ls} {l : List Nat} {i : Nat} (h : knI ι c L0 l L) (hl : l.length < 144) : knI ι c L0 (l ++ [i]) (up2 (up2 (up2 L 75 l.length (ι 48 0 0 i)) 76 l.length (pmL ι L0 (me ι c (ι 48 0 0 i)))) 10 34 (nI (l.length + 1))) := by
  refine ⟨?_, fun t ht => ?_, fun r k h1 h2 h3 => ?_⟩
  · rw [up2_same, List.length_append]; rfl
  · rw [List.length_append] at ht
    by_cases hq : t = l.length
    · subst hq
      rw [List.getElem_append_right (Nat.le_refl _)]
      simp [up2]
    · have h4 : t < l.length := by simp at ht; omega
      rw [List.getElem_append_left h4]
      rw [up2_ne (by omega), up2_ne (by omega), up2_ne (by omega), up2_ne (by omega), up2_ne (by omega), up2_ne (by omega)]
      exact h.2.1 t h4
  · rw [up2_ne (by omega), up2_ne (by omega), up2_ne (by omega)]
    exact h.2.2 r k h1 h2 h3
theorem knI_0 {ι : Io} {c : Nat} {L : Ls} : knI ι c L [] (up2 L 10 34 0) :=
  ⟨up2_same, fun t ht => absurd ht (by simp), fun r k _ _ h3 => up2_ne h3⟩
theorem sqP_len {ι : Io} {m fld k i : Nat} {M : Nat} (h : ∀ z, z < k → mn ι fld (mn ι 59 z) ≤ M) : (sqP ι m fld k i).length ≤ M * k + i := by
  unfold sqP
  rw [List.length_append, List.length_map, List.length_range]
  have : (sq ι m fld k).length ≤ M * k := by
    clear i
    induction k with
    | zero => simp [sq]
    | succ k ih =>
      rw [sq_s]
      unfold sqP
      rw [List.length_append, List.length_map, List.length_range]
      have h1 := ih (fun z hz => h z (by omega))
      have h2 := h k (by omega)
      rw [Nat.mul_succ]
      omega
  omega
set_option maxHeartbeats 1000000 in
set_option maxRecDepth 10000 in
theorem k_know {ν : Nu} {ι : Io} {ρ : Ro} {ℓ : Lo} (hM : MoS ν ρ) {c9 : Nat} (K : LK ι c9) {L : Ls}  : Ct y_Mo_know (Cond.code y_Mo_know b_Mo_know 4 none :: tb_) { frames := 2, cells := 0, slots := 0, locals := 48 } [sR 10 0 0] ν (setL ι L) ρ ℓ (fun v ν1 ι1 ρ1 ℓ1 => none = v ∧ ν = ν1 ∧ ρ = ρ1 ∧ ℓ = ℓ1 ∧ ∃ L1, knI ι c9 L (sq ι 12 47 c9) L1 ∧ ι1 = setL ι L1) (noX) := by
  refine Ct.ofV (by decide) (Nat.le_of_ble_eq_true rfl) rfl ?_
  intro p l e s m args below meth c D B tW α0 Q C hQ
  have c12 := K.c12
  have outer : ∀ (f : Nat) (k9 : Nat) (L1 : Ls), c9 - k9 < f → (k9 ≤ c9) → (knI ι c9 L (sq ι 12 47 k9) L1) → V p l e { frames := 2, cells := 0, slots := 0, locals := 48 } s m args below meth c D B α0 ν 4 Q 0 0 ν (setL ι L1) ρ ℓ 7 [(1, sI (nI k9)), (0, sR 10 0 0)] [] := by
    intro f
    induction f with
    | zero => intros; omega
    | succ f ih =>
      intro k9 L1 hf hk0 hpre0
      refine V_iload_n C d_Mo_know_7 rfl ?_
      refine V_aload_n C d_Mo_know_8 rfl ?_
      refine V_getI (kx := 18) C d_Mo_know_9 cf_Mo (by decide) k_Mo_144 hM.al rfl ?_
      refine V_eqi (y := nI c9) K.c18 ?_
      refine V_icmp_ge (tgt := 102) C d_Mo_know_12 (by decide) (fun hx12 => ?_) (fun hx12 => ?_)
      · have hk : k9 = c9 := by have := (nI_leI (a := c9) (b := k9) (by omega) (by omega)).mp hx12; omega
        subst hk
        refine V_vret C hQ (by decide) (by decide) d_Mo_know_102 rfl ?_
        exact ⟨rfl, rfl, rfl, rfl, _, hpre0, rfl⟩
      · have hk : k9 < c9 := Nat.lt_of_not_le fun z => hx12 ((nI_leI (by omega) (by omega)).mpr z)
        have ho := K.b59.le (t := k9) (by omega)
        have hnn := K.b47.le (t := mn ι 59 k9) (by omega)
        have inner : ∀ (f : Nat) (i : Nat) (L1 : Ls), mn ι 47 (mn ι 59 k9) - i < f → (i ≤ mn ι 47 (mn ι 59 k9)) → (knI ι c9 L (sqP ι 12 47 k9 i) L1) → V p l e { frames := 2, cells := 0, slots := 0, locals := 48 } s m args below meth c D B α0 ν 4 Q 0 0 ν (setL ι L1) ρ ℓ 27 [(3, sI (nI (12 * mn ι 59 k9 + i))), (2, sI (nI (mn ι 59 k9))), (1, sI (nI k9)), (0, sR 10 0 0)] [] := by
          intro f
          induction f with
          | zero => intros; omega
          | succ f ih2 =>
                  intro i L1 hf2 hi0 hpre
                  refine V_iload_n C d_Mo_know_27 rfl ?_
                  refine V_bipush (v := 12) C d_Mo_know_28 (by decide) ?_
                  refine V_iload_n C d_Mo_know_30 rfl ?_
                  refine V_imul C d_Mo_know_31 ?_
                  refine V_aload_n C d_Mo_know_32 rfl ?_
                  refine V_getR (kx := 7) C d_Mo_know_33 cf_Mo (by decide) k_Mo_25 hM.al rfl hM.r7 ?_
                  refine V_iload_n C d_Mo_know_36 rfl ?_
                  refine V_iald C d_Mo_know_37 (by decide) rfl hM.n7 rfl (by omega) rfl ?_
                  refine V_eqi (y := nI (mn ι 47 (mn ι 59 k9))) (K.b47.eq (t := mn ι 59 k9) (by omega)) ?_
                  refine V_iadd C d_Mo_know_38 ?_
                  refine V_eqi (ixa 12 (mn ι 59 k9) (mn ι 47 (mn ι 59 k9))) ?_
                  refine V_icmp_ge (tgt := 96) C d_Mo_know_39 (by decide) (fun h39 => ?_) (fun h39 => ?_)
                  · have hi : i = mn ι 47 (mn ι 59 k9) := by have := (nI_leI (by omega) (by omega)).mp h39; omega
                    refine V_iinc (v := nI (k9 + 1)) (lv' := [(1, _), (3, _), (2, _), (0, _)]) C d_Mo_know_96 rfl (nI_1 k9) (by decide) rfl ?_
                    refine V_goto (tgt := 7) C d_Mo_know_99 (by decide) ?_
                    refine V_pick [0, 3] rfl ?_
                    exact ih (k9 + 1) _ (by omega) (by omega) (by rw [sq_s, ← hi]; exact hpre)
                  · have hi : i < mn ι 47 (mn ι 59 k9) := Nat.lt_of_not_le fun z => h39 ((nI_leI (by omega) (by omega)).mpr (by omega))
                    have hlen : (sqP ι 12 47 k9 i).length < 144 := by have := sqP_len (ι := ι) (m := 12) (fld := 47) (k := k9) (i := i) (M := 12) (fun z hz => K.b47.le (t := mn ι 59 z) (by have := K.b59.le (t := z) (by omega); omega)); omega
                    refine V_aload_n C d_Mo_know_42 rfl ?_
                    refine V_getR (kx := 35) C d_Mo_know_43 cf_Mo (by decide) k_Mo_84 hM.al rfl hM.r35 ?_
                    refine V_aload_n C d_Mo_know_46 rfl ?_
                    refine V_getI (kx := 34) C d_Mo_know_47 cf_Mo (by decide) k_Mo_222 hM.al rfl ?_
                    refine V_aload_n C d_Mo_know_50 rfl ?_
                    refine V_getR (kx := 8) C d_Mo_know_51 cf_Mo (by decide) k_Mo_28 hM.al rfl hM.r8 ?_
                    refine V_iload_n C d_Mo_know_54 rfl ?_
                    refine V_iald C d_Mo_know_55 (by decide) rfl hM.n8 rfl (by omega) rfl ?_
                    refine V_iast C d_Mo_know_56 (by decide) rfl hM.n35 hpre.1 hlen rfl ?_
                    refine V_io (setL_up rfl) ?_
                    refine V_aload_n C d_Mo_know_57 rfl ?_
                    refine V_getR (kx := 36) C d_Mo_know_58 cf_Mo (by decide) k_Mo_87 hM.al rfl hM.r36 ?_
                    refine V_aload_n C d_Mo_know_61 rfl ?_
                    refine V_getI (kx := 34) C d_Mo_know_62 cf_Mo (by decide) k_Mo_222 hM.al rfl ?_
                    refine V_aload_n C d_Mo_know_65 rfl ?_
                    refine V_aload_n C d_Mo_know_66 rfl ?_
                    refine V_aload_n C d_Mo_know_67 rfl ?_
                    refine V_getR (kx := 8) C d_Mo_know_68 cf_Mo (by decide) k_Mo_28 hM.al rfl hM.r8 ?_
                    refine V_iload_n C d_Mo_know_71 rfl ?_
                    refine V_iald C d_Mo_know_72 (by decide) rfl hM.n8 rfl (by omega) rfl ?_
                    refine V_callV (as := [_]) C d_Mo_know_73 (k_meaning hM K) m_Mo_meaning cf_Mo k_Mo_151 hM.al ⟨by decide, by decide⟩ (Nat.le_of_ble_eq_true rfl) ⟨by decide, by decide⟩ rfl ?_
                    rintro _ _ _ _ _ ⟨rfl, rfl, rfl, rfl, rfl⟩
                    dsimp only [Option.toList, List.cons_append, List.nil_append]
                    refine V_callV (as := [_]) C d_Mo_know_76 (k_placeOfMeaning hM K (by rcases K.me (ι 48 0 0 (12 * mn ι 59 k9 + i)) with h | ⟨i9, h1, -, h2, -⟩; exact Or.inl h; exact Or.inr ⟨i9, h1, h2⟩)) m_Mo_placeOfMeaning cf_Mo k_Mo_197 hM.al ⟨by decide, by decide⟩ (Nat.le_of_ble_eq_true rfl) ⟨by decide, by decide⟩ rfl ?_
                    rintro _ _ _ _ _ ⟨rfl, rfl, rfl, rfl, rfl⟩
                    dsimp only [Option.toList, List.cons_append, List.nil_append]
                    refine V_eqi (show pmL ι (up2 L1 75 (sqP ι 12 47 k9 i).length (ι 48 0 0 (12 * mn ι 59 k9 + i))) (me ι c9 (ι 48 0 0 (12 * mn ι 59 k9 + i))) = pmL ι L (me ι c9 (ι 48 0 0 (12 * mn ι 59 k9 + i))) from pm_fr (fun r k h1 h2 => by rw [up2_ne (by omega)]; exact hpre.2.2 r k (by omega) (by omega) (by omega))) ?_
                    refine V_iast C d_Mo_know_79 (by decide) rfl hM.n36 hpre.1 hlen rfl ?_
                    refine V_aload_n C d_Mo_know_80 rfl ?_
                    refine V_dup C d_Mo_know_81 rfl ?_
                    refine V_getI (kx := 34) C d_Mo_know_82 cf_Mo (by decide) k_Mo_222 hM.al rfl ?_
                    refine V_iconst (v := 1) C d_Mo_know_85 (by decide) ?_
                    refine V_iadd C d_Mo_know_86 ?_
                    refine V_eqi (y := nI ((sqP ι 12 47 k9 i).length + 1)) (show L1 10 34 + 1 = _ by rw [hpre.1]; exact nI_1 _) ?_
                    refine V_putI (kx := 34) C d_Mo_know_87 cf_Mo (by decide) k_Mo_222 hM.al rfl rfl rfl rfl ?_
                    refine V_iinc (v := nI (12 * mn ι 59 k9 + (i + 1))) (lv' := [(3, _), (2, _), (1, _), (0, _)]) C d_Mo_know_90 rfl (nI_1 _) (by decide) rfl ?_
                    refine V_goto (tgt := 27) C d_Mo_know_93 (by decide) ?_
                    refine V_pick [0, 1, 2, 3] rfl ?_
                    refine V_io (show _ = setL ι (up2 (up2 (up2 L1 75 (sqP ι 12 47 k9 i).length (ι 48 0 0 (12 * mn ι 59 k9 + i))) 76 (sqP ι 12 47 k9 i).length (pmL ι L (me ι c9 (ι 48 0 0 (12 * mn ι 59 k9 + i))))) 10 34 (nI ((sqP ι 12 47 k9 i).length + 1))) by rw [setL_up rfl, setL_up rfl]; rfl) ?_
                    exact ih2 (i + 1) _ (by omega) (by omega) (by rw [sqP_s]; exact knI_s hpre hlen)
        refine V_aload_n C d_Mo_know_15 rfl ?_
        refine V_getR (kx := 19) C d_Mo_know_16 cf_Mo (by decide) k_Mo_58 hM.al rfl hM.r19 ?_
        refine V_iload_n C d_Mo_know_19 rfl ?_
        refine V_iald C d_Mo_know_20 (by decide) rfl hM.n19 rfl (by omega) rfl ?_
        refine V_eqi (y := nI (mn ι 59 k9)) (K.b59.eq (t := k9) (by omega)) ?_
        refine V_istore_n (lv' := [(2, _), (1, _), (0, _)]) C d_Mo_know_21 (by decide) rfl ?_
        refine V_bipush (v := 12) C d_Mo_know_22 (by decide) ?_
        refine V_iload_n C d_Mo_know_24 rfl ?_
        refine V_imul C d_Mo_know_25 ?_
        refine V_eqi (y := nI (12 * mn ι 59 k9 + 0)) (pk_mul 12 _) ?_
        refine V_istore_n (lv' := [(3, _), (2, _), (1, _), (0, _)]) C d_Mo_know_26 (by decide) rfl ?_
        refine V_pick [0, 1, 2, 3] rfl ?_
        exact inner (mn ι 47 (mn ι 59 k9) + 1) 0 _ (by omega) (by omega) (by rw [sqP_0]; exact hpre0)
  refine V_aload_n C d_Mo_know_0 rfl ?_
  refine V_iconst (v := 0) C d_Mo_know_1 (by decide) ?_
  refine V_putI (kx := 34) C d_Mo_know_2 cf_Mo (by decide) k_Mo_222 hM.al rfl rfl rfl rfl ?_
  refine V_iconst (v := 0) C d_Mo_know_5 (by decide) ?_
  refine V_istore_n (lv' := [(1, _), (0, _)]) C d_Mo_know_6 (by decide) rfl ?_
  refine V_pick [0, 1] rfl ?_
  refine V_io (setL_up rfl) ?_
  exact outer (c9 + 1) 0 _ (by omega) (by omega) knI_0
