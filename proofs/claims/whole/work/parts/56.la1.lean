section Am6
variable {p : Program} {l : Launch} {e : Env} {R : Room} {s : State} {m : MethodId} {args : Array Value} {below : List Frame} {meth : Method} {c : Code} {D : GD} {B tW : Nat} {α0 : Ad} {ν0 : Nu} {own : String} {cc : ByteArray} {nL : Nat} {rt : Option FieldType} {mn : String} {tab : List ExceptionTableEntry} {Q : State → Prop} {cells slots : Nat} {ν : Nu} {ι : Io} {ρ : Ro} {ℓ : Lo} {pc : Nat} {lv : List (Nat × SV)} {st : List SV}
theorem V_wf (k : Clo ν ρ → V p l e R s m args below meth c D B α0 ν0 nL Q cells slots ν ι ρ ℓ pc lv st) : V p l e R s m args below meth c D B α0 ν0 nL Q cells slots ν ι ρ ℓ pc lv st :=
  fun α H locs ls hR => k hR.2.2.1 α H locs ls hR
theorem V_al {n r i j : Nat} (hg : lget lv n = some (sR r i j)) (hr : r < 98) (k : ν r i j ≠ none → V p l e R s m args below meth c D B α0 ν0 nL Q cells slots ν ι ρ ℓ pc lv st) : V p l e R s m args below meth c D B α0 ν0 nL Q cells slots ν ι ρ ℓ pc lv st := by
  intro α H locs ls hR hS hl h0 h1 h2
  exact k ((lget_wf hg h1 (r, i, j) rfl).resolve_right (fun z => absurd z (Nat.not_le.mpr hr))) α H locs ls hR hS hl h0 h1 h2
theorem wfv_R {ν : Nu} {r i j : Nat} (h : ν r i j ≠ none) : wfv ν (sR r i j) := fun q hq => by cases hq; exact Or.inl h
theorem wfv_G {ν : Nu} {r i j : Nat} (h : 98 ≤ r) : wfv ν (sR r i j) := fun q hq => by cases hq; exact Or.inr h
theorem V_dr {ν1 νd : Nu} {ρ1 : Ro} (h1 : Clo ν1 ρ1) (hD : Dr ν1 ρ1 ν ρ νd) (h0 : ∀ r i j, ν0 r i j = none) (hlv : wfl νd (lv.map Prod.snd)) (hst : wfl νd st) (k : V p l e R s m args below meth c D B α0 ν0 nL Q cells slots νd ι ρ ℓ pc lv st) : V p l e R s m args below meth c D B α0 ν0 nL Q cells slots ν ι ρ ℓ pc lv st := by
  refine V_wf fun hc => ?_
  have hsub : ∀ r i j n, νd r i j = some n → ν r i j = some n := fun r i j n h => by
    rcases hD.1 r i j with z | z
    · exact z.symm.trans h
    · rw [z] at h; cases h
  exact V_forget hsub (fun r i j h => absurd (h0 r i j) h) (fun r i j n k q h1' h2 h3 h4 _ => hD.2.1 h1 hc r i j n k q h1' h2 h3 h4) (fun v hv _ => hst v hv) (fun q hq _ => hlv q.2 (List.mem_map.mpr ⟨q, hq, rfl⟩)) k
theorem V_lScr {b L : Nat} {xs : Nat → Int32} (C : Cx p l s m args meth c D B tW α0 own cc nL rt mn tab) (hd : decode cc pc = .ok (.arraylength, 1)) (hX : va_X b L xs s s.heap) (hb : b < B) (h98 : α0 98 0 0 = b) (k : V p l e R s m args below meth c D B α0 ν0 nL Q cells slots ν ι ρ ℓ (pc + 1) lv (sI (nI L) :: st)) : V p l e R s m args below meth c D B α0 ν0 nL Q cells slots ν ι ρ ℓ pc lv (sR 98 0 0 :: st) := by
  intro α H locs ls hR hS hl h0 h1 h2
  have e9 : α 98 0 0 = b := (h0.2 98 0 0 (Or.inl (by decide))).trans h98
  rw [List.map_cons, show enc α (sR 98 0 0) = .ref b from congrArg Value.ref e9]
  exact va_slen C.1 C.2.1 hX (Nat.lt_of_lt_of_le hb C.2.2.2.2.2.2.1) (Nat.not_le.mpr hb) hS hd (k α H locs ls hR hS hl h0 h1 (wfl_c wfv_I (wfl_t h2)))
theorem V_eScr {b L t : Nat} {xs : Nat → Int32} {x : Int32} (C : Cx p l s m args meth c D B tW α0 own cc nL rt mn tab) (hd : decode cc pc = .ok (.iaload, 1)) (hX : va_X b L xs s s.heap) (hb : b < B) (h98 : α0 98 0 0 = b) (hx : x = nI t) (ht : t < L) (hL : L ≤ 3584) (k : V p l e R s m args below meth c D B α0 ν0 nL Q cells slots ν ι ρ ℓ (pc + 1) lv (sI (xs t) :: st)) : V p l e R s m args below meth c D B α0 ν0 nL Q cells slots ν ι ρ ℓ pc lv (sI x :: sR 98 0 0 :: st) := by
  subst hx
  intro α H locs ls hR hS hl h0 h1 h2
  have e9 : α 98 0 0 = b := (h0.2 98 0 0 (Or.inl (by decide))).trans h98
  rw [List.map_cons, List.map_cons, show enc α (sR 98 0 0) = .ref b from congrArg Value.ref e9]
  have hk := k α H locs ls hR hS hl h0 h1 (wfl_c wfv_I (wfl_t (wfl_t h2)))
  refine va_sld C.1 C.2.1 hX (Nat.lt_of_lt_of_le hb C.2.2.2.2.2.2.1) (Nat.not_le.mpr hb) hS (vp_in_nI ht (by omega)) hd ?_
  rw [nI_clamp (by omega)]
  exact hk
end Am6
theorem Dr.n90 {ν ν2 νd : Nu} {ρ ρ2 : Ro} (hD : Dr ν ρ ν2 ρ2 νd) (h9 : ν2 90 0 0 = ν 90 0 0) (h : ν 90 0 0 = some 1) : νd 90 0 0 = some 1 := by
  rcases hD.1 90 0 0 with z | z
  · rw [z, h9, h]
  · exact absurd z (hD.2.2 90 0 0 (by rw [h]; exact fun q => by cases q))
theorem cmp0 {x : Int64} {b b' : Int32} (h : x = b.toInt64) (h2 : b' = b) : lg_cmp x b'.toInt64 = 0 := by
  subst h2
  subst h
  unfold lg_cmp
  simp
set_option maxHeartbeats 1000000 in
set_option maxRecDepth 10000 in
theorem c_La_object {ν : Nu} {ι : Io} {ρ : Ro} {ℓ : Lo} {N c9 w9 n9 z9 kn g9 : Nat} (hI : IV ν ι ρ N c9 w9 n9 z9 kn g9) (h90 : ν 90 0 0 = some 1) : Ct y_La_object (Cond.codeWith y_La_object b_La_object 3 (some .int) [(0, 8, 11, 13)] :: tb_) { frames := 7, cells := 60, slots := 2000, locals := 110 } [sR 9 0 0, sR 90 0 0] ν ι ρ ℓ (fun r9 ν1 ι1 ρ1 ℓ1 => ν1 90 0 0 = ν 90 0 0 ∧ ∃ k b, r9 = some (sI k) ∧ MC y_Mo_object (Cond.code y_Mo_object b_Mo_object 1 (some .int) :: tb_) { frames := 1, cells := 0, slots := 0, locals := 21 } [sR 10 0 0] k b ν ρ ν1 ι1 ρ1 ∧ (k = 0 → ℓ1 90 0 0 0 = b.toInt64)) (noX) := by
  refine Ct.ofVH (by decide) (Nat.le_of_ble_eq_true rfl) rfl ?_
  intro p l e s m args below meth c D B tW α0 Q C hQ
  refine V_aload_n C d_La_object_0 rfl ?_
  refine V_iconst (v := 0) C d_La_object_1 (by decide) ?_
  refine V_aload_n C d_La_object_2 rfl ?_
  refine V_callVH (as := []) C d_La_object_3 (c_OL_object hI) m_OL_object cf_OL k_La_7 (nn hI.os.n9) ⟨by decide, by decide⟩ (Nat.le_of_ble_eq_true rfl) ⟨by decide, by decide⟩ rfl ?_ ?_
  · rintro E ν' ι' ρ' ℓ' ⟨rfl, h9, k7, hk, hM⟩
    simp only [List.mem_cons, Prod.mk.injEq, List.not_mem_nil, or_false] at hk
    rcases hk with ⟨rfl, rfl⟩
    · refine ⟨[], (⟨0, 8, 11, 13⟩ : ExceptionTableEntry), [], 2, 12, rfl, (fun z hz => nomatch hz), rfl, by decide, k_La_13, by decide +kernel, by decide, Or.inr ⟨2, rfl, d_La_object_11, rfl⟩, ?_⟩
      refine V_iconst (v := 1) C d_La_object_12 (by decide) ?_
      refine V_iret C hQ (by decide) (by decide) d_La_object_13 rfl ?_
      exact ⟨h9, 1, 0, rfl, hM, fun z => absurd z (by decide)⟩
  · rintro _ ν' ι' ρ' _ ⟨rfl, h9, b, rfl, hM⟩
    dsimp only [Option.toList, List.cons_append, List.nil_append]
    refine V_i2l C d_La_object_6 ?_
    refine V_last C d_La_object_7 (by decide) rfl (h9.trans h90) (rfl : (0 : Int32) = nI 0) (by decide) rfl ?_
    refine V_goto (tgt := 14) C d_La_object_8 (by decide) ?_
    refine V_iconst (v := 0) C d_La_object_14 (by decide) ?_
    refine V_iret C hQ (by decide) (by decide) d_La_object_15 rfl ?_
    exact ⟨h9, 0, b, rfl, hM, fun _ => rfl⟩
set_option maxHeartbeats 1000000 in
set_option maxRecDepth 10000 in
theorem c_La_section {ν : Nu} {ι : Io} {ρ : Ro} {ℓ : Lo} {N c9 w9 n9 z9 kn g9 : Nat} (hI : IV ν ι ρ N c9 w9 n9 z9 kn g9) {x0 x1 x2 x3 : Int32} (h90 : ν 90 0 0 = some 1) : Ct y_La_section (Cond.codeWith y_La_section b_La_section 7 (some .int) [(0, 14, 17, 19), (0, 14, 21, 21), (0, 14, 25, 13)] :: tb_) { frames := 8, cells := 60, slots := 2000, locals := 137 } [sR 9 0 0, sI x0, sI x1, sI x2, sI x3, sR 90 0 0] ν ι ρ ℓ (fun r9 ν1 ι1 ρ1 ℓ1 => ν1 90 0 0 = ν 90 0 0 ∧ ∃ k b, r9 = some (sI k) ∧ MC y_Mo_section (Cond.code y_Mo_section b_Mo_section 5 (some .int) :: tb_) { frames := 2, cells := 0, slots := 0, locals := 44 } [sR 10 0 0, sI x0, sI x1, sI x2, sI x3] k b ν ρ ν1 ι1 ρ1 ∧ (k = 0 → ℓ1 90 0 0 0 = b.toInt64)) (noX) := by
  refine Ct.ofVH (by decide) (Nat.le_of_ble_eq_true rfl) rfl ?_
  intro p l e s m args below meth c D B tW α0 Q C hQ
  refine V_aload C d_La_section_0 rfl ?_
  refine V_iconst (v := 0) C d_La_section_2 (by decide) ?_
  refine V_aload_n C d_La_section_3 rfl ?_
  refine V_iload_n C d_La_section_4 rfl ?_
  refine V_iload_n C d_La_section_5 rfl ?_
  refine V_iload_n C d_La_section_6 rfl ?_
  refine V_iload C d_La_section_7 rfl ?_
  refine V_callVH (as := [_, _, _, _]) C d_La_section_9 (c_OL_section hI) m_OL_section cf_OL k_La_15 (nn hI.os.n9) ⟨by decide, by decide⟩ (Nat.le_of_ble_eq_true rfl) ⟨by decide, by decide⟩ rfl ?_ ?_
  · rintro E ν' ι' ρ' ℓ' ⟨rfl, h9, k7, hk, hM⟩
    simp only [List.mem_cons, Prod.mk.injEq, List.not_mem_nil, or_false] at hk
    rcases hk with ⟨rfl, rfl⟩ | ⟨rfl, rfl⟩ | ⟨rfl, rfl⟩
    · refine ⟨[], (⟨0, 14, 17, 19⟩ : ExceptionTableEntry), [(⟨0, 14, 21, 21⟩ : ExceptionTableEntry), (⟨0, 14, 25, 13⟩ : ExceptionTableEntry)], 6, 19, rfl, (fun z hz => nomatch hz), rfl, by decide, k_La_19, by decide +kernel, by decide, Or.inl ⟨d_La_section_17, rfl⟩, ?_⟩
      refine V_iconst (v := 1) C d_La_section_19 (by decide) ?_
      refine V_iret C hQ (by decide) (by decide) d_La_section_20 rfl ?_
      exact ⟨h9, 1, 0, rfl, hM, fun z => absurd z (by decide)⟩
    · refine ⟨[(⟨0, 14, 17, 19⟩ : ExceptionTableEntry)], (⟨0, 14, 21, 21⟩ : ExceptionTableEntry), [(⟨0, 14, 25, 13⟩ : ExceptionTableEntry)], 6, 23, rfl, (by intro z hz; simp only [List.mem_cons, List.not_mem_nil, or_false] at hz; rcases hz with rfl; exact ⟨by decide, _, k_La_19, by decide +kernel⟩), rfl, by decide, k_La_21, by decide +kernel, by decide, Or.inl ⟨d_La_section_21, rfl⟩, ?_⟩
      refine V_iconst (v := 2) C d_La_section_23 (by decide) ?_
      refine V_iret C hQ (by decide) (by decide) d_La_section_24 rfl ?_
      exact ⟨h9, 2, 0, rfl, hM, fun z => absurd z (by decide)⟩
    · refine ⟨[(⟨0, 14, 17, 19⟩ : ExceptionTableEntry), (⟨0, 14, 21, 21⟩ : ExceptionTableEntry)], (⟨0, 14, 25, 13⟩ : ExceptionTableEntry), [], 6, 27, rfl, (by intro z hz; simp only [List.mem_cons, List.not_mem_nil, or_false] at hz; rcases hz with rfl | rfl; exact ⟨by decide, _, k_La_19, by decide +kernel⟩; exact ⟨by decide, _, k_La_21, by decide +kernel⟩), rfl, by decide, k_La_13, by decide +kernel, by decide, Or.inl ⟨d_La_section_25, rfl⟩, ?_⟩
      refine V_iconst (v := 3) C d_La_section_27 (by decide) ?_
      refine V_iret C hQ (by decide) (by decide) d_La_section_28 rfl ?_
      exact ⟨h9, 3, 0, rfl, hM, fun z => absurd z (by decide)⟩
  · rintro _ ν' ι' ρ' _ ⟨rfl, h9, b, rfl, hM⟩
    dsimp only [Option.toList, List.cons_append, List.nil_append]
    refine V_i2l C d_La_section_12 ?_
    refine V_last C d_La_section_13 (by decide) rfl (h9.trans h90) (rfl : (0 : Int32) = nI 0) (by decide) rfl ?_
    refine V_goto (tgt := 29) C d_La_section_14 (by decide) ?_
    refine V_iconst (v := 0) C d_La_section_29 (by decide) ?_
    refine V_iret C hQ (by decide) (by decide) d_La_section_30 rfl ?_
    exact ⟨h9, 0, b, rfl, hM, fun _ => rfl⟩
set_option maxHeartbeats 1000000 in
set_option maxRecDepth 10000 in
theorem c_La_bytes {ν : Nu} {ι : Io} {ρ : Ro} {ℓ : Lo} {N c9 w9 n9 z9 kn g9 : Nat} (hI : IV ν ι ρ N c9 w9 n9 z9 kn g9) {x0 x1 x2 x3 : Int32} (h90 : ν 90 0 0 = some 1) : Ct y_La_bytes (Cond.codeWith y_La_bytes b_La_bytes 7 (some .int) [(0, 14, 17, 19), (0, 14, 21, 21)] :: tb_) { frames := 8, cells := 60, slots := 2000, locals := 137 } [sR 9 0 0, sI x0, sI x1, sI x2, sI x3, sR 90 0 0] ν ι ρ ℓ (fun r9 ν1 ι1 ρ1 ℓ1 => ν1 90 0 0 = ν 90 0 0 ∧ ∃ k b, r9 = some (sI k) ∧ MC y_Mo_bytes (Cond.code y_Mo_bytes b_Mo_bytes 8 (some .int) :: tb_) { frames := 2, cells := 0, slots := 0, locals := 44 } [sR 10 0 0, sI x0, sI x1, sI x2, sI x3] k b ν ρ ν1 ι1 ρ1 ∧ (k = 0 → ℓ1 90 0 0 0 = b.toInt64)) (noX) := by
  refine Ct.ofVH (by decide) (Nat.le_of_ble_eq_true rfl) rfl ?_
  intro p l e s m args below meth c D B tW α0 Q C hQ
  refine V_aload C d_La_bytes_0 rfl ?_
  refine V_iconst (v := 0) C d_La_bytes_2 (by decide) ?_
  refine V_aload_n C d_La_bytes_3 rfl ?_
  refine V_iload_n C d_La_bytes_4 rfl ?_
  refine V_iload_n C d_La_bytes_5 rfl ?_
  refine V_iload_n C d_La_bytes_6 rfl ?_
  refine V_iload C d_La_bytes_7 rfl ?_
  refine V_callVH (as := [_, _, _, _]) C d_La_bytes_9 (c_OL_bytes hI) m_OL_bytes cf_OL k_La_23 (nn hI.os.n9) ⟨by decide, by decide⟩ (Nat.le_of_ble_eq_true rfl) ⟨by decide, by decide⟩ rfl ?_ ?_
  · rintro E ν' ι' ρ' ℓ' ⟨rfl, h9, k7, hk, hM⟩
    simp only [List.mem_cons, Prod.mk.injEq, List.not_mem_nil, or_false] at hk
    rcases hk with ⟨rfl, rfl⟩ | ⟨rfl, rfl⟩
    · refine ⟨[], (⟨0, 14, 17, 19⟩ : ExceptionTableEntry), [(⟨0, 14, 21, 21⟩ : ExceptionTableEntry)], 6, 19, rfl, (fun z hz => nomatch hz), rfl, by decide, k_La_19, by decide +kernel, by decide, Or.inl ⟨d_La_bytes_17, rfl⟩, ?_⟩
      refine V_iconst (v := 1) C d_La_bytes_19 (by decide) ?_
      refine V_iret C hQ (by decide) (by decide) d_La_bytes_20 rfl ?_
      exact ⟨h9, 1, 0, rfl, hM, fun z => absurd z (by decide)⟩
    · refine ⟨[(⟨0, 14, 17, 19⟩ : ExceptionTableEntry)], (⟨0, 14, 21, 21⟩ : ExceptionTableEntry), [], 6, 23, rfl, (by intro z hz; simp only [List.mem_cons, List.not_mem_nil, or_false] at hz; rcases hz with rfl; exact ⟨by decide, _, k_La_19, by decide +kernel⟩), rfl, by decide, k_La_21, by decide +kernel, by decide, Or.inl ⟨d_La_bytes_21, rfl⟩, ?_⟩
      refine V_iconst (v := 2) C d_La_bytes_23 (by decide) ?_
      refine V_iret C hQ (by decide) (by decide) d_La_bytes_24 rfl ?_
      exact ⟨h9, 2, 0, rfl, hM, fun z => absurd z (by decide)⟩
  · rintro _ ν' ι' ρ' _ ⟨rfl, h9, b, rfl, hM⟩
    dsimp only [Option.toList, List.cons_append, List.nil_append]
    refine V_i2l C d_La_bytes_12 ?_
    refine V_last C d_La_bytes_13 (by decide) rfl (h9.trans h90) (rfl : (0 : Int32) = nI 0) (by decide) rfl ?_
    refine V_goto (tgt := 25) C d_La_bytes_14 (by decide) ?_
    refine V_iconst (v := 0) C d_La_bytes_25 (by decide) ?_
    refine V_iret C hQ (by decide) (by decide) d_La_bytes_26 rfl ?_
    exact ⟨h9, 0, b, rfl, hM, fun _ => rfl⟩
set_option maxHeartbeats 1000000 in
set_option maxRecDepth 10000 in
theorem c_La_name {ν : Nu} {ι : Io} {ρ : Ro} {ℓ : Lo} {N c9 w9 n9 z9 kn g9 : Nat} (hI : IV ν ι ρ N c9 w9 n9 z9 kn g9) {x0 x1 x2 x3 x4 : Int32} (h90 : ν 90 0 0 = some 1) : Ct y_La_name (Cond.codeWith y_La_name b_La_name 8 (some .int) [(0, 16, 19, 19), (0, 16, 23, 21), (0, 16, 27, 13)] :: tb_) { frames := 8, cells := 60, slots := 2000, locals := 138 } [sR 9 0 0, sI x0, sI x1, sI x2, sI x3, sI x4, sR 90 0 0] ν ι ρ ℓ (fun r9 ν1 ι1 ρ1 ℓ1 => ν1 90 0 0 = ν 90 0 0 ∧ ∃ k b, r9 = some (sI k) ∧ MC y_Mo_name (Cond.code y_Mo_name b_Mo_name 6 (some .int) :: tb_) { frames := 3, cells := 0, slots := 0, locals := 69 } [sR 10 0 0, sI x0, sI x1, sI x2, sI x3, sI x4] k b ν ρ ν1 ι1 ρ1 ∧ (k = 0 → ℓ1 90 0 0 0 = b.toInt64)) (noX) := by
  refine Ct.ofVH (by decide) (Nat.le_of_ble_eq_true rfl) rfl ?_
  intro p l e s m args below meth c D B tW α0 Q C hQ
  refine V_aload C d_La_name_0 rfl ?_
  refine V_iconst (v := 0) C d_La_name_2 (by decide) ?_
  refine V_aload_n C d_La_name_3 rfl ?_
  refine V_iload_n C d_La_name_4 rfl ?_
  refine V_iload_n C d_La_name_5 rfl ?_
  refine V_iload_n C d_La_name_6 rfl ?_
  refine V_iload C d_La_name_7 rfl ?_
  refine V_iload C d_La_name_9 rfl ?_
  refine V_callVH (as := [_, _, _, _, _]) C d_La_name_11 (c_OL_name hI) m_OL_name cf_OL k_La_26 (nn hI.os.n9) ⟨by decide, by decide⟩ (Nat.le_of_ble_eq_true rfl) ⟨by decide, by decide⟩ rfl ?_ ?_
  · rintro E ν' ι' ρ' ℓ' ⟨rfl, h9, k7, hk, hM⟩
    simp only [List.mem_cons, Prod.mk.injEq, List.not_mem_nil, or_false] at hk
    rcases hk with ⟨rfl, rfl⟩ | ⟨rfl, rfl⟩ | ⟨rfl, rfl⟩
    · refine ⟨[], (⟨0, 16, 19, 19⟩ : ExceptionTableEntry), [(⟨0, 16, 23, 21⟩ : ExceptionTableEntry), (⟨0, 16, 27, 13⟩ : ExceptionTableEntry)], 7, 21, rfl, (fun z hz => nomatch hz), rfl, by decide, k_La_19, by decide +kernel, by decide, Or.inl ⟨d_La_name_19, rfl⟩, ?_⟩
      refine V_iconst (v := 1) C d_La_name_21 (by decide) ?_
      refine V_iret C hQ (by decide) (by decide) d_La_name_22 rfl ?_
      exact ⟨h9, 1, 0, rfl, hM, fun z => absurd z (by decide)⟩
    · refine ⟨[(⟨0, 16, 19, 19⟩ : ExceptionTableEntry)], (⟨0, 16, 23, 21⟩ : ExceptionTableEntry), [(⟨0, 16, 27, 13⟩ : ExceptionTableEntry)], 7, 25, rfl, (by intro z hz; simp only [List.mem_cons, List.not_mem_nil, or_false] at hz; rcases hz with rfl; exact ⟨by decide, _, k_La_19, by decide +kernel⟩), rfl, by decide, k_La_21, by decide +kernel, by decide, Or.inl ⟨d_La_name_23, rfl⟩, ?_⟩
      refine V_iconst (v := 2) C d_La_name_25 (by decide) ?_
      refine V_iret C hQ (by decide) (by decide) d_La_name_26 rfl ?_
      exact ⟨h9, 2, 0, rfl, hM, fun z => absurd z (by decide)⟩
    · refine ⟨[(⟨0, 16, 19, 19⟩ : ExceptionTableEntry), (⟨0, 16, 23, 21⟩ : ExceptionTableEntry)], (⟨0, 16, 27, 13⟩ : ExceptionTableEntry), [], 7, 29, rfl, (by intro z hz; simp only [List.mem_cons, List.not_mem_nil, or_false] at hz; rcases hz with rfl | rfl; exact ⟨by decide, _, k_La_19, by decide +kernel⟩; exact ⟨by decide, _, k_La_21, by decide +kernel⟩), rfl, by decide, k_La_13, by decide +kernel, by decide, Or.inl ⟨d_La_name_27, rfl⟩, ?_⟩
      refine V_iconst (v := 3) C d_La_name_29 (by decide) ?_
      refine V_iret C hQ (by decide) (by decide) d_La_name_30 rfl ?_
      exact ⟨h9, 3, 0, rfl, hM, fun z => absurd z (by decide)⟩
  · rintro _ ν' ι' ρ' _ ⟨rfl, h9, b, rfl, hM⟩
    dsimp only [Option.toList, List.cons_append, List.nil_append]
    refine V_i2l C d_La_name_14 ?_
    refine V_last C d_La_name_15 (by decide) rfl (h9.trans h90) (rfl : (0 : Int32) = nI 0) (by decide) rfl ?_
    refine V_goto (tgt := 31) C d_La_name_16 (by decide) ?_
    refine V_iconst (v := 0) C d_La_name_31 (by decide) ?_
    refine V_iret C hQ (by decide) (by decide) d_La_name_32 rfl ?_
    exact ⟨h9, 0, b, rfl, hM, fun _ => rfl⟩
set_option maxHeartbeats 1000000 in
set_option maxRecDepth 10000 in
theorem c_La_reference {ν : Nu} {ι : Io} {ρ : Ro} {ℓ : Lo} {N c9 w9 n9 z9 kn g9 : Nat} (hI : IV ν ι ρ N c9 w9 n9 z9 kn g9) {x0 x1 x2 x3 x4 x5 : Int32} (h90 : ν 90 0 0 = some 1) : Ct y_La_reference (Cond.codeWith y_La_reference b_La_reference 9 (some .int) [(0, 18, 21, 19), (0, 18, 25, 21), (0, 18, 29, 13)] :: tb_) { frames := 8, cells := 60, slots := 2000, locals := 139 } [sR 9 0 0, sI x0, sI x1, sI x2, sI x3, sI x4, sI x5, sR 90 0 0] ν ι ρ ℓ (fun r9 ν1 ι1 ρ1 ℓ1 => ν1 90 0 0 = ν 90 0 0 ∧ ∃ k b, r9 = some (sI k) ∧ MC y_Mo_reference (Cond.code y_Mo_reference b_Mo_reference 7 (some .int) :: tb_) { frames := 3, cells := 0, slots := 0, locals := 69 } [sR 10 0 0, sI x0, sI x1, sI x2, sI x3, sI x4, sI x5] k b ν ρ ν1 ι1 ρ1 ∧ (k = 0 → ℓ1 90 0 0 0 = b.toInt64)) (noX) := by
  refine Ct.ofVH (by decide) (Nat.le_of_ble_eq_true rfl) rfl ?_
  intro p l e s m args below meth c D B tW α0 Q C hQ
  refine V_aload C d_La_reference_0 rfl ?_
  refine V_iconst (v := 0) C d_La_reference_2 (by decide) ?_
  refine V_aload_n C d_La_reference_3 rfl ?_
  refine V_iload_n C d_La_reference_4 rfl ?_
  refine V_iload_n C d_La_reference_5 rfl ?_
  refine V_iload_n C d_La_reference_6 rfl ?_
  refine V_iload C d_La_reference_7 rfl ?_
  refine V_iload C d_La_reference_9 rfl ?_
  refine V_iload C d_La_reference_11 rfl ?_
  refine V_callVH (as := [_, _, _, _, _, _]) C d_La_reference_13 (c_OL_reference hI) m_OL_reference cf_OL k_La_30 (nn hI.os.n9) ⟨by decide, by decide⟩ (Nat.le_of_ble_eq_true rfl) ⟨by decide, by decide⟩ rfl ?_ ?_
  · rintro E ν' ι' ρ' ℓ' ⟨rfl, h9, k7, hk, hM⟩
    simp only [List.mem_cons, Prod.mk.injEq, List.not_mem_nil, or_false] at hk
    rcases hk with ⟨rfl, rfl⟩ | ⟨rfl, rfl⟩ | ⟨rfl, rfl⟩
    · refine ⟨[], (⟨0, 18, 21, 19⟩ : ExceptionTableEntry), [(⟨0, 18, 25, 21⟩ : ExceptionTableEntry), (⟨0, 18, 29, 13⟩ : ExceptionTableEntry)], 8, 23, rfl, (fun z hz => nomatch hz), rfl, by decide, k_La_19, by decide +kernel, by decide, Or.inl ⟨d_La_reference_21, rfl⟩, ?_⟩
      refine V_iconst (v := 1) C d_La_reference_23 (by decide) ?_
      refine V_iret C hQ (by decide) (by decide) d_La_reference_24 rfl ?_
      exact ⟨h9, 1, 0, rfl, hM, fun z => absurd z (by decide)⟩
    · refine ⟨[(⟨0, 18, 21, 19⟩ : ExceptionTableEntry)], (⟨0, 18, 25, 21⟩ : ExceptionTableEntry), [(⟨0, 18, 29, 13⟩ : ExceptionTableEntry)], 8, 27, rfl, (by intro z hz; simp only [List.mem_cons, List.not_mem_nil, or_false] at hz; rcases hz with rfl; exact ⟨by decide, _, k_La_19, by decide +kernel⟩), rfl, by decide, k_La_21, by decide +kernel, by decide, Or.inl ⟨d_La_reference_25, rfl⟩, ?_⟩
      refine V_iconst (v := 2) C d_La_reference_27 (by decide) ?_
      refine V_iret C hQ (by decide) (by decide) d_La_reference_28 rfl ?_
      exact ⟨h9, 2, 0, rfl, hM, fun z => absurd z (by decide)⟩
    · refine ⟨[(⟨0, 18, 21, 19⟩ : ExceptionTableEntry), (⟨0, 18, 25, 21⟩ : ExceptionTableEntry)], (⟨0, 18, 29, 13⟩ : ExceptionTableEntry), [], 8, 31, rfl, (by intro z hz; simp only [List.mem_cons, List.not_mem_nil, or_false] at hz; rcases hz with rfl | rfl; exact ⟨by decide, _, k_La_19, by decide +kernel⟩; exact ⟨by decide, _, k_La_21, by decide +kernel⟩), rfl, by decide, k_La_13, by decide +kernel, by decide, Or.inl ⟨d_La_reference_29, rfl⟩, ?_⟩
      refine V_iconst (v := 3) C d_La_reference_31 (by decide) ?_
      refine V_iret C hQ (by decide) (by decide) d_La_reference_32 rfl ?_
      exact ⟨h9, 3, 0, rfl, hM, fun z => absurd z (by decide)⟩
  · rintro _ ν' ι' ρ' _ ⟨rfl, h9, b, rfl, hM⟩
    dsimp only [Option.toList, List.cons_append, List.nil_append]
    refine V_i2l C d_La_reference_16 ?_
    refine V_last C d_La_reference_17 (by decide) rfl (h9.trans h90) (rfl : (0 : Int32) = nI 0) (by decide) rfl ?_
    refine V_goto (tgt := 33) C d_La_reference_18 (by decide) ?_
    refine V_iconst (v := 0) C d_La_reference_33 (by decide) ?_
    refine V_iret C hQ (by decide) (by decide) d_La_reference_34 rfl ?_
    exact ⟨h9, 0, b, rfl, hM, fun _ => rfl⟩
set_option maxHeartbeats 1000000 in
set_option maxRecDepth 10000 in
theorem c_La_choose {ν : Nu} {ι : Io} {ρ : Ro} {ℓ : Lo} {N c9 w9 n9 z9 kn g9 : Nat} (hI : IV ν ι ρ N c9 w9 n9 z9 kn g9) {x0 : Int32} (h90 : ν 90 0 0 = some 1) : Ct y_La_choose (Cond.codeWith y_La_choose b_La_choose 4 (some .int) [(0, 9, 12, 19), (0, 9, 15, 21)] :: tb_) { frames := 8, cells := 60, slots := 2000, locals := 134 } [sR 9 0 0, sI x0, sR 90 0 0] ν ι ρ ℓ (fun r9 ν1 ι1 ρ1 ℓ1 => ν1 90 0 0 = ν 90 0 0 ∧ ∃ k b, r9 = some (sI k) ∧ MC y_Mo_choose (Cond.code y_Mo_choose b_Mo_choose 3 (some .int) :: tb_) { frames := 2, cells := 0, slots := 0, locals := 43 } [sR 10 0 0, sI x0] k b ν ρ ν1 ι1 ρ1 ∧ (k = 0 → ℓ1 90 0 0 0 = b.toInt64)) (noX) := by
  refine Ct.ofVH (by decide) (Nat.le_of_ble_eq_true rfl) rfl ?_
  intro p l e s m args below meth c D B tW α0 Q C hQ
  refine V_aload_n C d_La_choose_0 rfl ?_
  refine V_iconst (v := 0) C d_La_choose_1 (by decide) ?_
  refine V_aload_n C d_La_choose_2 rfl ?_
  refine V_iload_n C d_La_choose_3 rfl ?_
  refine V_callVH (as := [_]) C d_La_choose_4 (c_OL_choose hI) m_OL_choose cf_OL k_La_34 (nn hI.os.n9) ⟨by decide, by decide⟩ (Nat.le_of_ble_eq_true rfl) ⟨by decide, by decide⟩ rfl ?_ ?_
  · rintro E ν' ι' ρ' ℓ' ⟨rfl, h9, k7, hk, hM⟩
    simp only [List.mem_cons, Prod.mk.injEq, List.not_mem_nil, or_false] at hk
    rcases hk with ⟨rfl, rfl⟩ | ⟨rfl, rfl⟩
    · refine ⟨[], (⟨0, 9, 12, 19⟩ : ExceptionTableEntry), [(⟨0, 9, 15, 21⟩ : ExceptionTableEntry)], 3, 13, rfl, (fun z hz => nomatch hz), rfl, by decide, k_La_19, by decide +kernel, by decide, Or.inr ⟨3, rfl, d_La_choose_12, rfl⟩, ?_⟩
      refine V_iconst (v := 1) C d_La_choose_13 (by decide) ?_
      refine V_iret C hQ (by decide) (by decide) d_La_choose_14 rfl ?_
      exact ⟨h9, 1, 0, rfl, hM, fun z => absurd z (by decide)⟩
    · refine ⟨[(⟨0, 9, 12, 19⟩ : ExceptionTableEntry)], (⟨0, 9, 15, 21⟩ : ExceptionTableEntry), [], 3, 16, rfl, (by intro z hz; simp only [List.mem_cons, List.not_mem_nil, or_false] at hz; rcases hz with rfl; exact ⟨by decide, _, k_La_19, by decide +kernel⟩), rfl, by decide, k_La_21, by decide +kernel, by decide, Or.inr ⟨3, rfl, d_La_choose_15, rfl⟩, ?_⟩
      refine V_iconst (v := 2) C d_La_choose_16 (by decide) ?_
      refine V_iret C hQ (by decide) (by decide) d_La_choose_17 rfl ?_
      exact ⟨h9, 2, 0, rfl, hM, fun z => absurd z (by decide)⟩
  · rintro _ ν' ι' ρ' _ ⟨rfl, h9, b, rfl, hM⟩
    dsimp only [Option.toList, List.cons_append, List.nil_append]
    refine V_i2l C d_La_choose_7 ?_
    refine V_last C d_La_choose_8 (by decide) rfl (h9.trans h90) (rfl : (0 : Int32) = nI 0) (by decide) rfl ?_
    refine V_goto (tgt := 18) C d_La_choose_9 (by decide) ?_
    refine V_iconst (v := 0) C d_La_choose_18 (by decide) ?_
    refine V_iret C hQ (by decide) (by decide) d_La_choose_19 rfl ?_
    exact ⟨h9, 0, b, rfl, hM, fun _ => rfl⟩
set_option maxHeartbeats 1000000 in
set_option maxRecDepth 10000 in
theorem c_La_link {ν : Nu} {ι : Io} {ρ : Ro} {ℓ : Lo} {N c9 w9 n9 z9 kn g9 : Nat} (hI : IV ν ι ρ N c9 w9 n9 z9 kn g9) {x0 x1 : Int32} (h90 : ν 90 0 0 = some 1) : Ct y_La_link (Cond.codeWith y_La_link b_La_link 5 (some .int) [(0, 10, 13, 21), (0, 10, 17, 42), (0, 10, 21, 13)] :: tb_) { frames := 7, cells := 60, slots := 2000, locals := 175 } [sR 9 0 0, sI x0, sI x1, sR 90 0 0] ν ι ρ ℓ (fun r9 ν1 ι1 ρ1 ℓ1 => ν1 90 0 0 = ν 90 0 0 ∧ ∃ k b, r9 = some (sI k) ∧ MC y_Mo_link (Cond.code y_Mo_link b_Mo_link 5 (some .int) :: tb_) { frames := 4, cells := 0, slots := 0, locals := 101 } [sR 10 0 0, sI x0, sI x1] k b ν ρ ν1 ι1 ρ1 ∧ (k = 0 → ℓ1 90 0 0 0 = b.toInt64)) (noX) := by
  refine Ct.ofVH (by decide) (Nat.le_of_ble_eq_true rfl) rfl ?_
  intro p l e s m args below meth c D B tW α0 Q C hQ
  refine V_aload_n C d_La_link_0 rfl ?_
  refine V_iconst (v := 0) C d_La_link_1 (by decide) ?_
  refine V_aload_n C d_La_link_2 rfl ?_
  refine V_iload_n C d_La_link_3 rfl ?_
  refine V_iload_n C d_La_link_4 rfl ?_
  refine V_callVH (as := [_, _]) C d_La_link_5 (c_OL_link hI) m_OL_link cf_OL k_La_38 (nn hI.os.n9) ⟨by decide, by decide⟩ (Nat.le_of_ble_eq_true rfl) ⟨by decide, by decide⟩ rfl ?_ ?_
  · rintro E ν' ι' ρ' ℓ' ⟨rfl, h9, k7, hk, hM⟩
    simp only [List.mem_cons, Prod.mk.injEq, List.not_mem_nil, or_false] at hk
    rcases hk with ⟨rfl, rfl⟩ | ⟨rfl, rfl⟩ | ⟨rfl, rfl⟩
    · refine ⟨[], (⟨0, 10, 13, 21⟩ : ExceptionTableEntry), [(⟨0, 10, 17, 42⟩ : ExceptionTableEntry), (⟨0, 10, 21, 13⟩ : ExceptionTableEntry)], 4, 15, rfl, (fun z hz => nomatch hz), rfl, by decide, k_La_21, by decide +kernel, by decide, Or.inl ⟨d_La_link_13, rfl⟩, ?_⟩
      refine V_iconst (v := 1) C d_La_link_15 (by decide) ?_
      refine V_iret C hQ (by decide) (by decide) d_La_link_16 rfl ?_
      exact ⟨h9, 1, 0, rfl, hM, fun z => absurd z (by decide)⟩
    · refine ⟨[(⟨0, 10, 13, 21⟩ : ExceptionTableEntry)], (⟨0, 10, 17, 42⟩ : ExceptionTableEntry), [(⟨0, 10, 21, 13⟩ : ExceptionTableEntry)], 4, 19, rfl, (by intro z hz; simp only [List.mem_cons, List.not_mem_nil, or_false] at hz; rcases hz with rfl; exact ⟨by decide, _, k_La_21, by decide +kernel⟩), rfl, by decide, k_La_42, by decide +kernel, by decide, Or.inl ⟨d_La_link_17, rfl⟩, ?_⟩
      refine V_iconst (v := 2) C d_La_link_19 (by decide) ?_
      refine V_iret C hQ (by decide) (by decide) d_La_link_20 rfl ?_
      exact ⟨h9, 2, 0, rfl, hM, fun z => absurd z (by decide)⟩
    · refine ⟨[(⟨0, 10, 13, 21⟩ : ExceptionTableEntry), (⟨0, 10, 17, 42⟩ : ExceptionTableEntry)], (⟨0, 10, 21, 13⟩ : ExceptionTableEntry), [], 4, 23, rfl, (by intro z hz; simp only [List.mem_cons, List.not_mem_nil, or_false] at hz; rcases hz with rfl | rfl; exact ⟨by decide, _, k_La_21, by decide +kernel⟩; exact ⟨by decide, _, k_La_42, by decide +kernel⟩), rfl, by decide, k_La_13, by decide +kernel, by decide, Or.inl ⟨d_La_link_21, rfl⟩, ?_⟩
      refine V_iconst (v := 3) C d_La_link_23 (by decide) ?_
      refine V_iret C hQ (by decide) (by decide) d_La_link_24 rfl ?_
      exact ⟨h9, 3, 0, rfl, hM, fun z => absurd z (by decide)⟩
  · rintro _ ν' ι' ρ' _ ⟨rfl, h9, b, rfl, hM⟩
    dsimp only [Option.toList, List.cons_append, List.nil_append]
    refine V_i2l C d_La_link_8 ?_
    refine V_last C d_La_link_9 (by decide) rfl (h9.trans h90) (rfl : (0 : Int32) = nI 0) (by decide) rfl ?_
    refine V_goto (tgt := 25) C d_La_link_10 (by decide) ?_
    refine V_iconst (v := 0) C d_La_link_25 (by decide) ?_
    refine V_iret C hQ (by decide) (by decide) d_La_link_26 rfl ?_
    exact ⟨h9, 0, b, rfl, hM, fun _ => rfl⟩
set_option maxHeartbeats 1000000 in
set_option maxRecDepth 10000 in
theorem c_La_fault {ν : Nu} {ι : Io} {ρ : Ro} {ℓ : Lo} {N c9 w9 n9 z9 kn g9 : Nat} (hI : IV ν ι ρ N c9 w9 n9 z9 kn g9) {x0 : Int32} (h90 : ν 90 0 0 = some 1) : Ct y_La_fault (Cond.codeWith y_La_fault b_La_fault 4 (some .int) [(0, 9, 12, 19)] :: tb_) { frames := 7, cells := 60, slots := 2000, locals := 111 } [sR 9 0 0, sI x0, sR 90 0 0] ν ι ρ ℓ (fun r9 ν1 ι1 ρ1 ℓ1 => ν1 90 0 0 = ν 90 0 0 ∧ ∃ k b, r9 = some (sI k) ∧ MC y_Mo_fault (Cond.code y_Mo_fault b_Mo_fault 2 (some .int) :: tb_) { frames := 1, cells := 0, slots := 0, locals := 21 } [sR 10 0 0, sI x0] k b ν ρ ν1 ι1 ρ1 ∧ (k = 0 → ℓ1 90 0 0 0 = b.toInt64)) (noX) := by
  refine Ct.ofVH (by decide) (Nat.le_of_ble_eq_true rfl) rfl ?_
  intro p l e s m args below meth c D B tW α0 Q C hQ
  refine V_aload_n C d_La_fault_0 rfl ?_
  refine V_iconst (v := 0) C d_La_fault_1 (by decide) ?_
  refine V_aload_n C d_La_fault_2 rfl ?_
  refine V_iload_n C d_La_fault_3 rfl ?_
  refine V_callVH (as := [_]) C d_La_fault_4 (c_OL_fault hI) m_OL_fault cf_OL k_La_44 (nn hI.os.n9) ⟨by decide, by decide⟩ (Nat.le_of_ble_eq_true rfl) ⟨by decide, by decide⟩ rfl ?_ ?_
  · rintro E ν' ι' ρ' ℓ' ⟨rfl, h9, k7, hk, hM⟩
    simp only [List.mem_cons, Prod.mk.injEq, List.not_mem_nil, or_false] at hk
    rcases hk with ⟨rfl, rfl⟩
    · refine ⟨[], (⟨0, 9, 12, 19⟩ : ExceptionTableEntry), [], 3, 13, rfl, (fun z hz => nomatch hz), rfl, by decide, k_La_19, by decide +kernel, by decide, Or.inr ⟨3, rfl, d_La_fault_12, rfl⟩, ?_⟩
      refine V_iconst (v := 1) C d_La_fault_13 (by decide) ?_
      refine V_iret C hQ (by decide) (by decide) d_La_fault_14 rfl ?_
      exact ⟨h9, 1, 0, rfl, hM, fun z => absurd z (by decide)⟩
  · rintro _ ν' ι' ρ' _ ⟨rfl, h9, b, rfl, hM⟩
    dsimp only [Option.toList, List.cons_append, List.nil_append]
    refine V_i2l C d_La_fault_7 ?_
    refine V_last C d_La_fault_8 (by decide) rfl (h9.trans h90) (rfl : (0 : Int32) = nI 0) (by decide) rfl ?_
    refine V_goto (tgt := 15) C d_La_fault_9 (by decide) ?_
    refine V_iconst (v := 0) C d_La_fault_15 (by decide) ?_
    refine V_iret C hQ (by decide) (by decide) d_La_fault_16 rfl ?_
    exact ⟨h9, 0, b, rfl, hM, fun _ => rfl⟩
set_option maxHeartbeats 1000000 in
set_option maxRecDepth 10000 in
theorem c_La_image {ν : Nu} {ι : Io} {ρ : Ro} {ℓ : Lo} {N c9 w9 n9 z9 kn g9 : Nat} (hI : IV ν ι ρ N c9 w9 n9 z9 kn g9) {x0 : Int32} (h90 : ν 90 0 0 = some 1) : Ct y_La_image (Cond.codeWith y_La_image b_La_image 4 (some .int) [(0, 9, 12, 19)] :: tb_) { frames := 7, cells := 60, slots := 2000, locals := 111 } [sR 9 0 0, sI x0, sR 90 0 0] ν ι ρ ℓ (fun r9 ν1 ι1 ρ1 ℓ1 => ν1 90 0 0 = ν 90 0 0 ∧ ∃ k b, r9 = some (sI k) ∧ MC y_Mo_image (Cond.code y_Mo_image b_Mo_image 2 (some .int) :: tb_) { frames := 1, cells := 0, slots := 0, locals := 22 } [sR 10 0 0, sI x0] k b ν ρ ν1 ι1 ρ1 ∧ (k = 0 → ℓ1 90 0 0 0 = b.toInt64)) (noX) := by
  refine Ct.ofVH (by decide) (Nat.le_of_ble_eq_true rfl) rfl ?_
  intro p l e s m args below meth c D B tW α0 Q C hQ
  refine V_aload_n C d_La_image_0 rfl ?_
  refine V_iconst (v := 0) C d_La_image_1 (by decide) ?_
  refine V_aload_n C d_La_image_2 rfl ?_
  refine V_iload_n C d_La_image_3 rfl ?_
  refine V_callVH (as := [_]) C d_La_image_4 (c_OL_image hI) m_OL_image cf_OL k_La_47 (nn hI.os.n9) ⟨by decide, by decide⟩ (Nat.le_of_ble_eq_true rfl) ⟨by decide, by decide⟩ rfl ?_ ?_
  · rintro E ν' ι' ρ' ℓ' ⟨rfl, h9, k7, hk, hM⟩
    simp only [List.mem_cons, Prod.mk.injEq, List.not_mem_nil, or_false] at hk
    rcases hk with ⟨rfl, rfl⟩
    · refine ⟨[], (⟨0, 9, 12, 19⟩ : ExceptionTableEntry), [], 3, 13, rfl, (fun z hz => nomatch hz), rfl, by decide, k_La_19, by decide +kernel, by decide, Or.inr ⟨3, rfl, d_La_image_12, rfl⟩, ?_⟩
      refine V_iconst (v := 1) C d_La_image_13 (by decide) ?_
      refine V_iret C hQ (by decide) (by decide) d_La_image_14 rfl ?_
      exact ⟨h9, 1, 0, rfl, hM, fun z => absurd z (by decide)⟩
  · rintro _ ν' ι' ρ' _ ⟨rfl, h9, b, rfl, hM⟩
    dsimp only [Option.toList, List.cons_append, List.nil_append]
    refine V_i2l C d_La_image_7 ?_
    refine V_last C d_La_image_8 (by decide) rfl (h9.trans h90) (rfl : (0 : Int32) = nI 0) (by decide) rfl ?_
    refine V_goto (tgt := 15) C d_La_image_9 (by decide) ?_
    refine V_iconst (v := 0) C d_La_image_15 (by decide) ?_
    refine V_iret C hQ (by decide) (by decide) d_La_image_16 rfl ?_
    exact ⟨h9, 0, b, rfl, hM, fun _ => rfl⟩
set_option maxHeartbeats 1000000 in
set_option maxRecDepth 10000 in
theorem c_La_placeOf {ν : Nu} {ι : Io} {ρ : Ro} {ℓ : Lo} {N c9 w9 n9 z9 kn g9 : Nat} (hI : IV ν ι ρ N c9 w9 n9 z9 kn g9) {x0 x1 : Int32} (h90 : ν 90 0 0 = some 1) : Ct y_La_placeOf (Cond.codeWith y_La_placeOf b_La_placeOf 5 (some .int) [(0, 10, 13, 19), (0, 10, 17, 21)] :: tb_) { frames := 8, cells := 60, slots := 2000, locals := 134 } [sR 9 0 0, sI x0, sI x1, sR 90 0 0] ν ι ρ ℓ (fun r9 ν1 ι1 ρ1 ℓ1 => ν1 90 0 0 = ν 90 0 0 ∧ ∃ k b, r9 = some (sI k) ∧ MC y_Mo_placeOf (Cond.code y_Mo_placeOf b_Mo_placeOf 4 (some .int) :: tb_) { frames := 2, cells := 0, slots := 0, locals := 44 } [sR 10 0 0, sI x0, sI x1] k b ν ρ ν1 ι1 ρ1 ∧ (k = 0 → ℓ1 90 0 0 0 = b.toInt64)) (noX) := by
  refine Ct.ofVH (by decide) (Nat.le_of_ble_eq_true rfl) rfl ?_
  intro p l e s m args below meth c D B tW α0 Q C hQ
  refine V_aload_n C d_La_placeOf_0 rfl ?_
  refine V_iconst (v := 0) C d_La_placeOf_1 (by decide) ?_
  refine V_aload_n C d_La_placeOf_2 rfl ?_
  refine V_iload_n C d_La_placeOf_3 rfl ?_
  refine V_iload_n C d_La_placeOf_4 rfl ?_
  refine V_callVH (as := [_, _]) C d_La_placeOf_5 (c_OL_placeOf hI) m_OL_placeOf cf_OL k_La_50 (nn hI.os.n9) ⟨by decide, by decide⟩ (Nat.le_of_ble_eq_true rfl) ⟨by decide, by decide⟩ rfl ?_ ?_
  · rintro E ν' ι' ρ' ℓ' ⟨rfl, h9, k7, hk, hM⟩
    simp only [List.mem_cons, Prod.mk.injEq, List.not_mem_nil, or_false] at hk
    rcases hk with ⟨rfl, rfl⟩ | ⟨rfl, rfl⟩
    · refine ⟨[], (⟨0, 10, 13, 19⟩ : ExceptionTableEntry), [(⟨0, 10, 17, 21⟩ : ExceptionTableEntry)], 4, 15, rfl, (fun z hz => nomatch hz), rfl, by decide, k_La_19, by decide +kernel, by decide, Or.inl ⟨d_La_placeOf_13, rfl⟩, ?_⟩
      refine V_iconst (v := 1) C d_La_placeOf_15 (by decide) ?_
      refine V_iret C hQ (by decide) (by decide) d_La_placeOf_16 rfl ?_
      exact ⟨h9, 1, 0, rfl, hM, fun z => absurd z (by decide)⟩
    · refine ⟨[(⟨0, 10, 13, 19⟩ : ExceptionTableEntry)], (⟨0, 10, 17, 21⟩ : ExceptionTableEntry), [], 4, 19, rfl, (by intro z hz; simp only [List.mem_cons, List.not_mem_nil, or_false] at hz; rcases hz with rfl; exact ⟨by decide, _, k_La_19, by decide +kernel⟩), rfl, by decide, k_La_21, by decide +kernel, by decide, Or.inl ⟨d_La_placeOf_17, rfl⟩, ?_⟩
      refine V_iconst (v := 2) C d_La_placeOf_19 (by decide) ?_
      refine V_iret C hQ (by decide) (by decide) d_La_placeOf_20 rfl ?_
      exact ⟨h9, 2, 0, rfl, hM, fun z => absurd z (by decide)⟩
  · rintro _ ν' ι' ρ' _ ⟨rfl, h9, b, rfl, hM⟩
    dsimp only [Option.toList, List.cons_append, List.nil_append]
    refine V_i2l C d_La_placeOf_8 ?_
    refine V_last C d_La_placeOf_9 (by decide) rfl (h9.trans h90) (rfl : (0 : Int32) = nI 0) (by decide) rfl ?_
    refine V_goto (tgt := 21) C d_La_placeOf_10 (by decide) ?_
    refine V_iconst (v := 0) C d_La_placeOf_21 (by decide) ?_
    refine V_iret C hQ (by decide) (by decide) d_La_placeOf_22 rfl ?_
    exact ⟨h9, 0, b, rfl, hM, fun _ => rfl⟩
set_option maxHeartbeats 1000000 in
set_option maxRecDepth 10000 in
theorem c_La_write {ν : Nu} {ι : Io} {ρ : Ro} {ℓ : Lo} {N c9 w9 n9 z9 kn g9 : Nat} (hI : IV ν ι ρ N c9 w9 n9 z9 kn g9) {x0 : Int32} (h90 : ν 90 0 0 = some 1) : Ct y_La_write (Cond.codeWith y_La_write b_La_write 4 (some .int) [(0, 9, 12, 19)] :: tb_) { frames := 8, cells := 60, slots := 2000, locals := 133 } [sR 9 0 0, sI x0, sR 90 0 0] ν ι ρ ℓ (fun r9 ν1 ι1 ρ1 ℓ1 => ν1 90 0 0 = ν 90 0 0 ∧ ∃ k b, r9 = some (sI k) ∧ MC y_Mo_write (Cond.code y_Mo_write b_Mo_write 4 (some .int) :: tb_) { frames := 2, cells := 0, slots := 0, locals := 43 } [sR 10 0 0, sI x0] k b ν ρ ν1 ι1 ρ1 ∧ (k = 0 → ℓ1 90 0 0 0 = b.toInt64)) (noX) := by
  refine Ct.ofVH (by decide) (Nat.le_of_ble_eq_true rfl) rfl ?_
  intro p l e s m args below meth c D B tW α0 Q C hQ
  refine V_aload_n C d_La_write_0 rfl ?_
  refine V_iconst (v := 0) C d_La_write_1 (by decide) ?_
  refine V_aload_n C d_La_write_2 rfl ?_
  refine V_iload_n C d_La_write_3 rfl ?_
  refine V_callVH (as := [_]) C d_La_write_4 (c_OL_write hI) m_OL_write cf_OL k_La_53 (nn hI.os.n9) ⟨by decide, by decide⟩ (Nat.le_of_ble_eq_true rfl) ⟨by decide, by decide⟩ rfl ?_ ?_
  · rintro E ν' ι' ρ' ℓ' ⟨rfl, h9, k7, hk, hM⟩
    simp only [List.mem_cons, Prod.mk.injEq, List.not_mem_nil, or_false] at hk
    rcases hk with ⟨rfl, rfl⟩
    · refine ⟨[], (⟨0, 9, 12, 19⟩ : ExceptionTableEntry), [], 3, 13, rfl, (fun z hz => nomatch hz), rfl, by decide, k_La_19, by decide +kernel, by decide, Or.inr ⟨3, rfl, d_La_write_12, rfl⟩, ?_⟩
      refine V_iconst (v := 1) C d_La_write_13 (by decide) ?_
      refine V_iret C hQ (by decide) (by decide) d_La_write_14 rfl ?_
      exact ⟨h9, 1, 0, rfl, hM, fun z => absurd z (by decide)⟩
  · rintro _ ν' ι' ρ' _ ⟨rfl, h9, b, rfl, hM⟩
    dsimp only [Option.toList, List.cons_append, List.nil_append]
    refine V_i2l C d_La_write_7 ?_
    refine V_last C d_La_write_8 (by decide) rfl (h9.trans h90) (rfl : (0 : Int32) = nI 0) (by decide) rfl ?_
    refine V_goto (tgt := 15) C d_La_write_9 (by decide) ?_
    refine V_iconst (v := 0) C d_La_write_15 (by decide) ?_
    refine V_iret C hQ (by decide) (by decide) d_La_write_16 rfl ?_
    exact ⟨h9, 0, b, rfl, hM, fun _ => rfl⟩
set_option maxHeartbeats 1000000 in
set_option maxRecDepth 10000 in
theorem c_La_written {ν : Nu} {ι : Io} {ρ : Ro} {ℓ : Lo} {N c9 w9 n9 z9 kn g9 : Nat} (hI : IV ν ι ρ N c9 w9 n9 z9 kn g9) {x0 : Int32} (h90 : ν 90 0 0 = some 1) : Ct y_La_written (Cond.codeWith y_La_written b_La_written 4 (some .int) [(0, 9, 12, 19)] :: tb_) { frames := 7, cells := 60, slots := 2000, locals := 111 } [sR 9 0 0, sI x0, sR 90 0 0] ν ι ρ ℓ (fun r9 ν1 ι1 ρ1 ℓ1 => ν1 90 0 0 = ν 90 0 0 ∧ ∃ k b, r9 = some (sI k) ∧ MC y_Mo_written (Cond.code y_Mo_written b_Mo_written 2 (some .int) :: tb_) { frames := 1, cells := 0, slots := 0, locals := 22 } [sR 10 0 0, sI x0] k b ν ρ ν1 ι1 ρ1 ∧ (k = 0 → ℓ1 90 0 0 0 = b.toInt64)) (noX) := by
  refine Ct.ofVH (by decide) (Nat.le_of_ble_eq_true rfl) rfl ?_
  intro p l e s m args below meth c D B tW α0 Q C hQ
  refine V_aload_n C d_La_written_0 rfl ?_
  refine V_iconst (v := 0) C d_La_written_1 (by decide) ?_
  refine V_aload_n C d_La_written_2 rfl ?_
  refine V_iload_n C d_La_written_3 rfl ?_
  refine V_callVH (as := [_]) C d_La_written_4 (c_OL_written hI) m_OL_written cf_OL k_La_56 (nn hI.os.n9) ⟨by decide, by decide⟩ (Nat.le_of_ble_eq_true rfl) ⟨by decide, by decide⟩ rfl ?_ ?_
  · rintro E ν' ι' ρ' ℓ' ⟨rfl, h9, k7, hk, hM⟩
    simp only [List.mem_cons, Prod.mk.injEq, List.not_mem_nil, or_false] at hk
    rcases hk with ⟨rfl, rfl⟩
    · refine ⟨[], (⟨0, 9, 12, 19⟩ : ExceptionTableEntry), [], 3, 13, rfl, (fun z hz => nomatch hz), rfl, by decide, k_La_19, by decide +kernel, by decide, Or.inr ⟨3, rfl, d_La_written_12, rfl⟩, ?_⟩
      refine V_iconst (v := 1) C d_La_written_13 (by decide) ?_
      refine V_iret C hQ (by decide) (by decide) d_La_written_14 rfl ?_
      exact ⟨h9, 1, 0, rfl, hM, fun z => absurd z (by decide)⟩
  · rintro _ ν' ι' ρ' _ ⟨rfl, h9, b, rfl, hM⟩
    dsimp only [Option.toList, List.cons_append, List.nil_append]
    refine V_i2l C d_La_written_7 ?_
    refine V_last C d_La_written_8 (by decide) rfl (h9.trans h90) (rfl : (0 : Int32) = nI 0) (by decide) rfl ?_
    refine V_goto (tgt := 15) C d_La_written_9 (by decide) ?_
    refine V_iconst (v := 0) C d_La_written_15 (by decide) ?_
    refine V_iret C hQ (by decide) (by decide) d_La_written_16 rfl ?_
    exact ⟨h9, 0, b, rfl, hM, fun _ => rfl⟩
set_option maxHeartbeats 1000000 in
set_option maxRecDepth 10000 in
theorem c_La_alter {ν : Nu} {ι : Io} {ρ : Ro} {ℓ : Lo} {N c9 w9 n9 z9 kn g9 : Nat} (hI : IV ν ι ρ N c9 w9 n9 z9 kn g9) {x0 x1 : Int32} (h90 : ν 90 0 0 = some 1) : Ct y_La_alter (Cond.codeWith y_La_alter b_La_alter 5 (some .int) [(0, 10, 13, 19), (0, 10, 17, 21)] :: tb_) { frames := 7, cells := 60, slots := 2000, locals := 113 } [sR 9 0 0, sI x0, sI x1, sR 90 0 0] ν ι ρ ℓ (fun r9 ν1 ι1 ρ1 ℓ1 => ν1 90 0 0 = ν 90 0 0 ∧ ∃ k b, r9 = some (sI k) ∧ MC y_Mo_alter (Cond.code y_Mo_alter b_Mo_alter 4 (some .int) :: tb_) { frames := 1, cells := 0, slots := 0, locals := 22 } [sR 10 0 0, sI x0, sI x1] k b ν ρ ν1 ι1 ρ1 ∧ (k = 0 → ℓ1 90 0 0 0 = b.toInt64)) (noX) := by
  refine Ct.ofVH (by decide) (Nat.le_of_ble_eq_true rfl) rfl ?_
  intro p l e s m args below meth c D B tW α0 Q C hQ
  refine V_aload_n C d_La_alter_0 rfl ?_
  refine V_iconst (v := 0) C d_La_alter_1 (by decide) ?_
  refine V_aload_n C d_La_alter_2 rfl ?_
  refine V_iload_n C d_La_alter_3 rfl ?_
  refine V_iload_n C d_La_alter_4 rfl ?_
  refine V_callVH (as := [_, _]) C d_La_alter_5 (c_OL_alter hI) m_OL_alter cf_OL k_La_59 (nn hI.os.n9) ⟨by decide, by decide⟩ (Nat.le_of_ble_eq_true rfl) ⟨by decide, by decide⟩ rfl ?_ ?_
  · rintro E ν' ι' ρ' ℓ' ⟨rfl, h9, k7, hk, hM⟩
    simp only [List.mem_cons, Prod.mk.injEq, List.not_mem_nil, or_false] at hk
    rcases hk with ⟨rfl, rfl⟩ | ⟨rfl, rfl⟩
    · refine ⟨[], (⟨0, 10, 13, 19⟩ : ExceptionTableEntry), [(⟨0, 10, 17, 21⟩ : ExceptionTableEntry)], 4, 15, rfl, (fun z hz => nomatch hz), rfl, by decide, k_La_19, by decide +kernel, by decide, Or.inl ⟨d_La_alter_13, rfl⟩, ?_⟩
      refine V_iconst (v := 1) C d_La_alter_15 (by decide) ?_
      refine V_iret C hQ (by decide) (by decide) d_La_alter_16 rfl ?_
      exact ⟨h9, 1, 0, rfl, hM, fun z => absurd z (by decide)⟩
    · refine ⟨[(⟨0, 10, 13, 19⟩ : ExceptionTableEntry)], (⟨0, 10, 17, 21⟩ : ExceptionTableEntry), [], 4, 19, rfl, (by intro z hz; simp only [List.mem_cons, List.not_mem_nil, or_false] at hz; rcases hz with rfl; exact ⟨by decide, _, k_La_19, by decide +kernel⟩), rfl, by decide, k_La_21, by decide +kernel, by decide, Or.inl ⟨d_La_alter_17, rfl⟩, ?_⟩
      refine V_iconst (v := 2) C d_La_alter_19 (by decide) ?_
      refine V_iret C hQ (by decide) (by decide) d_La_alter_20 rfl ?_
      exact ⟨h9, 2, 0, rfl, hM, fun z => absurd z (by decide)⟩
  · rintro _ ν' ι' ρ' _ ⟨rfl, h9, b, rfl, hM⟩
    dsimp only [Option.toList, List.cons_append, List.nil_append]
    refine V_i2l C d_La_alter_8 ?_
    refine V_last C d_La_alter_9 (by decide) rfl (h9.trans h90) (rfl : (0 : Int32) = nI 0) (by decide) rfl ?_
    refine V_goto (tgt := 21) C d_La_alter_10 (by decide) ?_
    refine V_iconst (v := 0) C d_La_alter_21 (by decide) ?_
    refine V_iret C hQ (by decide) (by decide) d_La_alter_22 rfl ?_
    exact ⟨h9, 0, b, rfl, hM, fun _ => rfl⟩
set_option maxHeartbeats 1000000 in
set_option maxRecDepth 10000 in
theorem c_La_read {ν : Nu} {ι : Io} {ρ : Ro} {ℓ : Lo} {N c9 w9 n9 z9 kn g9 : Nat} (hI : IV ν ι ρ N c9 w9 n9 z9 kn g9) {x0 : Int32} (h90 : ν 90 0 0 = some 1) : Ct y_La_read (Cond.codeWith y_La_read b_La_read 4 (some .int) [(0, 9, 12, 21), (0, 9, 15, 13)] :: tb_) { frames := 7, cells := 60, slots := 2000, locals := 143 } [sR 9 0 0, sI x0, sR 90 0 0] ν ι ρ ℓ (fun r9 ν1 ι1 ρ1 ℓ1 => ν1 90 0 0 = ν 90 0 0 ∧ ∃ k b, r9 = some (sI k) ∧ MC y_Mo_read (Cond.code y_Mo_read b_Mo_read 3 (some .int) :: tb_) { frames := 4, cells := 0, slots := 0, locals := 100 } [sR 10 0 0, sI x0] k b ν ρ ν1 ι1 ρ1 ∧ (k = 0 → ℓ1 90 0 0 0 = b.toInt64)) (noX) := by
  refine Ct.ofVH (by decide) (Nat.le_of_ble_eq_true rfl) rfl ?_
  intro p l e s m args below meth c D B tW α0 Q C hQ
  refine V_aload_n C d_La_read_0 rfl ?_
  refine V_iconst (v := 0) C d_La_read_1 (by decide) ?_
  refine V_aload_n C d_La_read_2 rfl ?_
  refine V_iload_n C d_La_read_3 rfl ?_
  refine V_callVH (as := [_]) C d_La_read_4 (c_OL_read hI) m_OL_read cf_OL k_La_62 (nn hI.os.n9) ⟨by decide, by decide⟩ (Nat.le_of_ble_eq_true rfl) ⟨by decide, by decide⟩ rfl ?_ ?_
  · rintro E ν' ι' ρ' ℓ' ⟨rfl, h9, k7, hk, hM⟩
    simp only [List.mem_cons, Prod.mk.injEq, List.not_mem_nil, or_false] at hk
    rcases hk with ⟨rfl, rfl⟩ | ⟨rfl, rfl⟩
    · refine ⟨[], (⟨0, 9, 12, 21⟩ : ExceptionTableEntry), [(⟨0, 9, 15, 13⟩ : ExceptionTableEntry)], 3, 13, rfl, (fun z hz => nomatch hz), rfl, by decide, k_La_21, by decide +kernel, by decide, Or.inr ⟨3, rfl, d_La_read_12, rfl⟩, ?_⟩
      refine V_iconst (v := 1) C d_La_read_13 (by decide) ?_
      refine V_iret C hQ (by decide) (by decide) d_La_read_14 rfl ?_
      exact ⟨h9, 1, 0, rfl, hM, fun z => absurd z (by decide)⟩
    · refine ⟨[(⟨0, 9, 12, 21⟩ : ExceptionTableEntry)], (⟨0, 9, 15, 13⟩ : ExceptionTableEntry), [], 3, 16, rfl, (by intro z hz; simp only [List.mem_cons, List.not_mem_nil, or_false] at hz; rcases hz with rfl; exact ⟨by decide, _, k_La_21, by decide +kernel⟩), rfl, by decide, k_La_13, by decide +kernel, by decide, Or.inr ⟨3, rfl, d_La_read_15, rfl⟩, ?_⟩
      refine V_iconst (v := 2) C d_La_read_16 (by decide) ?_
      refine V_iret C hQ (by decide) (by decide) d_La_read_17 rfl ?_
      exact ⟨h9, 2, 0, rfl, hM, fun z => absurd z (by decide)⟩
  · rintro _ ν' ι' ρ' _ ⟨rfl, h9, b, rfl, hM⟩
    dsimp only [Option.toList, List.cons_append, List.nil_append]
    refine V_i2l C d_La_read_7 ?_
    refine V_last C d_La_read_8 (by decide) rfl (h9.trans h90) (rfl : (0 : Int32) = nI 0) (by decide) rfl ?_
    refine V_goto (tgt := 18) C d_La_read_9 (by decide) ?_
    refine V_iconst (v := 0) C d_La_read_18 (by decide) ?_
    refine V_iret C hQ (by decide) (by decide) d_La_read_19 rfl ?_
    exact ⟨h9, 0, b, rfl, hM, fun _ => rfl⟩
