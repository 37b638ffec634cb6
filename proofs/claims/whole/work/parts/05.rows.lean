section Am
variable {p : Program} {l : Launch} {e : Env} {R : Room} {s : State} {m : MethodId} {args : Array Value} {below : List Frame} {meth : Method} {c : Code} {D : GD} {B tW : Nat} {α0 : Ad} {ν0 : Nu} {own : String} {cc : ByteArray} {nL : Nat} {ret : Option FieldType} {mn : String} {tab : List ExceptionTableEntry} {Q : State → Prop} {cells slots : Nat} {ν : Nu} {ι : Io} {ρ : Ro} {ℓ : Lo} {pc : Nat} {lv lv' : List (Nat × SV)} {st : List SV}
/-- what is known in a method's body -/
def Cx (p : Program) (l : Launch) (s : State) (m : MethodId) (args : Array Value) (meth : Method) (c : Code) (D : GD) (B tW : Nat) (α0 : Ad) (own : String) (cc : ByteArray) (nL : Nat) (ret : Option FieldType) (mn : String) (tab : List ExceptionTableEntry) : Prop :=
  p.tables.exec = Jvm.exec ∧ c.code = cc ∧ c.maxLocals = nL ∧ s.vm.findClass own = some m.cls ∧ (∀ w ∈ tb_, w.before args s = true) ∧ KS D B tW s ∧ B ≤ s.heap.size ∧ meth.sig.returnType = ret ∧ meth.locks = false ∧ l.stackTraces = false ∧ c.exceptionTable.toList = tab ∧ meth.name = mn ∧ α0 99 0 0 = tW
/-- THE JUDGEMENT: from this point of the body, in this named state, the machine comes to Q -/
def V (p : Program) (l : Launch) (e : Env) (R : Room) (s : State) (m : MethodId) (args : Array Value) (below : List Frame) (meth : Method) (c : Code) (D : GD) (B : Nat) (α0 : Ad) (ν0 : Nu) (nL : Nat) (Q : State → Prop) (cells slots : Nat) (ν : Nu) (ι : Io) (ρ : Ro) (ℓ : Lo) (pc : Nat) (lv : List (Nat × SV)) (st : List SV) : Prop :=
  ∀ (α : Ad) (H : Heap) (locs : List Loc) (ls : Array Slot), Rh D B α ν ι ρ ℓ H → va_S (uB B) s.heap H locs → lv_has ls nL (lv.map (fun q => (q.1, enc α q.2))) → agr α0 ν0 α ν → wfl ν (lv.map Prod.snd) → wfl ν st → W p l e R s m args below meth c H locs cells slots Q (F0 m pc ls (st.map (enc α)))
def lget : List (Nat × SV) → Nat → Option SV
  | [], _ => none
  | (j, v) :: t, i => cond (Nat.beq j i) (some v) (lget t i)
theorem lget_mem {lv : List (Nat × SV)} {i : Nat} {v : SV} (h : lget lv i = some v) : (i, v) ∈ lv := by
  induction lv with
  | nil => cases h
  | cons a t ih =>
    obtain ⟨j, w⟩ := a
    unfold lget at h
    cases hb : Nat.beq j i with
    | true =>
      rw [hb] at h
      have e1 := Nat.eq_of_beq_eq_true hb
      cases h
      rw [e1]
      exact List.mem_cons_self
    | false =>
      rw [hb] at h
      exact List.mem_cons_of_mem _ (ih h)
theorem lget_at {α : Ad} {ls : Array Slot} {i : Nat} {v : SV} (h : lget lv i = some v) (hl : lv_has ls nL (lv.map (fun q => (q.1, enc α q.2)))) : ls[i]? = some (.val (enc α v)) :=
  hl.2.2 (i, enc α v) (List.mem_map.mpr ⟨(i, v), lget_mem h, rfl⟩)
theorem lget_wf {i : Nat} {v : SV} (h : lget lv i = some v) (hw : wfl ν (lv.map Prod.snd)) : wfv ν v := hw v (List.mem_map.mpr ⟨(i, v), lget_mem h, rfl⟩)
def ldel : Nat → List (Nat × SV) → List (Nat × SV)
  | _, [] => []
  | i, (j, v) :: t => cond (Nat.beq j i || (Nat.beq (j + 1) i && Nat.beq (scat v) 2)) (ldel i t) ((j, v) :: ldel i t)
def ldel2 : Nat → List (Nat × SV) → List (Nat × SV)
  | _, [] => []
  | i, (j, v) :: t => cond (Nat.beq j i || (Nat.beq j (i + 1) || (Nat.beq (j + 1) i && Nat.beq (scat v) 2))) (ldel2 i t) ((j, v) :: ldel2 i t)
theorem nbeq (a b : Nat) : Nat.beq a b = (a == b) := by rw [Bool.eq_iff_iff, Nat.beq_eq, beq_iff_eq]
theorem ldel_f (α : Ad) (i : Nat) (lv : List (Nat × SV)) : (lv.map (fun q => (q.1, enc α q.2))).filter (fun q => !(q.1 == i) && !(q.1 + 1 == i && q.2.category == 2)) = (ldel i lv).map (fun q => (q.1, enc α q.2)) := by
  induction lv with
  | nil => rfl
  | cons a t ih =>
    obtain ⟨j, v⟩ := a
    unfold ldel
    rw [List.map_cons, List.filter_cons, ih]
    simp only [enc_cat, nbeq]
    cases h1 : (j == i) <;> cases h2 : (j + 1 == i && scat v == 2) <;> simp
theorem ldel2_f (α : Ad) (i : Nat) (lv : List (Nat × SV)) : (lv.map (fun q => (q.1, enc α q.2))).filter (fun q => !(q.1 == i) && (!(q.1 == i + 1) && !(q.1 + 1 == i && q.2.category == 2))) = (ldel2 i lv).map (fun q => (q.1, enc α q.2)) := by
  induction lv with
  | nil => rfl
  | cons a t ih =>
    obtain ⟨j, v⟩ := a
    unfold ldel2
    rw [List.map_cons, List.filter_cons, ih]
    simp only [enc_cat, nbeq]
    cases h1 : (j == i) <;> cases h3 : (j == i + 1) <;> cases h2 : (j + 1 == i && scat v == 2) <;> simp
theorem ldel_wf {i : Nat} (hw : wfl ν (lv.map Prod.snd)) : wfl ν ((ldel i lv).map Prod.snd) := by
  induction lv with
  | nil => exact hw
  | cons a t ih =>
    obtain ⟨j, v⟩ := a
    unfold ldel
    cases (Nat.beq j i || (Nat.beq (j + 1) i && Nat.beq (scat v) 2))
    · exact wfl_c (wfl_h hw) (ih (wfl_t hw))
    · exact ih (wfl_t hw)
theorem ldel2_wf {i : Nat} (hw : wfl ν (lv.map Prod.snd)) : wfl ν ((ldel2 i lv).map Prod.snd) := by
  induction lv with
  | nil => exact hw
  | cons a t ih =>
    obtain ⟨j, v⟩ := a
    unfold ldel2
    cases (Nat.beq j i || (Nat.beq j (i + 1) || (Nat.beq (j + 1) i && Nat.beq (scat v) 2)))
    · exact wfl_c (wfl_h hw) (ih (wfl_t hw))
    · exact ih (wfl_t hw)
theorem V_iconst {n : Int} {v : Int32} (C : Cx p l s m args meth c D B tW α0 own cc nL ret mn tab) (hd : decode cc pc = .ok (.iconst n, 1)) (hv : Int32.ofInt n = v) (k : V p l e R s m args below meth c D B α0 ν0 nL Q cells slots ν ι ρ ℓ (pc + 1) lv (sI v :: st)) : V p l e R s m args below meth c D B α0 ν0 nL Q cells slots ν ι ρ ℓ pc lv st := by
  intro α H locs ls hR hS hl h0 h1 h2
  exact lv_iconst C.1 C.2.1 hd hv (k α H locs ls hR hS hl h0 h1 (wfl_c wfv_I h2))
theorem V_bipush {n : Int} {v : Int32} (C : Cx p l s m args meth c D B tW α0 own cc nL ret mn tab) (hd : decode cc pc = .ok (.bipush n, 2)) (hv : (Int8.ofInt n).toInt32 = v) (k : V p l e R s m args below meth c D B α0 ν0 nL Q cells slots ν ι ρ ℓ (pc + 2) lv (sI v :: st)) : V p l e R s m args below meth c D B α0 ν0 nL Q cells slots ν ι ρ ℓ pc lv st := by
  intro α H locs ls hR hS hl h0 h1 h2
  exact lv_bipush C.1 C.2.1 hd hv (k α H locs ls hR hS hl h0 h1 (wfl_c wfv_I h2))
theorem V_sipush {n : Int} {v : Int32} (C : Cx p l s m args meth c D B tW α0 own cc nL ret mn tab) (hd : decode cc pc = .ok (.sipush n, 3)) (hv : (Int16.ofInt n).toInt32 = v) (k : V p l e R s m args below meth c D B α0 ν0 nL Q cells slots ν ι ρ ℓ (pc + 3) lv (sI v :: st)) : V p l e R s m args below meth c D B α0 ν0 nL Q cells slots ν ι ρ ℓ pc lv st := by
  intro α H locs ls hR hS hl h0 h1 h2
  exact lv_sipush C.1 C.2.1 hd hv (k α H locs ls hR hS hl h0 h1 (wfl_c wfv_I h2))
theorem V_lconst {n : Fin 2} {v : Int64} (C : Cx p l s m args meth c D B tW α0 own cc nL ret mn tab) (hd : decode cc pc = .ok (.lconst n, 1)) (hv : Int64.ofNat (n : Nat) = v) (k : V p l e R s m args below meth c D B α0 ν0 nL Q cells slots ν ι ρ ℓ (pc + 1) lv (sL v :: st)) : V p l e R s m args below meth c D B α0 ν0 nL Q cells slots ν ι ρ ℓ pc lv st := by
  intro α H locs ls hR hS hl h0 h1 h2
  exact lv_lconst C.1 C.2.1 hd hv (k α H locs ls hR hS hl h0 h1 (wfl_c wfv_L h2))
theorem V_ldc {i : Nat} {v : Int32} (C : Cx p l s m args meth c D B tW α0 own cc nL ret mn tab) (hd : decode cc pc = .ok (.ldc i, 2)) (hw : Cond.constant own i v ∈ tb_) (k : V p l e R s m args below meth c D B α0 ν0 nL Q cells slots ν ι ρ ℓ (pc + 2) lv (sI v :: st)) : V p l e R s m args below meth c D B α0 ν0 nL Q cells slots ν ι ρ ℓ pc lv st := by
  intro α H locs ls hR hS hl h0 h1 h2
  exact lv_ldc C.1 C.2.1 C.2.2.2.1 (C.2.2.2.2.1 _ hw) hd (k α H locs ls hR hS hl h0 h1 (wfl_c wfv_I h2))
theorem V_ldc2 {i : Nat} {v : Int64} (C : Cx p l s m args meth c D B tW α0 own cc nL ret mn tab) (hd : decode cc pc = .ok (.ldc2_w i, 3)) (hw : Cond.constantLong own i v ∈ tb_) (k : V p l e R s m args below meth c D B α0 ν0 nL Q cells slots ν ι ρ ℓ (pc + 3) lv (sL v :: st)) : V p l e R s m args below meth c D B α0 ν0 nL Q cells slots ν ι ρ ℓ pc lv st := by
  intro α H locs ls hR hS hl h0 h1 h2
  exact lv_ldc2 C.1 C.2.1 C.2.2.2.1 (C.2.2.2.2.1 _ hw) hd (k α H locs ls hR hS hl h0 h1 (wfl_c wfv_L h2))
theorem V_null  (C : Cx p l s m args meth c D B tW α0 own cc nL ret mn tab) (hd : decode cc pc = .ok (.aconst_null, 1)) (k : V p l e R s m args below meth c D B α0 ν0 nL Q cells slots ν ι ρ ℓ (pc + 1) lv (sN :: st)) : V p l e R s m args below meth c D B α0 ν0 nL Q cells slots ν ι ρ ℓ pc lv st := by
  intro α H locs ls hR hS hl h0 h1 h2
  exact lv_null C.1 C.2.1 hd (k α H locs ls hR hS hl h0 h1 (wfl_c wfv_N h2))
theorem V_iload_n {n : Fin 4} {x : Int32} (C : Cx p l s m args meth c D B tW α0 own cc nL ret mn tab) (hd : decode cc pc = .ok (.iload_n n, 1)) (hg : lget lv n = some (sI x)) (k : V p l e R s m args below meth c D B α0 ν0 nL Q cells slots ν ι ρ ℓ (pc + 1) lv (sI x :: st)) : V p l e R s m args below meth c D B α0 ν0 nL Q cells slots ν ι ρ ℓ pc lv st := by
  intro α H locs ls hR hS hl h0 h1 h2
  exact lv_iload_n C.1 C.2.1 hd rfl (lget_at hg hl) (k α H locs ls hR hS hl h0 h1 (wfl_c wfv_I h2))
theorem V_iload {n : Nat} {x : Int32} (C : Cx p l s m args meth c D B tW α0 own cc nL ret mn tab) (hd : decode cc pc = .ok (.iload n, 2)) (hg : lget lv n = some (sI x)) (k : V p l e R s m args below meth c D B α0 ν0 nL Q cells slots ν ι ρ ℓ (pc + 2) lv (sI x :: st)) : V p l e R s m args below meth c D B α0 ν0 nL Q cells slots ν ι ρ ℓ pc lv st := by
  intro α H locs ls hR hS hl h0 h1 h2
  exact lv_iload C.1 C.2.1 hd (lget_at hg hl) (k α H locs ls hR hS hl h0 h1 (wfl_c wfv_I h2))
theorem V_lload_n {n : Fin 4} {x : Int64} (C : Cx p l s m args meth c D B tW α0 own cc nL ret mn tab) (hd : decode cc pc = .ok (.lload_n n, 1)) (hg : lget lv n = some (sL x)) (k : V p l e R s m args below meth c D B α0 ν0 nL Q cells slots ν ι ρ ℓ (pc + 1) lv (sL x :: st)) : V p l e R s m args below meth c D B α0 ν0 nL Q cells slots ν ι ρ ℓ pc lv st := by
  intro α H locs ls hR hS hl h0 h1 h2
  exact lv_lload_n C.1 C.2.1 hd rfl (lget_at hg hl) (k α H locs ls hR hS hl h0 h1 (wfl_c wfv_L h2))
theorem V_lload {n : Nat} {x : Int64} (C : Cx p l s m args meth c D B tW α0 own cc nL ret mn tab) (hd : decode cc pc = .ok (.lload n, 2)) (hg : lget lv n = some (sL x)) (k : V p l e R s m args below meth c D B α0 ν0 nL Q cells slots ν ι ρ ℓ (pc + 2) lv (sL x :: st)) : V p l e R s m args below meth c D B α0 ν0 nL Q cells slots ν ι ρ ℓ pc lv st := by
  intro α H locs ls hR hS hl h0 h1 h2
  exact lv_lload C.1 C.2.1 hd (lget_at hg hl) (k α H locs ls hR hS hl h0 h1 (wfl_c wfv_L h2))
theorem V_aload_n {n : Fin 4} {x : Option Pt3} (C : Cx p l s m args meth c D B tW α0 own cc nL ret mn tab) (hd : decode cc pc = .ok (.aload_n n, 1)) (hg : lget lv n = some (sQ x)) (k : V p l e R s m args below meth c D B α0 ν0 nL Q cells slots ν ι ρ ℓ (pc + 1) lv (sQ x :: st)) : V p l e R s m args below meth c D B α0 ν0 nL Q cells slots ν ι ρ ℓ pc lv st := by
  intro α H locs ls hR hS hl h0 h1 h2
  cases x with
  | none => exact lv_aload_nN C.1 C.2.1 hd rfl (lget_at hg hl) (k α H locs ls hR hS hl h0 h1 (wfl_c (lget_wf hg h1) h2))
  | some q => exact lv_aload_n C.1 C.2.1 hd rfl (lget_at hg hl) (k α H locs ls hR hS hl h0 h1 (wfl_c (lget_wf hg h1) h2))
theorem V_aload {n : Nat} {x : Option Pt3} (C : Cx p l s m args meth c D B tW α0 own cc nL ret mn tab) (hd : decode cc pc = .ok (.aload n, 2)) (hg : lget lv n = some (sQ x)) (k : V p l e R s m args below meth c D B α0 ν0 nL Q cells slots ν ι ρ ℓ (pc + 2) lv (sQ x :: st)) : V p l e R s m args below meth c D B α0 ν0 nL Q cells slots ν ι ρ ℓ pc lv st := by
  intro α H locs ls hR hS hl h0 h1 h2
  cases x with
  | none => exact lv_aloadN C.1 C.2.1 hd (lget_at hg hl) (k α H locs ls hR hS hl h0 h1 (wfl_c (lget_wf hg h1) h2))
  | some q => exact lv_aload C.1 C.2.1 hd (lget_at hg hl) (k α H locs ls hR hS hl h0 h1 (wfl_c (lget_wf hg h1) h2))
theorem V_istore_n {n : Fin 4} {x : Int32} (C : Cx p l s m args meth c D B tW α0 own cc nL ret mn tab) (hd : decode cc pc = .ok (.istore_n n, 1)) (hn : (n : Nat) < nL) (hs : ((n : Nat), sI x) :: ldel n lv = lv') (k : V p l e R s m args below meth c D B α0 ν0 nL Q cells slots ν ι ρ ℓ (pc + 1) lv' st) : V p l e R s m args below meth c D B α0 ν0 nL Q cells slots ν ι ρ ℓ pc lv (sI x :: st) := by
  intro α H locs ls hR hS hl h0 h1 h2
  subst hs
  exact lv_istore_n C.1 C.2.1 hd rfl hl hn (by rw [ldel_f]; rfl) (fun ls' hl' => k α H locs ls' hR hS hl' h0 (wfl_c wfv_I (ldel_wf h1)) (wfl_t h2))
theorem V_istore {n : Nat} {x : Int32} (C : Cx p l s m args meth c D B tW α0 own cc nL ret mn tab) (hd : decode cc pc = .ok (.istore n, 2)) (hn : n < nL) (hs : (n, sI x) :: ldel n lv = lv') (k : V p l e R s m args below meth c D B α0 ν0 nL Q cells slots ν ι ρ ℓ (pc + 2) lv' st) : V p l e R s m args below meth c D B α0 ν0 nL Q cells slots ν ι ρ ℓ pc lv (sI x :: st) := by
  intro α H locs ls hR hS hl h0 h1 h2
  subst hs
  exact lv_istore C.1 C.2.1 hd hl hn (by rw [ldel_f]; rfl) (fun ls' hl' => k α H locs ls' hR hS hl' h0 (wfl_c wfv_I (ldel_wf h1)) (wfl_t h2))
theorem V_lstore_n {n : Fin 4} {x : Int64} (C : Cx p l s m args meth c D B tW α0 own cc nL ret mn tab) (hd : decode cc pc = .ok (.lstore_n n, 1)) (hn : (n : Nat) + 1 < nL) (hs : ((n : Nat), sL x) :: ldel2 n lv = lv') (k : V p l e R s m args below meth c D B α0 ν0 nL Q cells slots ν ι ρ ℓ (pc + 1) lv' st) : V p l e R s m args below meth c D B α0 ν0 nL Q cells slots ν ι ρ ℓ pc lv (sL x :: st) := by
  intro α H locs ls hR hS hl h0 h1 h2
  subst hs
  exact lv_lstore_n C.1 C.2.1 hd rfl hl hn (by rw [ldel2_f]; rfl) (fun ls' hl' => k α H locs ls' hR hS hl' h0 (wfl_c wfv_L (ldel2_wf h1)) (wfl_t h2))
theorem V_lstore {n : Nat} {x : Int64} (C : Cx p l s m args meth c D B tW α0 own cc nL ret mn tab) (hd : decode cc pc = .ok (.lstore n, 2)) (hn : n + 1 < nL) (hs : (n, sL x) :: ldel2 n lv = lv') (k : V p l e R s m args below meth c D B α0 ν0 nL Q cells slots ν ι ρ ℓ (pc + 2) lv' st) : V p l e R s m args below meth c D B α0 ν0 nL Q cells slots ν ι ρ ℓ pc lv (sL x :: st) := by
  intro α H locs ls hR hS hl h0 h1 h2
  subst hs
  exact lv_lstore C.1 C.2.1 hd hl hn (by rw [ldel2_f]; rfl) (fun ls' hl' => k α H locs ls' hR hS hl' h0 (wfl_c wfv_L (ldel2_wf h1)) (wfl_t h2))
theorem V_astore_n {n : Fin 4} {x : Option Pt3} (C : Cx p l s m args meth c D B tW α0 own cc nL ret mn tab) (hd : decode cc pc = .ok (.astore_n n, 1)) (hn : (n : Nat) < nL) (hs : ((n : Nat), sQ x) :: ldel n lv = lv') (k : V p l e R s m args below meth c D B α0 ν0 nL Q cells slots ν ι ρ ℓ (pc + 1) lv' st) : V p l e R s m args below meth c D B α0 ν0 nL Q cells slots ν ι ρ ℓ pc lv (sQ x :: st) := by
  intro α H locs ls hR hS hl h0 h1 h2
  subst hs
  cases x with
  | none => exact lv_astore_nN C.1 C.2.1 hd rfl hl hn (by rw [ldel_f]; rfl) (fun ls' hl' => k α H locs ls' hR hS hl' h0 (wfl_c (wfl_h h2) (ldel_wf h1)) (wfl_t h2))
  | some q => exact lv_astore_n C.1 C.2.1 hd rfl hl hn (by rw [ldel_f]; rfl) (fun ls' hl' => k α H locs ls' hR hS hl' h0 (wfl_c (wfl_h h2) (ldel_wf h1)) (wfl_t h2))
theorem V_astore {n : Nat} {x : Option Pt3} (C : Cx p l s m args meth c D B tW α0 own cc nL ret mn tab) (hd : decode cc pc = .ok (.astore n, 2)) (hn : n < nL) (hs : (n, sQ x) :: ldel n lv = lv') (k : V p l e R s m args below meth c D B α0 ν0 nL Q cells slots ν ι ρ ℓ (pc + 2) lv' st) : V p l e R s m args below meth c D B α0 ν0 nL Q cells slots ν ι ρ ℓ pc lv (sQ x :: st) := by
  intro α H locs ls hR hS hl h0 h1 h2
  subst hs
  cases x with
  | none => exact lv_astoreN C.1 C.2.1 hd hl hn (by rw [ldel_f]; rfl) (fun ls' hl' => k α H locs ls' hR hS hl' h0 (wfl_c (wfl_h h2) (ldel_wf h1)) (wfl_t h2))
  | some q => exact lv_astore C.1 C.2.1 hd hl hn (by rw [ldel_f]; rfl) (fun ls' hl' => k α H locs ls' hR hS hl' h0 (wfl_c (wfl_h h2) (ldel_wf h1)) (wfl_t h2))
theorem lget_ix {α : Ad} {i : Nat} {v : SV} (h : lget lv i = some v) : ∃ k : Nat, (lv.map (fun q => (q.1, enc α q.2)))[k]? = some (i, enc α v) := by
  obtain ⟨k, hk⟩ := List.getElem?_of_mem (List.mem_map.mpr ⟨(i, v), lget_mem h, rfl⟩ : (i, enc α v) ∈ lv.map (fun q => (q.1, enc α q.2)))
  exact ⟨k, hk⟩
theorem V_iinc {n : Nat} {d : Int} {x v : Int32} (C : Cx p l s m args meth c D B tW α0 own cc nL ret mn tab) (hd : decode cc pc = .ok (.iinc n d, 3)) (hg : lget lv n = some (sI x)) (hv : x + Int32.ofInt d = v) (hn : n < nL) (hs : (n, sI v) :: ldel n lv = lv') (k : V p l e R s m args below meth c D B α0 ν0 nL Q cells slots ν ι ρ ℓ (pc + 3) lv' st) : V p l e R s m args below meth c D B α0 ν0 nL Q cells slots ν ι ρ ℓ pc lv st := by
  intro α H locs ls hR hS hl h0 h1 h2
  subst hs
  obtain ⟨k9, hk9⟩ := lget_ix (α := α) hg
  exact lv_iinc C.1 C.2.1 hd hl hk9 hv hn (by rw [ldel_f]; rfl) (fun ls' hl' => k α H locs ls' hR hS hl' h0 (wfl_c wfv_I (ldel_wf h1)) h2)
theorem V_iadd {x y : Int32} (C : Cx p l s m args meth c D B tW α0 own cc nL ret mn tab) (hd : decode cc pc = .ok (.iadd, 1)) (k : V p l e R s m args below meth c D B α0 ν0 nL Q cells slots ν ι ρ ℓ (pc + 1) lv (sI (x + y) :: st)) : V p l e R s m args below meth c D B α0 ν0 nL Q cells slots ν ι ρ ℓ pc lv (sI y :: sI x :: st) := by
  intro α H locs ls hR hS hl h0 h1 h2
  exact lv_iadd C.1 C.2.1 hd (k α H locs ls hR hS hl h0 h1 (wfl_c wfv_I (wfl_t (wfl_t h2))))
theorem V_isub {x y : Int32} (C : Cx p l s m args meth c D B tW α0 own cc nL ret mn tab) (hd : decode cc pc = .ok (.isub, 1)) (k : V p l e R s m args below meth c D B α0 ν0 nL Q cells slots ν ι ρ ℓ (pc + 1) lv (sI (x - y) :: st)) : V p l e R s m args below meth c D B α0 ν0 nL Q cells slots ν ι ρ ℓ pc lv (sI y :: sI x :: st) := by
  intro α H locs ls hR hS hl h0 h1 h2
  exact lv_isub C.1 C.2.1 hd (k α H locs ls hR hS hl h0 h1 (wfl_c wfv_I (wfl_t (wfl_t h2))))
theorem V_imul {x y : Int32} (C : Cx p l s m args meth c D B tW α0 own cc nL ret mn tab) (hd : decode cc pc = .ok (.imul, 1)) (k : V p l e R s m args below meth c D B α0 ν0 nL Q cells slots ν ι ρ ℓ (pc + 1) lv (sI (x * y) :: st)) : V p l e R s m args below meth c D B α0 ν0 nL Q cells slots ν ι ρ ℓ pc lv (sI y :: sI x :: st) := by
  intro α H locs ls hR hS hl h0 h1 h2
  exact lv_imul C.1 C.2.1 hd (k α H locs ls hR hS hl h0 h1 (wfl_c wfv_I (wfl_t (wfl_t h2))))
theorem V_iand {x y : Int32} (C : Cx p l s m args meth c D B tW α0 own cc nL ret mn tab) (hd : decode cc pc = .ok (.iand, 1)) (k : V p l e R s m args below meth c D B α0 ν0 nL Q cells slots ν ι ρ ℓ (pc + 1) lv (sI (x &&& y) :: st)) : V p l e R s m args below meth c D B α0 ν0 nL Q cells slots ν ι ρ ℓ pc lv (sI y :: sI x :: st) := by
  intro α H locs ls hR hS hl h0 h1 h2
  exact lv_iand C.1 C.2.1 hd (k α H locs ls hR hS hl h0 h1 (wfl_c wfv_I (wfl_t (wfl_t h2))))
theorem V_ior {x y : Int32} (C : Cx p l s m args meth c D B tW α0 own cc nL ret mn tab) (hd : decode cc pc = .ok (.ior, 1)) (k : V p l e R s m args below meth c D B α0 ν0 nL Q cells slots ν ι ρ ℓ (pc + 1) lv (sI (x ||| y) :: st)) : V p l e R s m args below meth c D B α0 ν0 nL Q cells slots ν ι ρ ℓ pc lv (sI y :: sI x :: st) := by
  intro α H locs ls hR hS hl h0 h1 h2
  exact lv_ior C.1 C.2.1 hd (k α H locs ls hR hS hl h0 h1 (wfl_c wfv_I (wfl_t (wfl_t h2))))
theorem V_ixor {x y : Int32} (C : Cx p l s m args meth c D B tW α0 own cc nL ret mn tab) (hd : decode cc pc = .ok (.ixor, 1)) (k : V p l e R s m args below meth c D B α0 ν0 nL Q cells slots ν ι ρ ℓ (pc + 1) lv (sI (x ^^^ y) :: st)) : V p l e R s m args below meth c D B α0 ν0 nL Q cells slots ν ι ρ ℓ pc lv (sI y :: sI x :: st) := by
  intro α H locs ls hR hS hl h0 h1 h2
  exact lv_ixor C.1 C.2.1 hd (k α H locs ls hR hS hl h0 h1 (wfl_c wfv_I (wfl_t (wfl_t h2))))
theorem V_ishl {x y : Int32} (C : Cx p l s m args meth c D B tW α0 own cc nL ret mn tab) (hd : decode cc pc = .ok (.ishl, 1)) (k : V p l e R s m args below meth c D B α0 ν0 nL Q cells slots ν ι ρ ℓ (pc + 1) lv (sI (x <<< (y &&& 31)) :: st)) : V p l e R s m args below meth c D B α0 ν0 nL Q cells slots ν ι ρ ℓ pc lv (sI y :: sI x :: st) := by
  intro α H locs ls hR hS hl h0 h1 h2
  exact lv_ishl C.1 C.2.1 hd (k α H locs ls hR hS hl h0 h1 (wfl_c wfv_I (wfl_t (wfl_t h2))))
theorem V_ishr {x y : Int32} (C : Cx p l s m args meth c D B tW α0 own cc nL ret mn tab) (hd : decode cc pc = .ok (.ishr, 1)) (k : V p l e R s m args below meth c D B α0 ν0 nL Q cells slots ν ι ρ ℓ (pc + 1) lv (sI (x >>> (y &&& 31)) :: st)) : V p l e R s m args below meth c D B α0 ν0 nL Q cells slots ν ι ρ ℓ pc lv (sI y :: sI x :: st) := by
  intro α H locs ls hR hS hl h0 h1 h2
  exact lv_ishr C.1 C.2.1 hd (k α H locs ls hR hS hl h0 h1 (wfl_c wfv_I (wfl_t (wfl_t h2))))
theorem V_idiv {x y : Int32} (C : Cx p l s m args meth c D B tW α0 own cc nL ret mn tab) (hd : decode cc pc = .ok (.idiv, 1)) (hne : ¬ y = 0) (k : V p l e R s m args below meth c D B α0 ν0 nL Q cells slots ν ι ρ ℓ (pc + 1) lv (sI (x / y) :: st)) : V p l e R s m args below meth c D B α0 ν0 nL Q cells slots ν ι ρ ℓ pc lv (sI y :: sI x :: st) := by
  intro α H locs ls hR hS hl h0 h1 h2
  exact lv_idiv C.1 C.2.1 hd hne (k α H locs ls hR hS hl h0 h1 (wfl_c wfv_I (wfl_t (wfl_t h2))))
theorem V_irem {x y : Int32} (C : Cx p l s m args meth c D B tW α0 own cc nL ret mn tab) (hd : decode cc pc = .ok (.irem, 1)) (hne : ¬ y = 0) (k : V p l e R s m args below meth c D B α0 ν0 nL Q cells slots ν ι ρ ℓ (pc + 1) lv (sI (x - x / y * y) :: st)) : V p l e R s m args below meth c D B α0 ν0 nL Q cells slots ν ι ρ ℓ pc lv (sI y :: sI x :: st) := by
  intro α H locs ls hR hS hl h0 h1 h2
  exact lv_irem C.1 C.2.1 hd hne (k α H locs ls hR hS hl h0 h1 (wfl_c wfv_I (wfl_t (wfl_t h2))))
theorem V_iushr {x y : Int32} (C : Cx p l s m args meth c D B tW α0 own cc nL ret mn tab) (hd : decode cc pc = .ok (.iushr, 1)) (k : V p l e R s m args below meth c D B α0 ν0 nL Q cells slots ν ι ρ ℓ (pc + 1) lv (sI (x.toUInt32 >>> (y.toUInt32 &&& Int32.toUInt32 31)).toInt32 :: st)) : V p l e R s m args below meth c D B α0 ν0 nL Q cells slots ν ι ρ ℓ pc lv (sI y :: sI x :: st) := by
  intro α H locs ls hR hS hl h0 h1 h2
  exact lv_iushr C.1 C.2.1 hd rfl (k α H locs ls hR hS hl h0 h1 (wfl_c wfv_I (wfl_t (wfl_t h2))))
theorem V_ladd {x y : Int64} (C : Cx p l s m args meth c D B tW α0 own cc nL ret mn tab) (hd : decode cc pc = .ok (.ladd, 1)) (k : V p l e R s m args below meth c D B α0 ν0 nL Q cells slots ν ι ρ ℓ (pc + 1) lv (sL (x + y) :: st)) : V p l e R s m args below meth c D B α0 ν0 nL Q cells slots ν ι ρ ℓ pc lv (sL y :: sL x :: st) := by
  intro α H locs ls hR hS hl h0 h1 h2
  exact lv_ladd C.1 C.2.1 hd (k α H locs ls hR hS hl h0 h1 (wfl_c wfv_L (wfl_t (wfl_t h2))))
theorem V_lsub {x y : Int64} (C : Cx p l s m args meth c D B tW α0 own cc nL ret mn tab) (hd : decode cc pc = .ok (.lsub, 1)) (k : V p l e R s m args below meth c D B α0 ν0 nL Q cells slots ν ι ρ ℓ (pc + 1) lv (sL (x - y) :: st)) : V p l e R s m args below meth c D B α0 ν0 nL Q cells slots ν ι ρ ℓ pc lv (sL y :: sL x :: st) := by
  intro α H locs ls hR hS hl h0 h1 h2
  exact lv_lsub C.1 C.2.1 hd (k α H locs ls hR hS hl h0 h1 (wfl_c wfv_L (wfl_t (wfl_t h2))))
theorem V_land {x y : Int64} (C : Cx p l s m args meth c D B tW α0 own cc nL ret mn tab) (hd : decode cc pc = .ok (.land, 1)) (k : V p l e R s m args below meth c D B α0 ν0 nL Q cells slots ν ι ρ ℓ (pc + 1) lv (sL (x &&& y) :: st)) : V p l e R s m args below meth c D B α0 ν0 nL Q cells slots ν ι ρ ℓ pc lv (sL y :: sL x :: st) := by
  intro α H locs ls hR hS hl h0 h1 h2
  exact lv_land C.1 C.2.1 hd (k α H locs ls hR hS hl h0 h1 (wfl_c wfv_L (wfl_t (wfl_t h2))))
theorem V_lor {x y : Int64} (C : Cx p l s m args meth c D B tW α0 own cc nL ret mn tab) (hd : decode cc pc = .ok (.lor, 1)) (k : V p l e R s m args below meth c D B α0 ν0 nL Q cells slots ν ι ρ ℓ (pc + 1) lv (sL (x ||| y) :: st)) : V p l e R s m args below meth c D B α0 ν0 nL Q cells slots ν ι ρ ℓ pc lv (sL y :: sL x :: st) := by
  intro α H locs ls hR hS hl h0 h1 h2
  exact lv_lor C.1 C.2.1 hd (k α H locs ls hR hS hl h0 h1 (wfl_c wfv_L (wfl_t (wfl_t h2))))
theorem V_lshr {x : Int64} {y : Int32} (C : Cx p l s m args meth c D B tW α0 own cc nL ret mn tab) (hd : decode cc pc = .ok (.lshr, 1)) (k : V p l e R s m args below meth c D B α0 ν0 nL Q cells slots ν ι ρ ℓ (pc + 1) lv (sL (x >>> (y.toInt64 &&& 63)) :: st)) : V p l e R s m args below meth c D B α0 ν0 nL Q cells slots ν ι ρ ℓ pc lv (sI y :: sL x :: st) := by
  intro α H locs ls hR hS hl h0 h1 h2
  exact lv_lshr C.1 C.2.1 hd rfl (k α H locs ls hR hS hl h0 h1 (wfl_c wfv_L (wfl_t (wfl_t h2))))
theorem V_i2l {x : Int32} (C : Cx p l s m args meth c D B tW α0 own cc nL ret mn tab) (hd : decode cc pc = .ok (.i2l, 1)) (k : V p l e R s m args below meth c D B α0 ν0 nL Q cells slots ν ι ρ ℓ (pc + 1) lv (sL x.toInt64 :: st)) : V p l e R s m args below meth c D B α0 ν0 nL Q cells slots ν ι ρ ℓ pc lv (sI x :: st) := by
  intro α H locs ls hR hS hl h0 h1 h2
  exact lv_i2l C.1 C.2.1 hd rfl (k α H locs ls hR hS hl h0 h1 (wfl_c wfv_L (wfl_t h2)))
theorem V_l2i {x : Int64} (C : Cx p l s m args meth c D B tW α0 own cc nL ret mn tab) (hd : decode cc pc = .ok (.l2i, 1)) (k : V p l e R s m args below meth c D B α0 ν0 nL Q cells slots ν ι ρ ℓ (pc + 1) lv (sI x.toInt32 :: st)) : V p l e R s m args below meth c D B α0 ν0 nL Q cells slots ν ι ρ ℓ pc lv (sL x :: st) := by
  intro α H locs ls hR hS hl h0 h1 h2
  exact lv_l2i C.1 C.2.1 hd rfl (k α H locs ls hR hS hl h0 h1 (wfl_c wfv_I (wfl_t h2)))
theorem V_lcmp {x y : Int64} (C : Cx p l s m args meth c D B tW α0 own cc nL ret mn tab) (hd : decode cc pc = .ok (.lcmp, 1)) (k : V p l e R s m args below meth c D B α0 ν0 nL Q cells slots ν ι ρ ℓ (pc + 1) lv (sI (lg_cmp x y) :: st)) : V p l e R s m args below meth c D B α0 ν0 nL Q cells slots ν ι ρ ℓ pc lv (sL y :: sL x :: st) := by
  intro α H locs ls hR hS hl h0 h1 h2
  exact W.lcmp C.1 C.2.1 hd (k α H locs ls hR hS hl h0 h1 (wfl_c wfv_I (wfl_t (wfl_t h2))))
theorem V_dup {v : SV} (C : Cx p l s m args meth c D B tW α0 own cc nL ret mn tab) (hd : decode cc pc = .ok (.dup, 1)) (hc : scat v = 1) (k : V p l e R s m args below meth c D B α0 ν0 nL Q cells slots ν ι ρ ℓ (pc + 1) lv (v :: v :: st)) : V p l e R s m args below meth c D B α0 ν0 nL Q cells slots ν ι ρ ℓ pc lv (v :: st) := by
  intro α H locs ls hR hS hl h0 h1 h2
  exact lv_dup C.1 C.2.1 hd ((enc_cat α v).trans hc) (k α H locs ls hR hS hl h0 h1 (wfl_c (wfl_h h2) h2))
theorem V_pop {v : SV} (C : Cx p l s m args meth c D B tW α0 own cc nL ret mn tab) (hd : decode cc pc = .ok (.pop, 1)) (hc : scat v = 1) (k : V p l e R s m args below meth c D B α0 ν0 nL Q cells slots ν ι ρ ℓ (pc + 1) lv st) : V p l e R s m args below meth c D B α0 ν0 nL Q cells slots ν ι ρ ℓ pc lv (v :: st) := by
  intro α H locs ls hR hS hl h0 h1 h2
  exact lv_pop C.1 C.2.1 hd ((enc_cat α v).trans hc) (k α H locs ls hR hS hl h0 h1 (wfl_t h2))
theorem V_dup_x1 {v w : SV} (C : Cx p l s m args meth c D B tW α0 own cc nL ret mn tab) (hd : decode cc pc = .ok (.dup_x1, 1)) (hc : scat v = 1) (hc2 : scat w = 1) (k : V p l e R s m args below meth c D B α0 ν0 nL Q cells slots ν ι ρ ℓ (pc + 1) lv (v :: w :: v :: st)) : V p l e R s m args below meth c D B α0 ν0 nL Q cells slots ν ι ρ ℓ pc lv (v :: w :: st) := by
  intro α H locs ls hR hS hl h0 h1 h2
  exact lv_dup_x1 C.1 C.2.1 hd ((enc_cat α v).trans hc) ((enc_cat α w).trans hc2) (k α H locs ls hR hS hl h0 h1 (wfl_c (wfl_h h2) (wfl_c (wfl_h (wfl_t h2)) (wfl_c (wfl_h h2) (wfl_t (wfl_t h2))))))
theorem V_dup_x2 {v w u : SV} (C : Cx p l s m args meth c D B tW α0 own cc nL ret mn tab) (hd : decode cc pc = .ok (.dup_x2, 1)) (hc : scat v = 1) (hc2 : scat w = 1) (hc3 : scat u = 1) (k : V p l e R s m args below meth c D B α0 ν0 nL Q cells slots ν ι ρ ℓ (pc + 1) lv (v :: w :: u :: v :: st)) : V p l e R s m args below meth c D B α0 ν0 nL Q cells slots ν ι ρ ℓ pc lv (v :: w :: u :: st) := by
  intro α H locs ls hR hS hl h0 h1 h2
  exact lv_dup_x2 C.1 C.2.1 hd ((enc_cat α v).trans hc) ((enc_cat α w).trans hc2) ((enc_cat α u).trans hc3) (k α H locs ls hR hS hl h0 h1 (wfl_c (wfl_h h2) (wfl_c (wfl_h (wfl_t h2)) (wfl_c (wfl_h (wfl_t (wfl_t h2))) (wfl_c (wfl_h h2) (wfl_t (wfl_t (wfl_t h2))))))))
theorem V_dup2 {v w : SV} (C : Cx p l s m args meth c D B tW α0 own cc nL ret mn tab) (hd : decode cc pc = .ok (.dup2, 1)) (hc : scat v = 1) (hc2 : scat w = 1) (k : V p l e R s m args below meth c D B α0 ν0 nL Q cells slots ν ι ρ ℓ (pc + 1) lv (v :: w :: v :: w :: st)) : V p l e R s m args below meth c D B α0 ν0 nL Q cells slots ν ι ρ ℓ pc lv (v :: w :: st) := by
  intro α H locs ls hR hS hl h0 h1 h2
  exact lv_dup2_11 C.1 C.2.1 hd ((enc_cat α v).trans hc) ((enc_cat α w).trans hc2) (k α H locs ls hR hS hl h0 h1 (wfl_c (wfl_h h2) (wfl_c (wfl_h (wfl_t h2)) h2)))
theorem V_if_eq {x : Int32} {off : Int} {tgt : Nat} (C : Cx p l s m args meth c D B tW α0 own cc nL ret mn tab) (hd : decode cc pc = .ok (.ifCond .eq off, 3)) (ht : (pc : Int) + off = (tgt : Int)) (kt : x = 0 → V p l e R s m args below meth c D B α0 ν0 nL Q cells slots ν ι ρ ℓ tgt lv st) (kf : ¬ x = 0 → V p l e R s m args below meth c D B α0 ν0 nL Q cells slots ν ι ρ ℓ (pc + 3) lv st) : V p l e R s m args below meth c D B α0 ν0 nL Q cells slots ν ι ρ ℓ pc lv (sI x :: st) := by
  intro α H locs ls hR hS hl h0 h1 h2
  exact lv_if_eq C.1 C.2.1 hd ht (fun z => kt z α H locs ls hR hS hl h0 h1 (wfl_t h2)) (fun z => kf z α H locs ls hR hS hl h0 h1 (wfl_t h2))
theorem V_icmp_eq {x y : Int32} {off : Int} {tgt : Nat} (C : Cx p l s m args meth c D B tW α0 own cc nL ret mn tab) (hd : decode cc pc = .ok (.if_icmp .eq off, 3)) (ht : (pc : Int) + off = (tgt : Int)) (kt : x = y → V p l e R s m args below meth c D B α0 ν0 nL Q cells slots ν ι ρ ℓ tgt lv st) (kf : ¬ x = y → V p l e R s m args below meth c D B α0 ν0 nL Q cells slots ν ι ρ ℓ (pc + 3) lv st) : V p l e R s m args below meth c D B α0 ν0 nL Q cells slots ν ι ρ ℓ pc lv (sI y :: sI x :: st) := by
  intro α H locs ls hR hS hl h0 h1 h2
  exact lv_icmp_eq C.1 C.2.1 hd ht (fun z => kt z α H locs ls hR hS hl h0 h1 (wfl_t (wfl_t h2))) (fun z => kf z α H locs ls hR hS hl h0 h1 (wfl_t (wfl_t h2)))
theorem V_if_ne {x : Int32} {off : Int} {tgt : Nat} (C : Cx p l s m args meth c D B tW α0 own cc nL ret mn tab) (hd : decode cc pc = .ok (.ifCond .ne off, 3)) (ht : (pc : Int) + off = (tgt : Int)) (kt : ¬ x = 0 → V p l e R s m args below meth c D B α0 ν0 nL Q cells slots ν ι ρ ℓ tgt lv st) (kf : x = 0 → V p l e R s m args below meth c D B α0 ν0 nL Q cells slots ν ι ρ ℓ (pc + 3) lv st) : V p l e R s m args below meth c D B α0 ν0 nL Q cells slots ν ι ρ ℓ pc lv (sI x :: st) := by
  intro α H locs ls hR hS hl h0 h1 h2
  exact lv_if_ne C.1 C.2.1 hd ht (fun z => kt z α H locs ls hR hS hl h0 h1 (wfl_t h2)) (fun z => kf z α H locs ls hR hS hl h0 h1 (wfl_t h2))
theorem V_icmp_ne {x y : Int32} {off : Int} {tgt : Nat} (C : Cx p l s m args meth c D B tW α0 own cc nL ret mn tab) (hd : decode cc pc = .ok (.if_icmp .ne off, 3)) (ht : (pc : Int) + off = (tgt : Int)) (kt : ¬ x = y → V p l e R s m args below meth c D B α0 ν0 nL Q cells slots ν ι ρ ℓ tgt lv st) (kf : x = y → V p l e R s m args below meth c D B α0 ν0 nL Q cells slots ν ι ρ ℓ (pc + 3) lv st) : V p l e R s m args below meth c D B α0 ν0 nL Q cells slots ν ι ρ ℓ pc lv (sI y :: sI x :: st) := by
  intro α H locs ls hR hS hl h0 h1 h2
  exact lv_icmp_ne C.1 C.2.1 hd ht (fun z => kt z α H locs ls hR hS hl h0 h1 (wfl_t (wfl_t h2))) (fun z => kf z α H locs ls hR hS hl h0 h1 (wfl_t (wfl_t h2)))
theorem V_if_lt {x : Int32} {off : Int} {tgt : Nat} (C : Cx p l s m args meth c D B tW α0 own cc nL ret mn tab) (hd : decode cc pc = .ok (.ifCond .lt off, 3)) (ht : (pc : Int) + off = (tgt : Int)) (kt : x < 0 → V p l e R s m args below meth c D B α0 ν0 nL Q cells slots ν ι ρ ℓ tgt lv st) (kf : ¬ x < 0 → V p l e R s m args below meth c D B α0 ν0 nL Q cells slots ν ι ρ ℓ (pc + 3) lv st) : V p l e R s m args below meth c D B α0 ν0 nL Q cells slots ν ι ρ ℓ pc lv (sI x :: st) := by
  intro α H locs ls hR hS hl h0 h1 h2
  exact lv_if_lt C.1 C.2.1 hd ht (fun z => kt z α H locs ls hR hS hl h0 h1 (wfl_t h2)) (fun z => kf z α H locs ls hR hS hl h0 h1 (wfl_t h2))
theorem V_icmp_lt {x y : Int32} {off : Int} {tgt : Nat} (C : Cx p l s m args meth c D B tW α0 own cc nL ret mn tab) (hd : decode cc pc = .ok (.if_icmp .lt off, 3)) (ht : (pc : Int) + off = (tgt : Int)) (kt : x < y → V p l e R s m args below meth c D B α0 ν0 nL Q cells slots ν ι ρ ℓ tgt lv st) (kf : ¬ x < y → V p l e R s m args below meth c D B α0 ν0 nL Q cells slots ν ι ρ ℓ (pc + 3) lv st) : V p l e R s m args below meth c D B α0 ν0 nL Q cells slots ν ι ρ ℓ pc lv (sI y :: sI x :: st) := by
  intro α H locs ls hR hS hl h0 h1 h2
  exact lv_icmp_lt C.1 C.2.1 hd ht (fun z => kt z α H locs ls hR hS hl h0 h1 (wfl_t (wfl_t h2))) (fun z => kf z α H locs ls hR hS hl h0 h1 (wfl_t (wfl_t h2)))
theorem V_if_ge {x : Int32} {off : Int} {tgt : Nat} (C : Cx p l s m args meth c D B tW α0 own cc nL ret mn tab) (hd : decode cc pc = .ok (.ifCond .ge off, 3)) (ht : (pc : Int) + off = (tgt : Int)) (kt : 0 ≤ x → V p l e R s m args below meth c D B α0 ν0 nL Q cells slots ν ι ρ ℓ tgt lv st) (kf : ¬ 0 ≤ x → V p l e R s m args below meth c D B α0 ν0 nL Q cells slots ν ι ρ ℓ (pc + 3) lv st) : V p l e R s m args below meth c D B α0 ν0 nL Q cells slots ν ι ρ ℓ pc lv (sI x :: st) := by
  intro α H locs ls hR hS hl h0 h1 h2
  exact lv_if_ge C.1 C.2.1 hd ht (fun z => kt z α H locs ls hR hS hl h0 h1 (wfl_t h2)) (fun z => kf z α H locs ls hR hS hl h0 h1 (wfl_t h2))
theorem V_icmp_ge {x y : Int32} {off : Int} {tgt : Nat} (C : Cx p l s m args meth c D B tW α0 own cc nL ret mn tab) (hd : decode cc pc = .ok (.if_icmp .ge off, 3)) (ht : (pc : Int) + off = (tgt : Int)) (kt : y ≤ x → V p l e R s m args below meth c D B α0 ν0 nL Q cells slots ν ι ρ ℓ tgt lv st) (kf : ¬ y ≤ x → V p l e R s m args below meth c D B α0 ν0 nL Q cells slots ν ι ρ ℓ (pc + 3) lv st) : V p l e R s m args below meth c D B α0 ν0 nL Q cells slots ν ι ρ ℓ pc lv (sI y :: sI x :: st) := by
  intro α H locs ls hR hS hl h0 h1 h2
  exact lv_icmp_ge C.1 C.2.1 hd ht (fun z => kt z α H locs ls hR hS hl h0 h1 (wfl_t (wfl_t h2))) (fun z => kf z α H locs ls hR hS hl h0 h1 (wfl_t (wfl_t h2)))
theorem V_if_gt {x : Int32} {off : Int} {tgt : Nat} (C : Cx p l s m args meth c D B tW α0 own cc nL ret mn tab) (hd : decode cc pc = .ok (.ifCond .gt off, 3)) (ht : (pc : Int) + off = (tgt : Int)) (kt : 0 < x → V p l e R s m args below meth c D B α0 ν0 nL Q cells slots ν ι ρ ℓ tgt lv st) (kf : ¬ 0 < x → V p l e R s m args below meth c D B α0 ν0 nL Q cells slots ν ι ρ ℓ (pc + 3) lv st) : V p l e R s m args below meth c D B α0 ν0 nL Q cells slots ν ι ρ ℓ pc lv (sI x :: st) := by
  intro α H locs ls hR hS hl h0 h1 h2
  exact lv_if_gt C.1 C.2.1 hd ht (fun z => kt z α H locs ls hR hS hl h0 h1 (wfl_t h2)) (fun z => kf z α H locs ls hR hS hl h0 h1 (wfl_t h2))
theorem V_icmp_gt {x y : Int32} {off : Int} {tgt : Nat} (C : Cx p l s m args meth c D B tW α0 own cc nL ret mn tab) (hd : decode cc pc = .ok (.if_icmp .gt off, 3)) (ht : (pc : Int) + off = (tgt : Int)) (kt : y < x → V p l e R s m args below meth c D B α0 ν0 nL Q cells slots ν ι ρ ℓ tgt lv st) (kf : ¬ y < x → V p l e R s m args below meth c D B α0 ν0 nL Q cells slots ν ι ρ ℓ (pc + 3) lv st) : V p l e R s m args below meth c D B α0 ν0 nL Q cells slots ν ι ρ ℓ pc lv (sI y :: sI x :: st) := by
  intro α H locs ls hR hS hl h0 h1 h2
  exact lv_icmp_gt C.1 C.2.1 hd ht (fun z => kt z α H locs ls hR hS hl h0 h1 (wfl_t (wfl_t h2))) (fun z => kf z α H locs ls hR hS hl h0 h1 (wfl_t (wfl_t h2)))
theorem V_if_le {x : Int32} {off : Int} {tgt : Nat} (C : Cx p l s m args meth c D B tW α0 own cc nL ret mn tab) (hd : decode cc pc = .ok (.ifCond .le off, 3)) (ht : (pc : Int) + off = (tgt : Int)) (kt : x ≤ 0 → V p l e R s m args below meth c D B α0 ν0 nL Q cells slots ν ι ρ ℓ tgt lv st) (kf : ¬ x ≤ 0 → V p l e R s m args below meth c D B α0 ν0 nL Q cells slots ν ι ρ ℓ (pc + 3) lv st) : V p l e R s m args below meth c D B α0 ν0 nL Q cells slots ν ι ρ ℓ pc lv (sI x :: st) := by
  intro α H locs ls hR hS hl h0 h1 h2
  exact lv_if_le C.1 C.2.1 hd ht (fun z => kt z α H locs ls hR hS hl h0 h1 (wfl_t h2)) (fun z => kf z α H locs ls hR hS hl h0 h1 (wfl_t h2))
theorem V_icmp_le {x y : Int32} {off : Int} {tgt : Nat} (C : Cx p l s m args meth c D B tW α0 own cc nL ret mn tab) (hd : decode cc pc = .ok (.if_icmp .le off, 3)) (ht : (pc : Int) + off = (tgt : Int)) (kt : x ≤ y → V p l e R s m args below meth c D B α0 ν0 nL Q cells slots ν ι ρ ℓ tgt lv st) (kf : ¬ x ≤ y → V p l e R s m args below meth c D B α0 ν0 nL Q cells slots ν ι ρ ℓ (pc + 3) lv st) : V p l e R s m args below meth c D B α0 ν0 nL Q cells slots ν ι ρ ℓ pc lv (sI y :: sI x :: st) := by
  intro α H locs ls hR hS hl h0 h1 h2
  exact lv_icmp_le C.1 C.2.1 hd ht (fun z => kt z α H locs ls hR hS hl h0 h1 (wfl_t (wfl_t h2))) (fun z => kf z α H locs ls hR hS hl h0 h1 (wfl_t (wfl_t h2)))
theorem V_goto {off : Int} {tgt : Nat} (C : Cx p l s m args meth c D B tW α0 own cc nL ret mn tab) (hd : decode cc pc = .ok (.goto off, 3)) (ht : (pc : Int) + off = (tgt : Int)) (k : V p l e R s m args below meth c D B α0 ν0 nL Q cells slots ν ι ρ ℓ tgt lv st) : V p l e R s m args below meth c D B α0 ν0 nL Q cells slots ν ι ρ ℓ pc lv st := by
  intro α H locs ls hR hS hl h0 h1 h2
  exact lv_goto C.1 C.2.1 hd ht (k α H locs ls hR hS hl h0 h1 h2)
theorem V_ifnull {q : Option Pt3} {off : Int} {tgt : Nat} (C : Cx p l s m args meth c D B tW α0 own cc nL ret mn tab) (hd : decode cc pc = .ok (.ifnull off, 3)) (ht : (pc : Int) + off = (tgt : Int)) (kt : q = none → V p l e R s m args below meth c D B α0 ν0 nL Q cells slots ν ι ρ ℓ tgt lv st) (kf : ∀ z, q = some z → V p l e R s m args below meth c D B α0 ν0 nL Q cells slots ν ι ρ ℓ (pc + 3) lv st) : V p l e R s m args below meth c D B α0 ν0 nL Q cells slots ν ι ρ ℓ pc lv (sQ q :: st) := by
  intro α H locs ls hR hS hl h0 h1 h2
  cases q with
  | none => exact lv_ifnullN C.1 C.2.1 hd ht (kt rfl α H locs ls hR hS hl h0 h1 (wfl_t h2))
  | some z => exact lv_ifnull C.1 C.2.1 hd (kf z rfl α H locs ls hR hS hl h0 h1 (wfl_t h2))
theorem V_ifnonnull {q : Option Pt3} {off : Int} {tgt : Nat} (C : Cx p l s m args meth c D B tW α0 own cc nL ret mn tab) (hd : decode cc pc = .ok (.ifnonnull off, 3)) (ht : (pc : Int) + off = (tgt : Int)) (kt : ∀ z, q = some z → V p l e R s m args below meth c D B α0 ν0 nL Q cells slots ν ι ρ ℓ tgt lv st) (kf : q = none → V p l e R s m args below meth c D B α0 ν0 nL Q cells slots ν ι ρ ℓ (pc + 3) lv st) : V p l e R s m args below meth c D B α0 ν0 nL Q cells slots ν ι ρ ℓ pc lv (sQ q :: st) := by
  intro α H locs ls hR hS hl h0 h1 h2
  cases q with
  | none => exact lv_ifnonnullN C.1 C.2.1 hd (kf rfl α H locs ls hR hS hl h0 h1 (wfl_t h2))
  | some z => exact lv_ifnonnull C.1 C.2.1 hd ht (kt z rfl α H locs ls hR hS hl h0 h1 (wfl_t h2))
theorem V_tswI {x : Int32} {dflt lo hi : Int} {offs : Array Int} {len : Nat} {off : Int} {tgt : Nat} (C : Cx p l s m args meth c D B tW α0 own cc nL ret mn tab) (hd : decode cc pc = .ok (.tableswitch dflt lo hi offs, len)) (hx1 : ¬ x.toInt < lo) (hx2 : ¬ hi < x.toInt) (ho : offs[(x.toInt - lo).toNat]? = some off) (ht : (pc : Int) + off = (tgt : Int)) (k : V p l e R s m args below meth c D B α0 ν0 nL Q cells slots ν ι ρ ℓ tgt lv st) : V p l e R s m args below meth c D B α0 ν0 nL Q cells slots ν ι ρ ℓ pc lv (sI x :: st) := by
  intro α H locs ls hR hS hl h0 h1 h2
  exact lv_tableIn C.1 C.2.1 hd hx1 hx2 ho ht (k α H locs ls hR hS hl h0 h1 (wfl_t h2))
theorem V_tswO {x : Int32} {dflt lo hi : Int} {offs : Array Int} {len : Nat} {tgt : Nat} (C : Cx p l s m args meth c D B tW α0 own cc nL ret mn tab) (hd : decode cc pc = .ok (.tableswitch dflt lo hi offs, len)) (hx1 : x.toInt < lo ∨ hi < x.toInt) (ht : (pc : Int) + dflt = (tgt : Int)) (k : V p l e R s m args below meth c D B α0 ν0 nL Q cells slots ν ι ρ ℓ tgt lv st) : V p l e R s m args below meth c D B α0 ν0 nL Q cells slots ν ι ρ ℓ pc lv (sI x :: st) := by
  intro α H locs ls hR hS hl h0 h1 h2
  exact lv_tableOut C.1 C.2.1 hd hx1 ht (k α H locs ls hR hS hl h0 h1 (wfl_t h2))
theorem tsw_out {x : Int32} {lo : Int} (n : Nat) (hlo : -1000 ≤ lo ∧ lo + n ≤ 1000) (h : ∀ t : Nat, t < n → x ≠ Int32.ofInt (lo + t)) : x.toInt < lo ∨ lo + n - 1 < x.toInt := by
  rcases Int.lt_or_le x.toInt lo with h1 | h1
  · exact Or.inl h1
  · rcases Int.lt_or_le (lo + n - 1) x.toInt with h2 | h2
    · exact Or.inr h2
    · refine absurd ?_ (h (x.toInt - lo).toNat (by omega))
      apply Int32.toInt_inj.mp
      rw [Int32.toInt_ofInt_of_le (by omega) (by omega)]
      omega
theorem V_topi {x : Int32} (k : ∀ y : Int32, y = x → V p l e R s m args below meth c D B α0 ν0 nL Q cells slots ν ι ρ ℓ pc lv (sI y :: st)) : V p l e R s m args below meth c D B α0 ν0 nL Q cells slots ν ι ρ ℓ pc lv (sI x :: st) := k x rfl
theorem V_topl {x : Int64} (k : ∀ y : Int64, y = x → V p l e R s m args below meth c D B α0 ν0 nL Q cells slots ν ι ρ ℓ pc lv (sL y :: st)) : V p l e R s m args below meth c D B α0 ν0 nL Q cells slots ν ι ρ ℓ pc lv (sL x :: st) := k x rfl
theorem V_eqi {x y : Int32} (h : x = y) (k : V p l e R s m args below meth c D B α0 ν0 nL Q cells slots ν ι ρ ℓ pc lv (sI y :: st)) : V p l e R s m args below meth c D B α0 ν0 nL Q cells slots ν ι ρ ℓ pc lv (sI x :: st) := h ▸ k
theorem V_eql {x y : Int64} (h : x = y) (k : V p l e R s m args below meth c D B α0 ν0 nL Q cells slots ν ι ρ ℓ pc lv (sL y :: st)) : V p l e R s m args below meth c D B α0 ν0 nL Q cells slots ν ι ρ ℓ pc lv (sL x :: st) := h ▸ k
theorem V_wid {k n : Nat} (h1 : cells ≤ k) (h2 : slots ≤ n) (kk : V p l e R s m args below meth c D B α0 ν0 nL Q k n ν ι ρ ℓ pc lv st) : V p l e R s m args below meth c D B α0 ν0 nL Q cells slots ν ι ρ ℓ pc lv st := fun α H locs ls hR hS hl h0 g1 g2 => W.widen h1 h2 (kk α H locs ls hR hS hl h0 g1 g2)
section Ret
variable {mc ms : Nat} {Po : PoT} {PX : PxT}
theorem V_iret {x : Int32} (C : Cx p l s m args meth c D B tW α0 own cc nL ret mn tab) (hQ : Q = vx_MQ below (cQ D B α0 ν0 Po) (cX D B α0 ν0 PX) args s mc ms (uB B)) (hc : cells ≤ mc) (hs : slots ≤ ms) (hd : decode cc pc = .ok (.ireturn, 1)) (hr : ret = some .int) (hp : Po (some (sI x)) ν ι ρ ℓ) : V p l e R s m args below meth c D B α0 ν0 nL Q cells slots ν ι ρ ℓ pc lv [sI x] := by
  intro α H locs ls hR hS hl h0 h1 h2
  subst hQ
  refine W.widen hc hs (vx_ret ?_)
  exact W.iret C.1 C.2.1 (C.2.2.2.2.2.2.2.1.trans hr) (fun t ht hW => ⟨⟨α, ν, ι, ρ, ℓ, some (sI x), rfl, hp, by rw [ht]; exact hR, h0, fun w hw => by cases hw; exact wfv_I⟩, hS.F ht⟩) hS.2.2 hd C.2.2.2.2.2.2.2.2.1
theorem V_zret {x : Int32} (C : Cx p l s m args meth c D B tW α0 own cc nL ret mn tab) (hQ : Q = vx_MQ below (cQ D B α0 ν0 Po) (cX D B α0 ν0 PX) args s mc ms (uB B)) (hc : cells ≤ mc) (hs : slots ≤ ms) (hd : decode cc pc = .ok (.ireturn, 1)) (hr : ret = some .boolean) (hn : narrow .boolean (.int x) = .int x) (hp : Po (some (sI x)) ν ι ρ ℓ) : V p l e R s m args below meth c D B α0 ν0 nL Q cells slots ν ι ρ ℓ pc lv [sI x] := by
  intro α H locs ls hR hS hl h0 h1 h2
  subst hQ
  refine W.widen hc hs (vx_ret ?_)
  exact W.zret C.1 C.2.1 (C.2.2.2.2.2.2.2.1.trans hr) hn (fun t ht hW => ⟨⟨α, ν, ι, ρ, ℓ, some (sI x), rfl, hp, by rw [ht]; exact hR, h0, fun w hw => by cases hw; exact wfv_I⟩, hS.F ht⟩) hS.2.2 hd C.2.2.2.2.2.2.2.2.1
theorem V_lret {x : Int64} (C : Cx p l s m args meth c D B tW α0 own cc nL ret mn tab) (hQ : Q = vx_MQ below (cQ D B α0 ν0 Po) (cX D B α0 ν0 PX) args s mc ms (uB B)) (hc : cells ≤ mc) (hs : slots ≤ ms) (hd : decode cc pc = .ok (.lreturn, 1)) (hr : ret = some .long) (hp : Po (some (sL x)) ν ι ρ ℓ) : V p l e R s m args below meth c D B α0 ν0 nL Q cells slots ν ι ρ ℓ pc lv [sL x] := by
  intro α H locs ls hR hS hl h0 h1 h2
  subst hQ
  refine W.widen hc hs (vx_ret ?_)
  exact W.lret C.1 C.2.1 (C.2.2.2.2.2.2.2.1.trans hr) (fun t ht hW => ⟨⟨α, ν, ι, ρ, ℓ, some (sL x), rfl, hp, by rw [ht]; exact hR, h0, fun w hw => by cases hw; exact wfv_L⟩, hS.F ht⟩) hS.2.2 hd C.2.2.2.2.2.2.2.2.1
theorem V_vret  (C : Cx p l s m args meth c D B tW α0 own cc nL ret mn tab) (hQ : Q = vx_MQ below (cQ D B α0 ν0 Po) (cX D B α0 ν0 PX) args s mc ms (uB B)) (hc : cells ≤ mc) (hs : slots ≤ ms) (hd : decode cc pc = .ok (.return_, 1)) (hr : ret = none) (hp : Po none ν ι ρ ℓ) : V p l e R s m args below meth c D B α0 ν0 nL Q cells slots ν ι ρ ℓ pc lv [] := by
  intro α H locs ls hR hS hl h0 h1 h2
  subst hQ
  refine W.widen hc hs (vx_ret ?_)
  exact W.vret C.1 C.2.1 (C.2.2.2.2.2.2.2.1.trans hr) (fun t ht hW => ⟨⟨α, ν, ι, ρ, ℓ, none, rfl, hp, by rw [ht]; exact hR, h0, fun w hw => by cases hw⟩, hS.F ht⟩) hS.2.2 hd C.2.2.2.2.2.2.2.2.1
theorem V_aret {q : Option Pt3} {rc : String} (C : Cx p l s m args meth c D B tW α0 own cc nL ret mn tab) (hQ : Q = vx_MQ below (cQ D B α0 ν0 Po) (cX D B α0 ν0 PX) args s mc ms (uB B)) (hc : cells ≤ mc) (hs : slots ≤ ms) (hd : decode cc pc = .ok (.areturn, 1)) (hr : ret = some (.object rc)) (hp : Po (some (sQ q)) ν ι ρ ℓ) : V p l e R s m args below meth c D B α0 ν0 nL Q cells slots ν ι ρ ℓ pc lv [sQ q] := by
  intro α H locs ls hR hS hl h0 h1 h2
  subst hQ
  refine W.widen hc hs (vx_ret ?_)
  exact W.aret (v := enc α (sQ q)) C.1 C.2.1 (C.2.2.2.2.2.2.2.1.trans hr) (Or.inl ⟨_, rfl⟩) (by cases q with | none => exact Or.inl rfl | some z => exact Or.inr ⟨_, rfl⟩) (fun t ht hW => ⟨⟨α, ν, ι, ρ, ℓ, some (sQ q), rfl, hp, by rw [ht]; exact hR, h0, fun w hw => by cases hw; exact wfl_h h2⟩, hS.F ht⟩) hS.2.2 hd C.2.2.2.2.2.2.2.2.1
theorem V_throwS {E text : String} {ik is ic : Nat} (C : Cx p l s m args meth c D B tW α0 own cc nL ret mn tab) (hQ : Q = vx_MQ below (cQ D B α0 ν0 Po) (cX D B α0 ν0 PX) args s mc ms (uB B)) (ht : tab = []) (hE : Bundle.fit E = true) (hk : Cond.classLink own ik E ∈ tb_) (hini : Cond.initialized E ∈ tb_) (hstr : (own, is, text) ∈ st_)
    (hat : ∀ w ∈ (vx_atS own ic E ["java/lang/RuntimeException", "java/lang/Exception"]).filter goodWord, w ∈ tb_) (hat2 : ∀ w ∈ (vx_atS own ic E ["java/lang/RuntimeException", "java/lang/Exception"]).filter (fun w => !goodWord w), w ∈ [Cond.castable E E, Cond.declares ⟨"java/lang/RuntimeException", "<init>", "(Ljava/lang/String;)V"⟩, Cond.declares ⟨"java/lang/Exception", "<init>", "(Ljava/lang/String;)V"⟩, Cond.declares ⟨"java/lang/Throwable", "<init>", "(Ljava/lang/String;)V"⟩]) (hca : (E, E) ∈ nwC)
    (hgd : ∀ w ∈ Cond.classLink own ik E :: Cond.initialized E :: vx_atS own ic E ["java/lang/RuntimeException", "java/lang/Exception"], vx_ot w = true)
    (d0 : decode cc pc = .ok (.new ik, 3)) (d3 : decode cc (pc + 3) = .ok (.dup, 1)) (d4 : decode cc (pc + 4) = .ok (.ldc is, 2)) (d6 : decode cc (pc + 6) = .ok (.invokespecial ic, 3)) (d9 : decode cc (pc + 9) = .ok (.athrow, 1))
    (hRf : 5 < R.frames) (hRl : (st.map scat).sum + 82 ≤ R.locals) (hRc : cells + 1 ≤ R.cells) (hRs : slots + 6 ≤ R.slots) (hc1 : cells + 1 ≤ mc) (hs1 : slots + 6 ≤ ms) (hp : PX E ν ι ρ ℓ) : V p l e R s m args below meth c D B α0 ν0 nL Q cells slots ν ι ρ ℓ pc lv st := by
  intro α H locs ls hR hS hl h0 h1 h2
  subst hQ
  obtain ⟨a, ha⟩ := C.2.2.2.2.2.1.1.2.2.2.2.2.2.2.1 _ hstr
  have hcat : ((st.map (enc α)).map fun v => v.category).sum = (st.map scat).sum := by
    rw [List.map_map]
    exact congrArg List.sum (List.map_congr_left fun v _ => enc_cat α v)
  refine vx_throwS (names := ["java/lang/RuntimeException", "java/lang/Exception"]) (A := uB B) C.1 C.2.1 C.2.2.2.2.2.2.2.2.2.1 C.2.2.2.1 hE (by decide) (C.2.2.2.2.1 _ hk) (C.2.2.2.2.1 _ hini) ha ?_ hgd C.2.2.2.2.2.1.2.1 C.2.2.2.2.2.1.2.2.1 hS (hl.1.trans C.2.2.1.symm) d0 d3 d4 d6 d9 ?_ hRf ?_ hRc hRs C.2.2.2.2.2.2.2.2.1 ?_ hS.2.2 hc1 hs1
  · refine vx_hat (fun w hw => C.2.2.2.2.1 w (hat w hw)) hat2 (vx_c ?_ (vx_c ?_ (vx_c ?_ (vx_c ?_ vx_n))))
    · exact va_Nw.use rfl (C.2.2.2.2.2.1.1.2.2.2.2.1 _ hca)
    · exact va_Nw.use rfl (C.2.2.2.2.2.1.1.2.2.2.2.2.2.2.2 "java/lang/RuntimeException" (by decide))
    · exact va_Nw.use rfl (C.2.2.2.2.2.1.1.2.2.2.2.2.2.2.2 "java/lang/Exception" (by decide))
    · exact va_Nw.use rfl (C.2.2.2.2.2.1.1.2.2.2.2.2.2.2.2 "java/lang/Throwable" (by decide))
  · rw [C.2.2.2.2.2.2.2.2.2.2.1, ht]
    exact fun x hx => nomatch hx
  · rw [hcat]; exact hRl
  · intro t hal hz hq
    refine ⟨⟨α, ν, ι, ρ, ℓ, hp, ?_, h0⟩, ?_, ?_⟩
    · refine ⟨hR.1, fun r i j n hn => ?_, hR.2.2.1, Nat.le_trans hR.2.2.2 hz⟩
      obtain ⟨g1, g2, g3, g4⟩ := hR.2.1 r i j n hn
      exact ⟨g1, g2, g3.to rfl (hq _ g3.lt) (fun _ _ => rfl), g4⟩
    · exact Nat.le_trans hS.1 hz
    · intro q hq1 hq2
      rw [hq q (Nat.lt_of_lt_of_le hq1 hS.1)]
      exact hS.2.1 q hq1 hq2
end Ret
end Am
