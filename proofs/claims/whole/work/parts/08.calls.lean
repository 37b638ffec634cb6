def sarg : Nat → List SV → List (Nat × SV)
  | _, [] => []
  | i, v :: t => (i, v) :: sarg (i + scat v) t
theorem sarg_eq (α : Ad) (as : List SV) : ∀ i, lv_args i (as.map (enc α)) = (sarg i as).map (fun q => (q.1, enc α q.2)) := by
  induction as with
  | nil => intro i; rfl
  | cons v t ih =>
    intro i
    show (i, enc α v) :: lv_args (if (enc α v).category = 2 then i + 2 else i + 1) (t.map (enc α)) = (i, enc α v) :: (sarg (i + scat v) t).map (fun q => (q.1, enc α q.2))
    rw [enc_cat, ih]
    rcases v with x | x | _ | q <;> rfl
theorem sarg_snd (as : List SV) : ∀ i, (sarg i as).map Prod.snd = as := by
  induction as with
  | nil => intro i; rfl
  | cons v t ih =>
    intro i
    show v :: (sarg (i + scat v) t).map Prod.snd = v :: t
    rw [ih]
theorem lg_sl_len (α : Ad) (as : List SV) : (lg_sl (as.map (enc α))).length = (as.map scat).sum := by
  induction as with
  | nil => rfl
  | cons v t ih =>
    have e : lg_sl ((v :: t).map (enc α)) = (if (enc α v).category = 2 then [Slot.val (enc α v), .second] else [Slot.val (enc α v)]) ++ lg_sl (t.map (enc α)) := rfl
    rw [e, List.length_append, ih, enc_cat, List.map_cons, List.sum_cons]
    rcases v with x | x | _ | q <;> rfl
theorem goodTb {ws : List Cond} (h : ∀ w ∈ ws, w ∈ tb_) : GoodIn tb_ ws := fun w hw => ⟨h w hw, good_of_word (tb_good w (h w hw))⟩
theorem Ct.ofV {y : MethodName} {cc : ByteArray} {maxL : Nat} {ret : Option FieldType} {rm : Room} {as : List SV} {ν : Nu} {ι : Io} {ρ : Ro} {ℓ : Lo} {Po : PoT} {PX : PxT} {lv : List (Nat × SV)} (hy : plainName y.cls = true) (hlen : (as.map scat).sum ≤ maxL) (hlv : sarg 0 as = lv)
    (body : ∀ (p : Program) (l : Launch) (e : Env) (s : State) (m : MethodId) (args : Array Value) (below : List Frame) (meth : Method) (c : Code) (D : GD) (B tW : Nat) (α0 : Ad) (Q : State → Prop), Cx p l s m args meth c D B tW α0 y.cls cc maxL ret y.name [] → Q = vx_MQ below (cQ D B α0 ν Po) (cX D B α0 ν PX) args s rm.cells rm.slots (uB B) →
      V p l e rm s m args below meth c D B α0 ν maxL Q 0 0 ν ι ρ ℓ 0 lv []) : Ct y (Cond.code y cc maxL ret :: tb_) rm as ν ι ρ ℓ Po PX := by
  intro l D B tW α hl
  refine vx_ofW (cc := cc) (maxL := maxL) (ret := ret) hy rfl ?_
  intro p e s m args below meth c s₁ Bd hml ht hv
  obtain ⟨rfl, hR, hK, h99, hwf⟩ := hv
  have hts := atoms_spec (ws := Cond.code y cc maxL ret :: tb_) Bd.pre
  have htab : c.exceptionTable.toList = [] := List.eq_nil_iff_forall_not_mem.mpr fun x hx => ht x hx
  rw [lg_entry_eq]
  have hle := lv_entry (as.map (enc α)) (n := maxL) (by rw [lg_sl_len]; exact hlen)
  rw [sarg_eq, hlv] at hle
  exact body p l e s m _ below meth c D B tW α _ ⟨Bd.exec, Bd.bytes, hml, findClass_of_methodNamed Bd.named, fun w hw => hts w (List.mem_cons_of_mem _ hw), hK, hR.2.2.2, Bd.returns, Bd.notSynchronized, hl, htab, (name_of_methodNamed Bd.named Bd.method).1, h99⟩ rfl α s.heap [] _ hR va_S.rf hle agr.rf (by rw [← hlv, sarg_snd]; exact hwf) wfl_n
theorem Ct.ofVH {y : MethodName} {cc : ByteArray} {maxL : Nat} {ret : Option FieldType} {hh : List (Nat × Nat × Nat × Nat)} {rm : Room} {as : List SV} {ν : Nu} {ι : Io} {ρ : Ro} {ℓ : Lo} {Po : PoT} {PX : PxT} {lv : List (Nat × SV)} (hy : plainName y.cls = true) (hlen : (as.map scat).sum ≤ maxL) (hlv : sarg 0 as = lv)
    (body : ∀ (p : Program) (l : Launch) (e : Env) (s : State) (m : MethodId) (args : Array Value) (below : List Frame) (meth : Method) (c : Code) (D : GD) (B tW : Nat) (α0 : Ad) (Q : State → Prop), Cx p l s m args meth c D B tW α0 y.cls cc maxL ret y.name (tableOf hh) → Q = vx_MQ below (cQ D B α0 ν Po) (cX D B α0 ν PX) args s rm.cells rm.slots (uB B) →
      V p l e rm s m args below meth c D B α0 ν maxL Q 0 0 ν ι ρ ℓ 0 lv []) : Ct y (Cond.codeWith y cc maxL ret hh :: tb_) rm as ν ι ρ ℓ Po PX := by
  intro l D B tW α hl
  refine vx_ofWH (cc := cc) (maxL := maxL) (ret := ret) (hh := hh) hy rfl ?_
  intro p e s m args below meth c s₁ Bd hml hv
  obtain ⟨rfl, hR, hK, h99, hwf⟩ := hv
  have hts := atoms_spec (ws := Cond.codeWith y cc maxL ret hh :: tb_) Bd.pre
  have htab : c.exceptionTable.toList = tableOf hh := vx_table (x := y) Bd (hts _ List.mem_cons_self)
  rw [lg_entry_eq]
  have hle := lv_entry (as.map (enc α)) (n := maxL) (by rw [lg_sl_len]; exact hlen)
  rw [sarg_eq, hlv] at hle
  exact body p l e s m _ below meth c D B tW α _ ⟨Bd.exec, Bd.bytes, hml, findClass_of_methodNamed Bd.named, fun w hw => hts w (List.mem_cons_of_mem _ hw), hK, hR.2.2.2, Bd.returns, Bd.notSynchronized, hl, htab, (name_of_methodNamed Bd.named Bd.method).1, h99⟩ rfl α s.heap [] _ hR va_S.rf hle agr.rf (by rw [← hlv, sarg_snd]; exact hwf) wfl_n
theorem Ct.met {y : MethodName} {ws : List Cond} {rm : Room} {as : List SV} {ν : Nu} {ι : Io} {ρ : Ro} {ℓ : Lo} {Po : PoT} (h : Ct y ws rm as ν ι ρ ℓ Po noX) (l : Launch) (D : GD) (B tW : Nat) (α : Ad) (hl : l.stackTraces = false) : Met l y ws rm (cP D B tW α ν ι ρ ℓ as) (cQ D B α ν Po) rm.cells rm.slots (uB B) := by
  intro p e ha hc hk s m args below hf happ hP hK
  obtain ⟨n, o, h1, h2, h3, h4⟩ := h l D B tW α hl p e ha hc hk s m args below hf happ hP hK
  refine ⟨n, o, h1, h2, h3, ?_⟩
  rcases h4 with h | ⟨q, -, E, ce, L, ⟨⟨α, ν, ι, ρ, ℓ, hF, -⟩, -⟩, -⟩
  · exact h
  · exact hF.elim
theorem cP_blind {D : GD} {B tW : Nat} {α : Ad} {ν : Nu} {ι : Io} {ρ : Ro} {ℓ : Lo} {as : List SV} : FrameBlind (cP D B tW α ν ι ρ ℓ as) := by
  intro a U g mk h
  exact ⟨h.1, h.2.1, KS.to (U := U.calling g mk a) h.2.2.1 (State.WarmedH.refl U) (fun _ _ _ => rfl), h.2.2.2⟩
/-- what the tables say of a method of ours -/
def MtV (y : MethodName) (bytes : ByteArray) (maxL : Nat) (ret : Option FieldType) (n : Nat) : Prop := Cond.instanceMethod y ∈ tb_ ∧ Cond.selects y.cls y y ∈ tb_ ∧ Cond.initialized y.cls ∈ tb_ ∧ Cond.code y bytes maxL ret ∈ tb_ ∧ y.cls ≠ "java/lang/invoke/MethodHandle" ∧ y.cls ≠ "java/lang/invoke/VarHandle" ∧ (parseMethodDescriptor y.desc).map (fun d => d.parameters.length) = some n
def MtS (y : MethodName) (bytes : ByteArray) (maxL : Nat) (ret : Option FieldType) (n : Nat) : Prop := Cond.static y ∈ tb_ ∧ Cond.initialized y.cls ∈ tb_ ∧ Cond.code y bytes maxL ret ∈ tb_ ∧ y.cls ≠ "java/lang/invoke/MethodHandle" ∧ y.cls ≠ "java/lang/invoke/VarHandle" ∧ (parseMethodDescriptor y.desc).map (fun d => d.parameters.length) = some n
def MtI (y : MethodName) (bytes : ByteArray) (maxL : Nat) (n : Nat) : Prop := Cond.instanceMethod y ∈ tb_ ∧ Cond.initialized y.cls ∈ tb_ ∧ Cond.code y bytes maxL none ∈ tb_ ∧ y.cls ≠ "java/lang/invoke/MethodHandle" ∧ y.cls ≠ "java/lang/invoke/VarHandle" ∧ (parseMethodDescriptor y.desc).map (fun d => d.parameters.length) = some n ∧ y.name = "<init>"
def MtW (y : MethodName) (bytes : ByteArray) (maxL : Nat) (ret : Option FieldType) (hh : List (Nat × Nat × Nat × Nat)) (n : Nat) : Prop := Cond.static y ∈ tb_ ∧ Cond.initialized y.cls ∈ tb_ ∧ Cond.codeWith y bytes maxL ret hh ∈ tb_ ∧ y.cls ≠ "java/lang/invoke/MethodHandle" ∧ y.cls ≠ "java/lang/invoke/VarHandle" ∧ (parseMethodDescriptor y.desc).map (fun d => d.parameters.length) = some n
section Am4
variable {p : Program} {l : Launch} {e : Env} {R : Room} {s : State} {m : MethodId} {args : Array Value} {below : List Frame} {meth : Method} {c : Code} {D : GD} {B tW : Nat} {α0 : Ad} {ν0 : Nu} {own : String} {cc : ByteArray} {nL : Nat} {ret : Option FieldType} {mn : String} {tab : List ExceptionTableEntry} {Q : State → Prop} {cells slots : Nat} {ν : Nu} {ι : Io} {ρ : Ro} {ℓ : Lo} {pc : Nat} {lv lv' : List (Nat × SV)} {st : List SV}
theorem cat_sum (α : Ad) (st : List SV) : ((st.map (enc α)).map fun v => v.category).sum = (st.map scat).sum := by
  rw [List.map_map]
  exact congrArg List.sum (List.map_congr_left fun v _ => enc_cat α v)
/-- behind a call that returned -/
theorem call_back {α : Ad} {H : Heap} {locs : List Loc} {ls : Array Slot} {Po' : PoT} {mc' ms' : Nat} {a : Array Value} {st₀ t T' : State} {v : Option Value} {L : List Loc}
    (hS : va_S (uB B) s.heap H locs) (hl : lv_has ls nL (lv.map (fun q => (q.1, enc α q.2)))) (h0 : agr α0 ν0 α ν) (h1 : wfl ν (lv.map Prod.snd)) (h2 : wfl ν st)
    (e0 : st₀.heap = H) (X' : Stand p l e R s m args below meth c T' (locs ++ L) (cells + mc') (slots + ms')) (hL : ∀ q ∈ L, uB B q.base) (e1 : T'.heap = t.heap) (hq : cQ D B α ν Po' a st₀ (.returned v) t)
    (kk : ∀ (v' : Option SV) (ν' : Nu) (ι' : Io) (ρ' : Ro) (ℓ' : Lo), Po' v' ν' ι' ρ' ℓ' → V p l e R s m args below meth c D B α0 ν0 nL Q (cells + mc') (slots + ms') ν' ι' ρ' ℓ' (pc + 3) lv (v'.toList ++ st)) : ∃ t2, Steps p.tables e below (T'.setTop (F0 m (pc + 3) ls (v.toList ++ st.map (enc α)))) t2 ∧ Q t2 := by
  obtain ⟨⟨α', ν', ι', ρ', ℓ', v', hv, hp, hR', ag, hwv⟩, hF⟩ := hq
  cases Outcome.returned.inj hv
  have hl' : lv_has ls nL (lv.map (fun q => (q.1, enc α' q.2))) := by
    rw [show lv.map (fun q => (q.1, enc α' q.2)) = lv.map (fun q => (q.1, enc α q.2)) from List.map_congr_left fun q hq => by rw [enc_ag (h1 q.2 (List.mem_map.mpr ⟨q, hq, rfl⟩)) ag.2]]
    exact hl
  have hst : st.map (enc α') = st.map (enc α) := encl_ag h2 ag.2
  obtain ⟨k1, k2, k3⟩ := vx_keep (H0 := s.heap) (A0 := uB B) (free := uB B) e0 e1 hS (fun q _ h => h) (fun q h => h) hL hF
  have hw2 : wfl ν' (v'.toList ++ st) := by
    intro w hw
    rcases List.mem_append.mp hw with h | h
    · cases v' with
      | none => cases h
      | some z => exact hwv w (by rw [List.mem_singleton.mp h])
    · exact wfl_up h2 ag.alv w h
  obtain ⟨t2, g1, g2⟩ := kk v' ν' ι' ρ' ℓ' hp α' T'.heap (locs ++ L) ls (by rw [e1]; exact hR') k3 hl' (h0.tr ag) (wfl_up h1 ag.alv) hw2 T' rfl X'
  refine ⟨t2, ?_, g2⟩
  rw [List.map_append, hst] at g1
  have e5 : (v'.map (enc α')).toList = v'.toList.map (enc α') := by cases v' <;> rfl
  rw [e5]
  exact g1
theorem V_callV {y : MethodName} {bytes : ByteArray} {maxL' n' idx : Nat} {ret' : Option FieldType} {rm' : Room} {as : List SV} {Po' : PoT} {r i j N : Nat} {T1 : u_T} (C : Cx p l s m args meth c D B tW α0 own cc nL ret mn tab) (hd : decode cc pc = .ok (.invokevirtual idx, 3)) (hM : Ct y (Cond.code y bytes maxL' ret' :: tb_) rm' (sR r i j :: as) ν ι ρ ℓ Po' noX) (hY : MtV y bytes maxL' ret' n') (hF : ClF r y.cls T1 N) (hw : Cond.methodLink own idx y ∈ tb_) (ha : ν r i j ≠ none) (hRm : rm'.frames + 1 ≤ R.frames ∧ 8 + (maxL' + 11) + rm'.locals ≤ R.locals) (hst8 : (st.map scat).sum ≤ 8) (hfit : cells + rm'.cells ≤ R.cells ∧ slots + rm'.slots ≤ R.slots) (hlen : as.length = n') (kk : ∀ (v' : Option SV) (ν' : Nu) (ι' : Io) (ρ' : Ro) (ℓ' : Lo), Po' v' ν' ι' ρ' ℓ' → V p l e R s m args below meth c D B α0 ν0 nL Q (cells + rm'.cells) (slots + rm'.slots) ν' ι' ρ' ℓ' (pc + 3) lv (v'.toList ++ st)) : V p l e R s m args below meth c D B α0 ν0 nL Q cells slots ν ι ρ ℓ pc lv (as.reverse ++ sR r i j :: st) := by
  intro α H locs ls hR hS hl h0 h1 h2
  obtain ⟨n9, hn9⟩ := Option.ne_none_iff_exists'.mp ha
  obtain ⟨q9, w3, w4, cell, q1, q2, q3, -⟩ := (hR.2.1 r i j n9 hn9).2.2.1.1 hF.1
  cases hF.2.1.symm.trans w3
  have hrec : ∃ cellB : Cell, H[α r i j]? = some cellB ∧ cellB.vm.isStatics = false ∧ s.vm.findClass y.cls = some cellB.cls := ⟨cell, q1, by rw [q3]; rfl, by rw [q2]; exact (C.2.2.2.2.2.1.1.1 r _ hF.2.1).2.1⟩
  have hpre : ∀ U : State, U.heap = H → s.WarmedH U.vm → cP D B tW α ν ι ρ ℓ (sR r i j :: as) (Value.ref (α r i j) :: as.map (enc α)).toArray U := fun U hU hW => ⟨rfl, by rw [hU]; exact hR, C.2.2.2.2.2.1.to hW (fun q g1 g2 => by rw [hU]; exact hS.2.1 q g1 g2), (h0.2 99 0 0 (Or.inl (by decide))).trans C.2.2.2.2.2.2.2.2.2.2.2.2, fun w hw => h2 w ((List.mem_cons.mp hw).elim (fun z => z ▸ List.mem_append_right _ List.mem_cons_self) (fun z => List.mem_append_left _ (List.mem_reverse.mpr z)))⟩
  have h2s : wfl ν st := fun w hw => h2 w (List.mem_append_right _ (List.mem_cons_of_mem _ hw))
  rw [List.map_append, List.map_reverse, List.map_cons]
  have hrun := va_runV (e := e) (below := below) (meth := meth) (locs := locs) (cells := cells) (slots := slots) (As := as.map (enc α)) (b := α r i j) (rest := st.map (enc α)) (g := F0 m pc ls ((as.map (enc α)).reverse ++ .ref (α r i j) :: st.map (enc α))) (Ts := tb_) (n := n') ⟨C.1, C.2.1, C.2.2.1, C.2.2.2.1, C.2.2.2.2.1⟩ (hM.met l D B tW α C.2.2.2.2.2.2.2.2.2.1)
    (cwV (C := y.cls) n' C.2.2.2.2.1 (goodTb (by
      intro w hw9
      simp only [wsV, List.mem_append, List.mem_cons, List.not_mem_nil, or_false] at hw9
      rcases hw9 with (rfl | rfl | rfl | rfl) | rfl | h
      · exact hw
      · exact hY.1
      · exact hY.2.1
      · exact hY.2.2.1
      · exact hY.2.2.2.1
      · exact h)) rfl rfl rfl ⟨rfl, hY.2.2.2.2⟩ hRm) ⟨cP_blind, hrec, hpre⟩ rfl (by rw [List.length_map]; exact hlen) hl.1 rfl (lv_room (by rw [cat_sum]; exact hst8)) hd hfit
  intro T hT X
  obtain ⟨v, st₀, t, T', L, e0, X', hL, e1, e2, hq, hgo⟩ := hrun T hT X
  obtain ⟨t2, g1, g2⟩ := call_back hS hl h0 h1 h2s e0 X' hL e1 hq kk
  exact ⟨t2, hgo t2 g1, g2⟩
theorem V_callS {y : MethodName} {bytes : ByteArray} {maxL' n' idx : Nat} {ret' : Option FieldType} {rm' : Room} {as : List SV} {Po' : PoT} (C : Cx p l s m args meth c D B tW α0 own cc nL ret mn tab) (hd : decode cc pc = .ok (.invokestatic idx, 3)) (hM : Ct y (Cond.code y bytes maxL' ret' :: tb_) rm' as ν ι ρ ℓ Po' noX) (hY : MtS y bytes maxL' ret' n') (hw : Cond.methodLink own idx y ∈ tb_) (hRm : rm'.frames + 1 ≤ R.frames ∧ 8 + (maxL' + 11) + rm'.locals ≤ R.locals) (hst8 : (st.map scat).sum ≤ 8) (hfit : cells + rm'.cells ≤ R.cells ∧ slots + rm'.slots ≤ R.slots) (hlen : as.length = n') (kk : ∀ (v' : Option SV) (ν' : Nu) (ι' : Io) (ρ' : Ro) (ℓ' : Lo), Po' v' ν' ι' ρ' ℓ' → V p l e R s m args below meth c D B α0 ν0 nL Q (cells + rm'.cells) (slots + rm'.slots) ν' ι' ρ' ℓ' (pc + 3) lv (v'.toList ++ st)) : V p l e R s m args below meth c D B α0 ν0 nL Q cells slots ν ι ρ ℓ pc lv (as.reverse ++ st) := by
  intro α H locs ls hR hS hl h0 h1 h2
  have hpre : ∀ U : State, U.heap = H → s.WarmedH U.vm → cP D B tW α ν ι ρ ℓ (as) (as.map (enc α)).toArray U := fun U hU hW => ⟨rfl, by rw [hU]; exact hR, C.2.2.2.2.2.1.to hW (fun q g1 g2 => by rw [hU]; exact hS.2.1 q g1 g2), (h0.2 99 0 0 (Or.inl (by decide))).trans C.2.2.2.2.2.2.2.2.2.2.2.2, fun w hw => h2 w (List.mem_append_left _ (List.mem_reverse.mpr hw))⟩
  have h2s : wfl ν st := fun w hw => h2 w (List.mem_append_right _ hw)
  rw [List.map_append, List.map_reverse]
  have hrun := va_runS (e := e) (below := below) (meth := meth) (locs := locs) (cells := cells) (slots := slots) (As := as.map (enc α)) (rest := st.map (enc α)) (g := F0 m pc ls ((as.map (enc α)).reverse ++ st.map (enc α))) (Ts := tb_) (n := n') ⟨C.1, C.2.1, C.2.2.1, C.2.2.2.1, C.2.2.2.2.1⟩ (hM.met l D B tW α C.2.2.2.2.2.2.2.2.2.1)
    (va_cwS n' C.2.2.2.2.1 (goodTb (by
      intro w hw9
      simp only [va_wsS, List.mem_append, List.mem_cons, List.not_mem_nil, or_false] at hw9
      rcases hw9 with (rfl | rfl | rfl) | rfl | h
      · exact hw
      · exact hY.1
      · exact hY.2.1
      · exact hY.2.2.1
      · exact h)) rfl rfl rfl hY.2.2.2 hRm) ⟨cP_blind, hpre⟩ rfl (by rw [List.length_map]; exact hlen) hl.1 rfl (lv_room (by rw [cat_sum]; exact hst8)) hd hfit
  intro T hT X
  obtain ⟨v, st₀, t, T', L, e0, X', hL, e1, e2, hq, hgo⟩ := hrun T hT X
  obtain ⟨t2, g1, g2⟩ := call_back hS hl h0 h1 h2s e0 X' hL e1 hq kk
  exact ⟨t2, hgo t2 g1, g2⟩
theorem V_callSN {y : MethodName} {bytes : ByteArray} {maxL' n' idx : Nat} {ret' : Option FieldType} {rm' : Room} {as : List SV} {Po' : PoT} {host : String} (C : Cx p l s m args meth c D B tW α0 own cc nL ret mn tab) (hd : decode cc pc = .ok (.invokestatic idx, 3)) (hM : Ct y (Cond.code y bytes maxL' ret' :: tb_) rm' as ν ι ρ ℓ Po' noX) (hY : MtS y bytes maxL' ret' n') (hw : (own, idx, y, host) ∈ nwM) (hRm : rm'.frames + 1 ≤ R.frames ∧ 8 + (maxL' + 11) + rm'.locals ≤ R.locals) (hst8 : (st.map scat).sum ≤ 8) (hfit : cells + rm'.cells ≤ R.cells ∧ slots + rm'.slots ≤ R.slots) (hlen : as.length = n') (kk : ∀ (v' : Option SV) (ν' : Nu) (ι' : Io) (ρ' : Ro) (ℓ' : Lo), Po' v' ν' ι' ρ' ℓ' → V p l e R s m args below meth c D B α0 ν0 nL Q (cells + rm'.cells) (slots + rm'.slots) ν' ι' ρ' ℓ' (pc + 3) lv (v'.toList ++ st)) : V p l e R s m args below meth c D B α0 ν0 nL Q cells slots ν ι ρ ℓ pc lv (as.reverse ++ st) := by
  intro α H locs ls hR hS hl h0 h1 h2
  have hpre : ∀ U : State, U.heap = H → s.WarmedH U.vm → cP D B tW α ν ι ρ ℓ (as) (as.map (enc α)).toArray U := fun U hU hW => ⟨rfl, by rw [hU]; exact hR, C.2.2.2.2.2.1.to hW (fun q g1 g2 => by rw [hU]; exact hS.2.1 q g1 g2), (h0.2 99 0 0 (Or.inl (by decide))).trans C.2.2.2.2.2.2.2.2.2.2.2.2, fun w hw => h2 w (List.mem_append_left _ (List.mem_reverse.mpr hw))⟩
  have h2s : wfl ν st := fun w hw => h2 w (List.mem_append_right _ hw)
  rw [List.map_append, List.map_reverse]
  have hrun := va_runSN (host := host) (e := e) (below := below) (meth := meth) (locs := locs) (cells := cells) (slots := slots) (As := as.map (enc α)) (rest := st.map (enc α)) (g := F0 m pc ls ((as.map (enc α)).reverse ++ st.map (enc α))) (Ts := tb_) (n := n') ⟨C.1, C.2.1, C.2.2.1, C.2.2.2.1, C.2.2.2.2.1⟩ (hM.met l D B tW α C.2.2.2.2.2.2.2.2.2.1)
    ⟨va_cnB n' C.2.2.2.2.1 (goodTb (by
      intro w hw9
      rcases List.mem_cons.mp hw9 with rfl | h
      · exact hY.2.2.1
      · exact h)) rfl rfl rfl (C.2.2.2.2.2.1.1.2.2.1 _ hw) (C.2.2.2.2.1 _ hY.2.1) hY.2.2.2 hRm, C.2.2.2.2.1 _ hY.1, trivial⟩ ⟨cP_blind, hpre⟩ rfl (by rw [List.length_map]; exact hlen) hl.1 rfl (lv_room (by rw [cat_sum]; exact hst8)) hd hfit
  intro T hT X
  obtain ⟨v, st₀, t, T', L, e0, X', hL, e1, e2, hq, hgo⟩ := hrun T hT X
  obtain ⟨t2, g1, g2⟩ := call_back hS hl h0 h1 h2s e0 X' hL e1 hq kk
  exact ⟨t2, hgo t2 g1, g2⟩
theorem V_callI {y : MethodName} {bytes : ByteArray} {maxL' n' idx : Nat} {rm' : Room} {as : List SV} {Po' : PoT} {r i j : Nat} (C : Cx p l s m args meth c D B tW α0 own cc nL ret mn tab) (hd : decode cc pc = .ok (.invokespecial idx, 3)) (hM : Ct y (Cond.code y bytes maxL' none :: tb_) rm' (sR r i j :: as) ν ι ρ ℓ Po' noX) (hY : MtI y bytes maxL' n') (hw : Cond.methodLink own idx y ∈ tb_) (hRm : rm'.frames + 1 ≤ R.frames ∧ 8 + (maxL' + 11) + rm'.locals ≤ R.locals) (hst8 : (st.map scat).sum ≤ 8) (hfit : cells + rm'.cells ≤ R.cells ∧ slots + rm'.slots ≤ R.slots) (hlen : as.length = n') (kk : ∀ (v' : Option SV) (ν' : Nu) (ι' : Io) (ρ' : Ro) (ℓ' : Lo), Po' v' ν' ι' ρ' ℓ' → V p l e R s m args below meth c D B α0 ν0 nL Q (cells + rm'.cells) (slots + rm'.slots) ν' ι' ρ' ℓ' (pc + 3) lv (v'.toList ++ st)) : V p l e R s m args below meth c D B α0 ν0 nL Q cells slots ν ι ρ ℓ pc lv (as.reverse ++ sR r i j :: st) := by
  intro α H locs ls hR hS hl h0 h1 h2
  have hpre : ∀ U : State, U.heap = H → s.WarmedH U.vm → cP D B tW α ν ι ρ ℓ (sR r i j :: as) (Value.ref (α r i j) :: as.map (enc α)).toArray U := fun U hU hW => ⟨rfl, by rw [hU]; exact hR, C.2.2.2.2.2.1.to hW (fun q g1 g2 => by rw [hU]; exact hS.2.1 q g1 g2), (h0.2 99 0 0 (Or.inl (by decide))).trans C.2.2.2.2.2.2.2.2.2.2.2.2, fun w hw => h2 w ((List.mem_cons.mp hw).elim (fun z => z ▸ List.mem_append_right _ List.mem_cons_self) (fun z => List.mem_append_left _ (List.mem_reverse.mpr z)))⟩
  have h2s : wfl ν st := fun w hw => h2 w (List.mem_append_right _ (List.mem_cons_of_mem _ hw))
  rw [List.map_append, List.map_reverse, List.map_cons]
  have hrun := va_runI (e := e) (below := below) (meth := meth) (locs := locs) (cells := cells) (slots := slots) (As := as.map (enc α)) (b := α r i j) (rest := st.map (enc α)) (g := F0 m pc ls ((as.map (enc α)).reverse ++ .ref (α r i j) :: st.map (enc α))) (Ts := tb_) (n := n') ⟨C.1, C.2.1, C.2.2.1, C.2.2.2.1, C.2.2.2.2.1⟩ (hM.met l D B tW α C.2.2.2.2.2.2.2.2.2.1)
    ⟨callB_of n' C.2.2.2.2.1 (goodTb (by
      intro w hw9
      rcases List.mem_cons.mp hw9 with rfl | h
      · exact hY.2.2.1
      · exact h)) rfl rfl rfl (C.2.2.2.2.1 _ hY.2.1) (C.2.2.2.2.1 _ hw) ⟨hY.2.2.2.1, hY.2.2.2.2.1, hY.2.2.2.2.2.1⟩ hRm, hY.2.2.2.2.2.2, C.2.2.2.2.1 _ hY.1⟩ ⟨cP_blind, hpre⟩ rfl (by rw [List.length_map]; exact hlen) hl.1 rfl (lv_room (by rw [cat_sum]; exact hst8)) hd hfit
  intro T hT X
  obtain ⟨v, st₀, t, T', L, e0, X', hL, e1, e2, hq, hgo⟩ := hrun T hT X
  obtain ⟨t2, g1, g2⟩ := call_back hS hl h0 h1 h2s e0 X' hL e1 hq kk
  exact ⟨t2, hgo t2 g1, g2⟩
theorem V_callIN {y : MethodName} {bytes : ByteArray} {maxL' n' idx : Nat} {rm' : Room} {as : List SV} {Po' : PoT} {r i j : Nat} {host : String} (C : Cx p l s m args meth c D B tW α0 own cc nL ret mn tab) (hd : decode cc pc = .ok (.invokespecial idx, 3)) (hM : Ct y (Cond.code y bytes maxL' none :: tb_) rm' (sR r i j :: as) ν ι ρ ℓ Po' noX) (hY : MtI y bytes maxL' n') (hw : (own, idx, y, host) ∈ nwM) (hRm : rm'.frames + 1 ≤ R.frames ∧ 8 + (maxL' + 11) + rm'.locals ≤ R.locals) (hst8 : (st.map scat).sum ≤ 8) (hfit : cells + rm'.cells ≤ R.cells ∧ slots + rm'.slots ≤ R.slots) (hlen : as.length = n') (kk : ∀ (v' : Option SV) (ν' : Nu) (ι' : Io) (ρ' : Ro) (ℓ' : Lo), Po' v' ν' ι' ρ' ℓ' → V p l e R s m args below meth c D B α0 ν0 nL Q (cells + rm'.cells) (slots + rm'.slots) ν' ι' ρ' ℓ' (pc + 3) lv (v'.toList ++ st)) : V p l e R s m args below meth c D B α0 ν0 nL Q cells slots ν ι ρ ℓ pc lv (as.reverse ++ sR r i j :: st) := by
  intro α H locs ls hR hS hl h0 h1 h2
  have hpre : ∀ U : State, U.heap = H → s.WarmedH U.vm → cP D B tW α ν ι ρ ℓ (sR r i j :: as) (Value.ref (α r i j) :: as.map (enc α)).toArray U := fun U hU hW => ⟨rfl, by rw [hU]; exact hR, C.2.2.2.2.2.1.to hW (fun q g1 g2 => by rw [hU]; exact hS.2.1 q g1 g2), (h0.2 99 0 0 (Or.inl (by decide))).trans C.2.2.2.2.2.2.2.2.2.2.2.2, fun w hw => h2 w ((List.mem_cons.mp hw).elim (fun z => z ▸ List.mem_append_right _ List.mem_cons_self) (fun z => List.mem_append_left _ (List.mem_reverse.mpr z)))⟩
  have h2s : wfl ν st := fun w hw => h2 w (List.mem_append_right _ (List.mem_cons_of_mem _ hw))
  rw [List.map_append, List.map_reverse, List.map_cons]
  have hrun := va_runIN (host := host) (e := e) (below := below) (meth := meth) (locs := locs) (cells := cells) (slots := slots) (As := as.map (enc α)) (b := α r i j) (rest := st.map (enc α)) (g := F0 m pc ls ((as.map (enc α)).reverse ++ .ref (α r i j) :: st.map (enc α))) (Ts := tb_) (n := n') ⟨C.1, C.2.1, C.2.2.1, C.2.2.2.1, C.2.2.2.2.1⟩ (hM.met l D B tW α C.2.2.2.2.2.2.2.2.2.1)
    ⟨va_cnB n' C.2.2.2.2.1 (goodTb (by
      intro w hw9
      rcases List.mem_cons.mp hw9 with rfl | h
      · exact hY.2.2.1
      · exact h)) rfl rfl rfl (C.2.2.2.2.2.1.1.2.2.1 _ hw) (C.2.2.2.2.1 _ hY.2.1) ⟨hY.2.2.2.1, hY.2.2.2.2.1, hY.2.2.2.2.2.1⟩ hRm, hY.2.2.2.2.2.2, C.2.2.2.2.1 _ hY.1⟩ ⟨cP_blind, hpre⟩ rfl (by rw [List.length_map]; exact hlen) hl.1 rfl (lv_room (by rw [cat_sum]; exact hst8)) hd hfit
  intro T hT X
  obtain ⟨v, st₀, t, T', L, e0, X', hL, e1, e2, hq, hgo⟩ := hrun T hT X
  obtain ⟨t2, g1, g2⟩ := call_back hS hl h0 h1 h2s e0 X' hL e1 hq kk
  exact ⟨t2, hgo t2 g1, g2⟩
theorem V_objI {r i j idx : Nat} (C : Cx p l s m args meth c D B tW α0 own cc nL ret mn tab) (hd : decode cc pc = .ok (.invokespecial idx, 3)) (hw : Cond.methodLink own idx Lib.objectInit ∈ tb_) (hw2 : Cond.instanceMethod Lib.objectInit ∈ tb_ ∧ Cond.code Lib.objectInit ⟨#[0xb1]⟩ 1 none ∈ tb_) (hRf : 1 ≤ R.frames) (hRl : (st.map scat).sum + 12 ≤ R.locals) (k : V p l e R s m args below meth c D B α0 ν0 nL Q cells slots ν ι ρ ℓ (pc + 3) lv st) : V p l e R s m args below meth c D B α0 ν0 nL Q cells slots ν ι ρ ℓ pc lv (sR r i j :: st) := by
  intro α H locs ls hR hS hl h0 h1 h2
  exact W.objInit C.1 C.2.1 C.2.2.2.1 (C.2.2.2.2.1 _ hw) (C.2.2.2.2.1 _ hw2.1) (C.2.2.2.2.1 _ hw2.2) rfl (hl.1.trans C.2.2.1.symm) rfl hd hRf (by show 2 * 0 + _ + 12 ≤ _; rw [cat_sum]; omega) (k α H locs ls hR hS hl h0 h1 (wfl_t h2))
theorem V_mmax {x y : Int32} {idx : Nat} (C : Cx p l s m args meth c D B tW α0 own cc nL ret mn tab) (hd : decode cc pc = .ok (.invokestatic idx, 3)) (hw : Cond.methodLink own idx Lib.Math.max.name ∈ tb_) (hw2 : Cond.static Lib.Math.max.name ∈ tb_ ∧ Cond.initialized "java/lang/Math" ∈ tb_ ∧ Cond.code Lib.Math.max.name Lib.Math.max.code 2 (some .int) ∈ tb_) (hRf : 1 ≤ R.frames) (hRl : (st.map scat).sum + 13 ≤ R.locals) (hc : cells ≤ R.cells) (hs : slots ≤ R.slots) (k : V p l e R s m args below meth c D B α0 ν0 nL Q cells slots ν ι ρ ℓ (pc + 3) lv (sI (if x < y then y else x) :: st)) : V p l e R s m args below meth c D B α0 ν0 nL Q cells slots ν ι ρ ℓ pc lv (sI y :: sI x :: st) := by
  intro α H locs ls hR hS hl h0 h1 h2
  exact va_mmax C.1 C.2.1 (C.2.2.1.trans hl.1.symm) C.2.2.2.1 (C.2.2.2.2.1 _ hw) (C.2.2.2.2.1 _ hw2.1) (C.2.2.2.2.1 _ hw2.2.1) (C.2.2.2.2.1 _ hw2.2.2) hRf (by rw [cat_sum]; exact hRl) hc hs hd (k α H locs ls hR hS hl h0 h1 (wfl_c wfv_I (wfl_t (wfl_t h2))))
theorem V_mmin {x y : Int32} {idx : Nat} (C : Cx p l s m args meth c D B tW α0 own cc nL ret mn tab) (hd : decode cc pc = .ok (.invokestatic idx, 3)) (hw : Cond.methodLink own idx Lib.Math.min.name ∈ tb_) (hw2 : Cond.static Lib.Math.min.name ∈ tb_ ∧ Cond.initialized "java/lang/Math" ∈ tb_ ∧ Cond.code Lib.Math.min.name Lib.Math.min.code 2 (some .int) ∈ tb_) (hRf : 1 ≤ R.frames) (hRl : (st.map scat).sum + 13 ≤ R.locals) (hc : cells ≤ R.cells) (hs : slots ≤ R.slots) (k : V p l e R s m args below meth c D B α0 ν0 nL Q cells slots ν ι ρ ℓ (pc + 3) lv (sI (if y < x then y else x) :: st)) : V p l e R s m args below meth c D B α0 ν0 nL Q cells slots ν ι ρ ℓ pc lv (sI y :: sI x :: st) := by
  intro α H locs ls hR hS hl h0 h1 h2
  exact va_mmin C.1 C.2.1 (C.2.2.1.trans hl.1.symm) C.2.2.2.1 (C.2.2.2.2.1 _ hw) (C.2.2.2.2.1 _ hw2.1) (C.2.2.2.2.1 _ hw2.2.1) (C.2.2.2.2.1 _ hw2.2.2) hRf (by rw [cat_sum]; exact hRl) hc hs hd (k α H locs ls hR hS hl h0 h1 (wfl_c wfv_I (wfl_t (wfl_t h2))))
end Am4
