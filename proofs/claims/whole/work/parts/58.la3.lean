/-! THE CLAIM OUT OF ONE WALK OF THE LAW'S BODY. Your part is whole_start (and what it stands on); all else here is the same for every law, but numbers. -/
def R_law : String := "ObjectLinksLaw"
def lw_P (b : Addr) (xs : List Int32) (args : Array Value) (s : State) : Prop := args = #[.ref b] ∧ s.IntsAt b xs ∧ xs.length ≤ 3584 ∧ (Jvm.Cond.and given_1 narrow_1).before args s = true
def lw_Q (_ : Array Value) (s : State) (o : Outcome) (t : State) : Prop := o = .returned (some (.int 1)) ∧ Framed s o t [] 601024 7293034
def lw_Z (below : List Frame) (a : Array Value) (s : State) : State → Prop := fun t => ∃ o, t.status = .running ∧ Ended t below o ∧ lw_Q a s o t
/-- the law's own end, with 1 on the stack, nothing written that was there before, its room as the claim has it -/
theorem lw_ret {p : Program} {l : Launch} {e : Env} {s : State} {m : MethodId} {below : List Frame} {meth : Method} {c : Code} {b : Nat} (hx : p.tables.exec = Jvm.exec) (hb : c.code = code) (hr : meth.sig.returnType = ret) (hlocks : meth.locks = false) {pc : Nat} {H : Heap} {ls : Array Slot} (hdg : decode code pc = .ok (.ireturn, 1)) : W p l e room_1 s m #[Value.ref b] below meth c H [] 601024 7293034 (lw_Z below #[Value.ref b] s) (F0 m pc ls [.int 1]) := by
  intro T hT X
  obtain ⟨fs, hret, hrun, hended, hW, hframe⟩ := X.leave (v := some (.int 1)) (hlocks := hlocks) (fun h => by rw [hr] at h; cases h)
  have hmeth' : T.vm.method? m = some meth := X.method'
  refine ⟨T.setFrames fs, ?_, .returned (some (.int 1)), hrun, hended, rfl, ⟨_, rfl⟩, hW, hframe⟩
  jvm_step X.here [X.here.top, hx, hb, hdg, hmeth', hr, ret, narrow_b1]
  (try refine ⟨rfl, ?_⟩); (try refine ⟨rfl, ?_⟩)
  first | (intro acts; rw [hret _ acts rfl rfl rfl]) | rw [hret _ _ rfl rfl rfl]
  exact Steps.refl _
/-- what holds at the law's entry: the machine, the code, the tables' words (any of lw_tbl by 'hts w (by decide +kernel)'), the script of L ints xs at the cell b, what the Statement gives of the start (any of its parts by flat_of_before) -/
def lw_At (p : Program) (s : State) (m : MethodId) (meth : Method) (c : Code) (b L : Nat) (xs : Nat → Int32) : Prop :=
  p.tables.exec = Jvm.exec ∧ c.code = code ∧ meth.sig.returnType = ret ∧ c.maxLocals = 7 ∧ s.vm.findClass R_law = some m.cls ∧ (∀ w ∈ lw_tbl, w.before #[Value.ref b] s = true) ∧ va_X b L xs s s.heap ∧ b < s.heap.size ∧ meth.locks = false ∧ (Jvm.Cond.and given_1 narrow_1).before #[Value.ref b] s = true
theorem nwM_in : ∀ q ∈ nwM, Cond.methodLinkNest q.1 q.2.1 q.2.2.1 q.2.2.2 ∈ lw_tbl := by decide +kernel
theorem nwF_in : ∀ q ∈ nwF, Cond.fieldLinkNest q.1 q.2.1 q.2.2.1 q.2.2.2.1 q.2.2.2.2.1 q.2.2.2.2.2 ∈ lw_tbl := by decide +kernel
theorem nwC_in : ∀ q ∈ nwC, Cond.castable q.1 q.2 ∈ lw_tbl := by decide +kernel
theorem ao_in : ∀ q ∈ ao_, Cond.arrayOver (.object q) ∈ lw_tbl := by decide +kernel
theorem st_in : ∀ q ∈ st_, Cond.stringRef q.1 q.2.1 q.2.2 ∈ lw_tbl := by decide +kernel
theorem st_OL : ∀ q ∈ st_, q.1 = "ObjectLinks" := by decide +kernel
theorem dc_in : ∀ q ∈ dc_, Cond.declares ⟨q, "<init>", "(Ljava/lang/String;)V"⟩ ∈ lw_tbl := by decide +kernel
theorem ks_cls {s : State} {args : Array Value} (hts : ∀ w ∈ tb_, w.before args s = true) : ∀ c : Nat, ∃ y : ClassId × (Nat → Nat), ∀ q : vw_C, cls_[c]? = some q → u_Kn s q.1 q.2.1 q.2.2 y.1 y.2 := by
  have key : ∀ {r : Nat} {C : String} {T : u_T} {N : Nat}, ClF r C T N → ∃ y : ClassId × (Nat → Nat), ∀ q : vw_C, cls_[r]? = some q → u_Kn s q.1 q.2.1 q.2.2 y.1 y.2 := by
    intro r C T N h
    obtain ⟨cC, iS, hK⟩ := u_known (C := C) (T := T) (N := N) (n := N) hts h.2.2.1 (hts _ h.2.2.2.2.2.1)
    exact ⟨(cC, iS), fun q hq => by cases h.2.1.symm.trans hq; exact hK⟩
  intro c
  by_cases hc : c < 11
  · rcases (show c = 0 ∨ c = 1 ∨ c = 2 ∨ c = 3 ∨ c = 4 ∨ c = 5 ∨ c = 6 ∨ c = 7 ∨ c = 8 ∨ c = 9 ∨ c = 10 by omega) with rfl | rfl | rfl | rfl | rfl | rfl | rfl | rfl | rfl | rfl | rfl
    · exact key cf_Li
    · exact key cf_Me
    · exact key cf_Na
    · exact key cf_NT
    · exact key cf_Oc
    · exact key cf_Re
    · exact key cf_Rf
    · exact key cf_Se
    · exact key cf_Un
    · exact key cf_OL
    · exact key cf_Mo
  · refine ⟨(0, id), fun q hq => ?_⟩
    rw [List.getElem?_eq_none (show cls_.length ≤ c from Nat.le_of_not_lt hc)] at hq
    cases hq
theorem ks_arr {s : State} {args : Array Value} (hts : ∀ w ∈ tb_, w.before args s = true) (hao : ∀ C ∈ ao_, va_AO C s) : ∀ t : Nat, ∃ cA : ClassId, t < 8 → ArrOfT s cA (aty t) ∧ va_RA s cA (aty t) := by
  have hp : ∀ {ty : FieldType}, (Cond.arrayClass ty).before args s = true → ∃ cA kA comp, s.vm.findClass ("[" ++ ty.toString) = some cA ∧ s.vm.classes[cA]? = some kA ∧ kA.kind = .array comp ty := fun h => Cond.arrayClass_spec h
  have ho : ∀ {C : String}, C ∈ ao_ → ∃ cA : ClassId, ArrOfT s cA (.object C) ∧ va_RA s cA (.object C) := by
    intro C hC
    obtain ⟨comp, cA, kA, h1, -, h3, h4, h5⟩ := Cond.arrayOver_spec (show (Cond.arrayOver (.object C)).before #[] s = true from hao C hC)
    exact ⟨cA, fun n z => ⟨(fun k h => by cases h), kA, h3, comp, h4⟩, kA, comp, h3, h4, h1, h5⟩
  intro t
  by_cases ht : t < 8
  · rcases (show t = 0 ∨ t = 1 ∨ t = 2 ∨ t = 3 ∨ t = 4 ∨ t = 5 ∨ t = 6 ∨ t = 7 by omega) with rfl | rfl | rfl | rfl | rfl | rfl | rfl | rfl
    · obtain ⟨cA, kA, comp, h1, h2, h3⟩ := hp (hts _ k_arr_int)
      exact ⟨cA, fun _ => ⟨fun n z => ⟨(fun k h => by cases h), kA, h2, comp, h3⟩, h1⟩⟩
    · obtain ⟨cA, kA, comp, h1, h2, h3⟩ := hp (hts _ k_arr_boolean)
      exact ⟨cA, fun _ => ⟨fun n z => ⟨(fun k h => by cases h), kA, h2, comp, h3⟩, h1⟩⟩
    · obtain ⟨cA, kA, comp, h1, h2, h3⟩ := hp (hts _ k_arr_long)
      exact ⟨cA, fun _ => ⟨fun n z => ⟨(fun k h => by cases h), kA, h2, comp, h3⟩, h1⟩⟩
    · obtain ⟨cA, h⟩ := ho (C := "ObjectLinks$Unit") (by decide)
      exact ⟨cA, fun _ => h⟩
    · obtain ⟨cA, h⟩ := ho (C := "ObjectLinks$Section") (by decide)
      exact ⟨cA, fun _ => h⟩
    · obtain ⟨cA, h⟩ := ho (C := "ObjectLinks$Name") (by decide)
      exact ⟨cA, fun _ => h⟩
    · obtain ⟨cA, h⟩ := ho (C := "ObjectLinks$Reference") (by decide)
      exact ⟨cA, fun _ => h⟩
    · obtain ⟨cA, h⟩ := ho (C := "ObjectLinks$Meaning") (by decide)
      exact ⟨cA, fun _ => h⟩
  · exact ⟨0, fun h => absurd h ht⟩
set_option maxRecDepth 20000 in
theorem ks_at {p : Program} {s : State} {m : MethodId} {meth : Method} {c : Code} {b L : Nat} {xs : Nat → Int32} (C0 : lw_At p s m meth c b L xs) : ∃ (D : GD) (tW : Nat), KS D s.heap.size tW s := by
  obtain ⟨hx, hb, hr, hml, hown, hts, hX, hbl, hlocks, hgv⟩ := C0
  have hs := flat_of_before _ hgv
  have ht' : ∀ w ∈ tb_, w.before #[Value.ref b] s = true := fun w hw => hts w (List.mem_filter.mp hw).1
  have hao : ∀ C ∈ ao_, va_AO C s := fun C hC => va_AO.of (hts _ (ao_in C hC))
  obtain ⟨fC, hC⟩ := Classical.axiomOfChoice (ks_cls ht')
  obtain ⟨fA, hA⟩ := Classical.axiomOfChoice (ks_arr ht' hao)
  have hout : ∀ a : Nat, a < s.heap.size → ¬ uB s.heap.size a := fun a h => Nat.not_le.mpr h
  have hOL : s.vm.findClass "ObjectLinks" = some (fC 9).1 := (hC 9 _ rfl).2.1
  have hnc : ∀ q ∈ nc_, (Cond.not (.castable q.1 q.2)).before #[Value.ref b] s = true := by
    intro q hq
    simp only [nc_, List.mem_cons, List.not_mem_nil, or_false] at hq
    rcases hq with rfl | rfl | rfl | rfl | rfl | rfl | rfl | rfl | rfl | rfl | rfl | rfl <;> exact hs _ (by decide +kernel)
  have hel : ∀ j : Nat, j < 5 → (Term.elem (.static "ObjectLinks" "WIDTHS" "[I") (.int (Int32.ofNat j))).eval #[Value.ref b] s none [] s = some (wid_ j) := by
    intro j hj
    rcases (show j = 0 ∨ j = 1 ∨ j = 2 ∨ j = 3 ∨ j = 4 by omega) with rfl | rfl | rfl | rfl | rfl
    · exact va_eqt (z := 4) (hs _ (by decide +kernel))
    · exact va_eqt (z := 2) (hs _ (by decide +kernel))
    · exact va_eqt (z := 2) (hs _ (by decide +kernel))
    · exact va_eqt (z := 1) (hs _ (by decide +kernel))
    · exact va_eqt (z := 2) (hs _ (by decide +kernel))
  obtain ⟨tW, hev, hT⟩ := va_Tof (tm := .static "ObjectLinks" "WIDTHS" "[I") (ty := .int) (N := 5) (f := wid_) (A := uB s.heap.size) (by decide) (hs _ (by decide +kernel)) (va_eqt (z := 5) (hs _ (by decide +kernel))) hel hout
  refine ⟨(fun c => (fC c).1, fun c => (fC c).2, fA), tW, ⟨fun c q hq => hC c q hq, fun t ht => hA t ht, fun q hq => va_Nw.of rfl (hts _ (nwM_in q hq)), fun q hq => va_Nw.of rfl (hts _ (nwF_in q hq)), fun q hq => va_Nw.of rfl (hts _ (nwC_in q hq)), hao, fun q hq => va_Nc.of (hnc q hq), fun q hq => ?_, fun q hq => va_Nw.of rfl (hts _ (dc_in q hq))⟩, ?_, ?_, ?_, hT⟩
  · obtain ⟨k, cf, i, a, -, -, -, -, -, he⟩ := Cond.stringRef_spec (show s.vm.findClass q.1 = some (fC 9).1 by rw [st_OL q hq]; exact hOL) (hts _ (st_in q hq))
    exact ⟨a, vk_R.of (hts _ (st_in q hq)) he⟩
  · exact vx_Zqof (hts _ (by decide +kernel)) (hts _ (by decide +kernel)) (hs _ (by decide +kernel)) hout
  · exact vx_Zqof (hts _ (by decide +kernel)) (hts _ (by decide +kernel)) (hs _ (by decide +kernel)) hout
  · exact va_Zref (hts _ (by decide +kernel)) (hts _ (by decide +kernel)) hev hout
def pr2 (a b : Nat) : Nat := (a + b) * (a + b) + a
theorem pr2_inj {a b a' b' : Nat} (h : pr2 a b = pr2 a' b') : a = a' ∧ b = b' := by
  unfold pr2 at h
  have key : ∀ x y x' y' : Nat, (x + y) * (x + y) + x = (x' + y') * (x' + y') + x' → ¬ x + y < x' + y' := by
    intro x y x' y' h hlt
    have h1 : (x + y + 1) * (x + y + 1) ≤ (x' + y') * (x' + y') := Nat.mul_le_mul hlt hlt
    have h2 : (x + y + 1) * (x + y + 1) = (x + y) * (x + y) + 2 * (x + y) + 1 := by
      rw [Nat.add_mul, Nat.mul_add]
      omega
    omega
  have e : a + b = a' + b' := Nat.le_antisymm (Nat.le_of_not_lt (key _ _ _ _ h.symm)) (Nat.le_of_not_lt (key _ _ _ _ h))
  rw [e] at h
  omega
def ad0 (b tW : Nat) : Ad := fun r i j => if r = 98 then b else if r = 99 then tW else pr2 (pr2 r i) j
theorem ad0_inj {b tW : Nat} : ∀ x y z x' y' z', x < 98 → x' < 98 → ad0 b tW x y z = ad0 b tW x' y' z' → x = x' ∧ y = y' ∧ z = z' := by
  intro x y z x' y' z' h h' he
  unfold ad0 at he
  rw [if_neg (by omega), if_neg (by omega), if_neg (by omega), if_neg (by omega)] at he
  obtain ⟨h1, h2⟩ := pr2_inj he
  obtain ⟨h3, h4⟩ := pr2_inj h1
  exact ⟨h3, h4, h2⟩
abbrev nu0 : Nu := fun _ _ _ => none
abbrev io0 : Io := fun _ _ _ _ => 0
abbrev ro0 : Ro := fun _ _ _ _ => none
abbrev lo0 : Lo := fun _ _ _ _ => 0
theorem IV.n90 {ν : Nu} {ι : Io} {ρ : Ro} {N c w n z kn g : Nat} {x : Option Nat} (h : IV ν ι ρ N c w n z kn g) : IV (up3 ν 90 0 0 x) ι ρ N c w n z kn g := h
set_option maxHeartbeats 4000000 in
set_option maxRecDepth 20000 in
theorem whole_start {p : Program} {e : Env} {s : State} {m : MethodId} {below : List Frame} {meth : Method} {c : Code} (l : Launch) (hst0 : l.stackTraces = false) {b L : Nat} {xs : Nat → Int32} (hL : L ≤ 3584) (C0 : lw_At p s m meth c b L xs) : W p l e room_1 s m #[Value.ref b] below meth c s.heap [] 0 0 (lw_Z below #[Value.ref b] s) (entryFrame m ([Value.ref b] : List Value).toArray 7) := by
  obtain ⟨D, tW, hKS⟩ := ks_at C0
  obtain ⟨hx, hb, hr, hml, hown, hts, hX, hbl, hlocks, hgv⟩ := C0
  have C : Cx p l s m #[Value.ref b] meth c D s.heap.size tW (ad0 b tW) R_La b_La_law 7 ret meth.name c.exceptionTable.toList := ⟨hx, hb, hml, hown, fun w hw => hts w (List.mem_filter.mp hw).1, hKS, Nat.le_refl _, hr, hlocks, hst0, rfl, rfl, rfl⟩
  have hE : ∀ (cells slots : Nat) (ν : Nu) (ι : Io) (ρ : Ro) (ℓ : Lo) (lv : List (Nat × SV)), cells ≤ 601024 → slots ≤ 7293034 → V p l e room_1 s m #[Value.ref b] below meth c D s.heap.size (ad0 b tW) nu0 7 (lw_Z below #[Value.ref b] s) cells slots ν ι ρ ℓ 1166 lv [] := by
    intro cells slots ν ι ρ ℓ lv h1 h2
    refine V_iconst (v := 1) C d_La_law_1166 (by decide) ?_
    intro α H locs ls hR hS hl h0 h1' h2'
    refine va_forget (fun q hq => hS.2.2 q hq) ?_
    refine W.widen (k := 601024) (n := 7293034) h1 h2 ?_
    exact lw_ret hx hb hr hlocks d_La_law_1167
  have hV : V p l e room_1 s m #[Value.ref b] below meth c D s.heap.size (ad0 b tW) nu0 7 (lw_Z below #[Value.ref b] s) 0 0 nu0 io0 ro0 lo0 0 [(0, sR 98 0 0)] [] := by
    refine V_new (i := 0) (j := 0) C d_La_law_0 cf_OL k_La_8 rfl (fun k hk => ?_) (by decide) (by decide) ?_
    · rcases (show k = 0 ∨ k = 1 ∨ k = 2 ∨ k = 3 by omega) with rfl | rfl | rfl | rfl <;> first | exact Or.inl ⟨rfl, rfl⟩ | exact Or.inr ⟨rfl, rfl⟩
    refine V_dup C d_La_law_3 rfl ?_
    refine V_callI (as := []) C d_La_law_4 (c_OL_init up3_s (fun r i j h => (by unfold up3; rw [if_neg (fun z => h z.1)])) upA_s) m_OL_init k_La_65 ⟨by decide, by decide⟩ (Nat.le_of_ble_eq_true rfl) ⟨by decide, by decide⟩ rfl ?_
    rintro _ ν1 ι1 ρ1 _ ⟨rfl, rfl, hO⟩
    dsimp only [Option.toList, List.cons_append, List.nil_append]
    refine V_astore_n (lv' := [(1, _), (0, _)]) C d_La_law_7 (by decide) rfl ?_
    refine V_new (i := 0) (j := 0) C d_La_law_8 cf_Mo k_La_66 (hO.2.1 10 0 0 (by unfold isK; omega)) (fun k hk => ?_) (by decide) (by decide) ?_
    · rcases (show k = 0 ∨ k = 1 ∨ k = 2 ∨ k = 3 ∨ k = 4 ∨ k = 5 ∨ k = 6 ∨ k = 7 ∨ k = 8 ∨ k = 9 ∨ k = 10 ∨ k = 11 ∨ k = 12 ∨ k = 13 ∨ k = 14 ∨ k = 15 ∨ k = 16 ∨ k = 17 ∨ k = 18 ∨ k = 19 ∨ k = 20 ∨ k = 21 ∨ k = 22 ∨ k = 23 ∨ k = 24 ∨ k = 25 ∨ k = 26 ∨ k = 27 ∨ k = 28 ∨ k = 29 ∨ k = 30 ∨ k = 31 ∨ k = 32 ∨ k = 33 ∨ k = 34 ∨ k = 35 ∨ k = 36 ∨ k = 37 ∨ k = 38 ∨ k = 39 ∨ k = 40 ∨ k = 41 by omega) with rfl | rfl | rfl | rfl | rfl | rfl | rfl | rfl | rfl | rfl | rfl | rfl | rfl | rfl | rfl | rfl | rfl | rfl | rfl | rfl | rfl | rfl | rfl | rfl | rfl | rfl | rfl | rfl | rfl | rfl | rfl | rfl | rfl | rfl | rfl | rfl | rfl | rfl | rfl | rfl | rfl | rfl <;> first | exact Or.inl ⟨rfl, rfl⟩ | exact Or.inr ⟨rfl, rfl⟩
    refine V_dup C d_La_law_11 rfl ?_
    refine V_callI (as := []) C d_La_law_12 (c_Mo_init (nn up3_s) (fun r h1 h2 => (by unfold up3; rw [if_neg (by omega)]; exact (hO.2.1 r 0 0 (by unfold isK; omega)).trans (by unfold up3; rw [if_neg (by omega)])))) m_Mo_init k_La_68 ⟨by decide, by decide⟩ (Nat.le_of_ble_eq_true rfl) ⟨by decide, by decide⟩ rfl ?_
    rintro _ _ _ _ _ ⟨rfl, rfl, rfl, rfl, rfl⟩
    dsimp only [Option.toList, List.cons_append, List.nil_append]
    refine V_astore_n (lv' := [(2, _), (1, _), (0, _)]) C d_La_law_15 (by decide) rfl ?_
    refine V_iconst (v := 1) C d_La_law_16 (by decide) ?_
    refine V_newl (r := 90) (i := 0) (j := 0) C d_La_law_17 k_arr_long (by decide) (by decide) rfl (fun _ => rfl) (hO.2.1 90 0 0 (by unfold isK; omega)) (rfl : (1 : Int32) = nI 1) (by decide) (by decide) (by decide) ?_
    refine V_astore_n (lv' := [(3, _), (2, _), (1, _), (0, _)]) C d_La_law_19 (by decide) rfl ?_
    refine V_iconst (v := 0) C d_La_law_20 (by decide) ?_
    refine V_eqi (y := nI (7 * 0)) rfl ?_
    refine V_istore (lv' := [(4, _), (3, _), (2, _), (1, _), (0, _)]) C d_La_law_21 (by decide) rfl ?_
    refine V_pick [0, 1, 2, 3, 4] rfl ?_
    exact La_loop C hX hbl rfl hL (fun _ _ _ => rfl) hE (L + 8) 0 _ _ _ _ _ _ (by omega) (by omega) ⟨0, 0, 0, 0, 0, 0, 0, IV.n90 (INV0 hO (fun r i j h => (by unfold up3; rw [if_neg (fun z => h z.1)])) rfl rfl)⟩ up3_s (by decide) (by decide)
  rw [lg_entry_eq]
  have hle := lv_entry ([Value.ref b] : List Value) (n := 7) (Nat.le_of_ble_eq_true rfl)
  exact hV (ad0 b tW) s.heap [] _ ⟨ad0_inj, (fun r i j n h => (nomatch h)), (fun r i j n k q h => (nomatch h)), Nat.le_refl _⟩ va_S.rf hle agr.rf (wfl_c (wfv_G (by decide)) wfl_n) wfl_n
set_option maxHeartbeats 4000000 in
theorem lw_walk (l : Launch) (hst0 : l.stackTraces = false) (b : Addr) (xs : List Int32) : MetFree l x (headSpec (Jvm.Cond.code x code maxLocals ret :: tables_1) room_1) (lw_P b xs) (fun _ _ _ _ _ => True) lw_Q := by
  refine MetFree.of_bodyS (code := code) (maxLocals := maxLocals) (ret := ret) (by decide) ?_ ?_
  · intro args s m h hn
    obtain ⟨meth, c, h1, h2, h3, h4, h5, h6, -, -⟩ := Cond.code_spec hn (atoms_spec (ws := Jvm.Cond.code x code maxLocals ret :: tables_1) h _ List.mem_cons_self)
    exact ⟨meth, c, h1, h2, h3, h4, h5, h6⟩
  · intro p e s m args below meth c s₁ B hml0 hP _
    obtain ⟨rfl, hx, hbd, hgv⟩ := hP
    obtain ⟨scr, harrAt, hlist, hof, hsmall⟩ := hx
    obtain ⟨hcb, hkn, -, -⟩ := State.arrayAt?_spec harrAt
    have hown : s.vm.findClass R_law = some m.cls := findClass_of_methodNamed B.named
    have hts0 : ∀ c ∈ (Jvm.Cond.code x code maxLocals ret :: tables_1), c.before #[Value.ref b] s = true := atoms_spec (ws := Jvm.Cond.code x code maxLocals ret :: tables_1) B.pre
    have hts : ∀ w ∈ lw_tbl, w.before #[Value.ref b] s = true := k2_hts_sels lw_privs (fun w hw => hts0 w (List.mem_cons_of_mem _ hw)) lw_privs_ok
    have hml : c.maxLocals = 7 := B.maxLocals_eq (hts0 _ List.mem_cons_self)
    have X₀ : Stand p l e room_1 s m #[Value.ref b] below meth c s₁ [] 0 0 := Stand.of_body B
    have hh0 : s₁.heap = s.heap := by rw [B.state]; rfl
    have hsz : scr.slots.size = xs.length := by rw [← Array.length_toList, hlist, List.length_map]
    have hval : ∀ j : Nat, j < xs.length → scr.slots[j]? = some (.int (xs.getD j 0)) := fun j hj => by
      rw [← Array.getElem?_toList, hlist]
      simp [hj]
    have hbl : b < s.heap.size := (Array.getElem?_eq_some_iff.mp hcb).1
    have hX : va_X b xs.length (fun j => xs.getD j 0) s s.heap := ⟨scr, hcb, hof, hkn, hsz, hval⟩
    have K : W p l e room_1 s m #[Value.ref b] below meth c s₁.heap [] 0 0 (lw_Z below #[Value.ref b] s) (entryFrame m ([Value.ref b] : List Value).toArray 7) := by
      rw [hh0]
      exact whole_start l hst0 hbd ⟨B.exec, B.bytes, B.returns, hml, hown, hts, hX, hbl, B.notSynchronized, hgv⟩
    obtain ⟨t, a1, o, b1, b2, b3⟩ := K s₁ rfl X₀
    exact ⟨t, o, a1, b1, b2, b3⟩
theorem lw_pre_spec {args : Array Value} {s : State} (h : (Jvm.Cond.and given_1 narrow_1).before args s = true) (hr : rest_1_c.before args s = true) : ∃ (b : Addr) (xs : List Int32), lw_P b xs args s := by
  have hs := flat_of_before _ h
  have hq := flat_of_before _ hr
  have hc : (Cond.count 1).before args s = true := hs _ (by decide +kernel)
  have harr : (Cond.arrayOf (.arg 0) .int).before args s = true := hs _ (by decide +kernel)
  have hle : (Cond.le (.length (.arg 0)) (.int 3584)).before args s = true := hs _ (by decide +kernel)
  have hlen : (Cond.isInt (.length (.arg 0))).before args s = true := hq _ (by decide +kernel)
  have hall : (Cond.all (.arg 0) (.isInt (.elem (.arg 0) (.index 0)))).before args s = true := hq _ (by decide +kernel)
  obtain ⟨b, xs, hb, hx⟩ := State.ints_of_pre rfl harr hlen hall
  have hsm : xs.length < 2 ^ 31 := hx.choose_spec.2.2.2
  have hev : (Term.length (.arg 0)).eval args s none [] s = some (.int xs.length.toInt32) := hx.length_eval hb
  have hv := Cond.le_ints hev (show (Term.int 3584).eval args s none [] s = some (.int 3584) from rfl)
  have hd : xs.length.toInt32 ≤ 3584 := by
    simpa [Cond.before, Cond.holds, hv] using hle
  have hN : xs.length ≤ 3584 := (Int32.ofNat_le_ofNat hsm (by decide)).mp (show Int32.ofNat xs.length ≤ Int32.ofNat 3584 from hd)
  exact ⟨b, xs, Cond.one_arg hc (show args[0]? = some (.ref b) from hb), hx, hN, h⟩
theorem lw_comes (l : Launch) (hst0 : l.stackTraces = false) : Comes l x (Jvm.Cond.code x code maxLocals ret :: tables_1) room_1 (fun tb e args s => Calls_1 tb e args s ∧ rest_1 tb e args s ∧ Pre_1 tb e args s)
    (fun _ _ args s o t => lw_Q args s o t) := by
  intro p e ha hc hk s m args below hf hfit hheap happ hpre
  obtain ⟨b, xs, hP⟩ := lw_pre_spec hpre.2.2 hpre.2.1
  obtain ⟨k, o, h1, h2, h3, hQ⟩ := lw_walk l hst0 b xs p e ha hc hk s m args below hf ((Spec.applies_iff_loose hf).mp happ).1 hP trivial
  exact ⟨k, o, h1, h2, h3, hQ⟩
theorem lw_frame {s t : State} {o : Outcome} {args : Array Value} (h : Framed s o t [] 601024 7293034) :
    Framed s o t (fieldLocs frame_1_writes args s ++ arrayLocs frame_1_arrays args s ++ staticLocs frame_1_statics s) 601024 7293034 := h
theorem lw_limb (L : Cond) (hL : ∀ (args : Array Value) (s t : State), L.after args s (.returned (some (.int 1))) t = true) :
    ArmFor flags0 classFile x code maxLocals ret World_1 tables_1 room_1 Calls_1 rest_1 Pre_1
      (fun tb e a s o t => postC L tb e a s o t ∧ Framed s o t (fieldLocs frame_1_writes a s ++ arrayLocs frame_1_arrays a s ++ staticLocs frame_1_statics s) 601024 7293034) := by
  intro l hfl _ _ p e ha hc hk s m args below hf hfit hheap happ hpre
  obtain ⟨k, o, h1, h2, h3, rfl, hF⟩ := lw_comes l (by unfold Launch.stackTraces; rw [hfl]; decide +kernel) p e ha hc hk s m args below hf hfit hheap happ hpre
  exact ⟨k, _, h1, h2, h3, hL args s _, lw_frame hF⟩
theorem i_vc : Claimed_1_1 ∧ Claimed_1_2 := ⟨lw_limb limb_1_1 (fun args s t => by simp [limb_1_1, Cond.after, Cond.holds, Cond.value]), lw_limb limb_1_2 (fun args s t => Cond.after_iff.mpr (by
  first | (rw [show limb_1_2 = Cond.eq .result (.int 1) from rfl, Cond.eq_ints (x := 1) (y := 1) rfl rfl]; simp; done) | (simp [limb_1_2, Cond.value, Term.eval]; done)))⟩

