section Am3
variable {p : Program} {l : Launch} {e : Env} {R : Room} {s : State} {m : MethodId} {args : Array Value} {below : List Frame} {meth : Method} {c : Code} {D : GD} {B tW : Nat} {α0 : Ad} {ν0 : Nu} {own : String} {cc : ByteArray} {nL : Nat} {ret : Option FieldType} {mn : String} {tab : List ExceptionTableEntry} {Q : State → Prop} {cells slots : Nat} {ν : Nu} {ι : Io} {ρ : Ro} {ℓ : Lo} {pc : Nat} {lv lv' : List (Nat × SV)} {st : List SV}
/-- what the tables say of the arrays' class -/
theorem Cx.ar {D : GD} {B tW : Nat} {s : State} (h : KS D B tW s) {r : Nat} (hr : art r < 8) (n : Nat) (z : Nat → Value) : s.isArrayOf (arrV (D.2.2 (art r)) n z) (aty (art r)) := (h.1.2.1 (art r) hr).1 n z
theorem nI_in' {x : Int32} {t n : Nat} (hx : x = nI t) (ht : t < n) (hn : n < 2147483648) : ¬ (x < 0 ∨ n ≤ x.toNatClampNeg) := by rw [hx]; exact nI_in ht hn
theorem nI_cl' {x : Int32} {t n : Nat} (hx : x = nI t) (ht : t < n) (hn : n < 2147483648) : x.toNatClampNeg = t := by rw [hx]; exact nI_clamp (by omega)
theorem V_iald {r i j n t : Nat} {x : Int32} (C : Cx p l s m args meth c D B tW α0 own cc nL ret mn tab) (hd : decode cc pc = .ok (.iaload, 1)) (hr : 20 ≤ r) (ha : art r = 0) (hn : ν r i j = some n) (hx : x = nI t) (ht : t < n) (hk : kd (slt r t) = 0) (k : V p l e R s m args below meth c D B α0 ν0 nL Q cells slots ν ι ρ ℓ (pc + 1) lv (sI (ι r i j t) :: st)) : V p l e R s m args below meth c D B α0 ν0 nL Q cells slots ν ι ρ ℓ pc lv (sI x :: sR r i j :: st) := by
  intro α H locs ls hR hS hl h0 h1 h2
  obtain ⟨-, hn31, g3, g4⟩ := hR.2.1 r i j n hn
  have hcell := g3.2 hr
  have hcl := nI_cl' hx ht hn31
  have hin : ¬ (x < 0 ∨ (arrV (D.2.2 (art r)) n (cont α ι ρ ℓ r i j)).slots.size ≤ x.toNatClampNeg) := by rw [arrV_size]; exact nI_in' hx ht hn31
  have har := Cx.ar C.2.2.2.2.2.1 (r := r) (by rw [ha]; decide) n (cont α ι ρ ℓ r i j)
  rw [show aty (art r) = aty 0 by rw [ha]] at har
  exact W.iald (v := .int (ι r i j t)) C.1 C.2.1 hcell har (fun q => by cases q) hin (by rw [hcl, arrV_read _ _ ht, cont_I hk]) rfl rfl hd (k α H locs ls hR hS hl h0 h1 (wfl_c wfv_I (wfl_t (wfl_t h2))))
theorem V_zald {r i j n t : Nat} {x : Int32} (C : Cx p l s m args meth c D B tW α0 own cc nL ret mn tab) (hd : decode cc pc = .ok (.baload, 1)) (hr : 20 ≤ r) (ha : art r = 1) (hn : ν r i j = some n) (hx : x = nI t) (ht : t < n) (hk : kd (slt r t) = 0) (k : V p l e R s m args below meth c D B α0 ν0 nL Q cells slots ν ι ρ ℓ (pc + 1) lv (sI (ι r i j t) :: st)) : V p l e R s m args below meth c D B α0 ν0 nL Q cells slots ν ι ρ ℓ pc lv (sI x :: sR r i j :: st) := by
  intro α H locs ls hR hS hl h0 h1 h2
  obtain ⟨-, hn31, g3, g4⟩ := hR.2.1 r i j n hn
  have hcell := g3.2 hr
  have hcl := nI_cl' hx ht hn31
  have hin : ¬ (x < 0 ∨ (arrV (D.2.2 (art r)) n (cont α ι ρ ℓ r i j)).slots.size ≤ x.toNatClampNeg) := by rw [arrV_size]; exact nI_in' hx ht hn31
  have har := Cx.ar C.2.2.2.2.2.1 (r := r) (by rw [ha]; decide) n (cont α ι ρ ℓ r i j)
  rw [show aty (art r) = aty 1 by rw [ha]] at har
  exact W.zald (v := .int (ι r i j t)) C.1 C.2.1 hcell har (fun q => by cases q) hin (by rw [hcl, arrV_read _ _ ht, cont_I hk]) rfl rfl hd (k α H locs ls hR hS hl h0 h1 (wfl_c wfv_I (wfl_t (wfl_t h2))))
theorem V_lald {r i j n t : Nat} {x : Int32} (C : Cx p l s m args meth c D B tW α0 own cc nL ret mn tab) (hd : decode cc pc = .ok (.laload, 1)) (hr : 20 ≤ r) (ha : art r = 2) (hn : ν r i j = some n) (hx : x = nI t) (ht : t < n) (hk : kd (slt r t) = 2) (k : V p l e R s m args below meth c D B α0 ν0 nL Q cells slots ν ι ρ ℓ (pc + 1) lv (sL (ℓ r i j t) :: st)) : V p l e R s m args below meth c D B α0 ν0 nL Q cells slots ν ι ρ ℓ pc lv (sI x :: sR r i j :: st) := by
  intro α H locs ls hR hS hl h0 h1 h2
  obtain ⟨-, hn31, g3, g4⟩ := hR.2.1 r i j n hn
  have hcell := g3.2 hr
  have hcl := nI_cl' hx ht hn31
  have hin : ¬ (x < 0 ∨ (arrV (D.2.2 (art r)) n (cont α ι ρ ℓ r i j)).slots.size ≤ x.toNatClampNeg) := by rw [arrV_size]; exact nI_in' hx ht hn31
  have har := Cx.ar C.2.2.2.2.2.1 (r := r) (by rw [ha]; decide) n (cont α ι ρ ℓ r i j)
  rw [show aty (art r) = aty 2 by rw [ha]] at har
  exact W.lald (v := .long (ℓ r i j t)) C.1 C.2.1 hcell har (fun q => by cases q) hin (by rw [hcl, arrV_read _ _ ht, cont_L hk]) rfl rfl hd (k α H locs ls hR hS hl h0 h1 (wfl_c wfv_L (wfl_t (wfl_t h2))))
theorem V_aald {r i j n t : Nat} {x : Int32} {q : Option Pt3} {C1 : String} (C : Cx p l s m args meth c D B tW α0 own cc nL ret mn tab) (hd : decode cc pc = .ok (.aaload, 1)) (hr : 20 ≤ r) (ha8 : art r < 8) (ha : aty (art r) = .object C1) (hn : ν r i j = some n) (hx : x = nI t) (ht : t < n) (hk : kd (slt r t) = 1) (hq : ρ r i j t = q) (k : V p l e R s m args below meth c D B α0 ν0 nL Q cells slots ν ι ρ ℓ (pc + 1) lv (sQ q :: st)) : V p l e R s m args below meth c D B α0 ν0 nL Q cells slots ν ι ρ ℓ pc lv (sI x :: sR r i j :: st) := by
  intro α H locs ls hR hS hl h0 h1 h2
  obtain ⟨-, hn31, g3, g4⟩ := hR.2.1 r i j n hn
  have hcell := g3.2 hr
  have hcl := nI_cl' hx ht hn31
  have hin : ¬ (x < 0 ∨ (arrV (D.2.2 (art r)) n (cont α ι ρ ℓ r i j)).slots.size ≤ x.toNatClampNeg) := by rw [arrV_size]; exact nI_in' hx ht hn31
  have har := Cx.ar C.2.2.2.2.2.1 (r := r) ha8 n (cont α ι ρ ℓ r i j)
  rw [ha] at har
  exact W.aald (v := enc α (sQ q)) (ty := .object C1) C.1 C.2.1 hcell har rfl (fun q => by cases q) hin (by rw [hcl, arrV_read _ _ ht, cont_R hk, hq]) rfl rfl hd (k α H locs ls hR hS hl h0 h1 (wfl_c (fun z hz => hR.2.2.1 r i j n t z hn ht hk (hq.trans (Sum.inr.inj (Sum.inr.inj hz)))) (wfl_t (wfl_t h2))))
theorem V_alen {r i j n ti : Nat} {v : Int32} (C : Cx p l s m args meth c D B tW α0 own cc nL ret mn tab) (hd : decode cc pc = .ok (.arraylength, 1)) (hr : 20 ≤ r) (ha : art r < 8) (hn : ν r i j = some n) (hv : nI n = v) (k : V p l e R s m args below meth c D B α0 ν0 nL Q cells slots ν ι ρ ℓ (pc + 1) lv (sI v :: st)) : V p l e R s m args below meth c D B α0 ν0 nL Q cells slots ν ι ρ ℓ pc lv (sR r i j :: st) := by
  intro α H locs ls hR hS hl h0 h1 h2
  obtain ⟨-, hn31, g3, g4⟩ := hR.2.1 r i j n hn
  exact W.alen (n := v) C.1 C.2.1 (g3.2 hr) (Cx.ar C.2.2.2.2.2.1 ha n _) (by rw [arrV_size]; exact hv) rfl rfl hd (k α H locs ls hR hS hl h0 h1 (wfl_c wfv_I (wfl_t h2)))
theorem V_iast {r i j n t : Nat} {x : Int32} {y : Int32} (C : Cx p l s m args meth c D B tW α0 own cc nL ret mn tab) (hd : decode cc pc = .ok (.iastore, 1)) (hr : 20 ≤ r) (ha : art r = 0) (hn : ν r i j = some n) (hx : x = nI t) (ht : t < n) (hk : kd (slt r t) = 0) (k : V p l e R s m args below meth c D B α0 ν0 nL Q cells slots ν (up4 ι r i j t y) ρ ℓ (pc + 1) lv st) : V p l e R s m args below meth c D B α0 ν0 nL Q cells slots ν ι ρ ℓ pc lv (sI y :: sI x :: sR r i j :: st) := by
  intro α H locs ls hR hS hl h0 h1 h2
  obtain ⟨-, hn31, g3, g4⟩ := hR.2.1 r i j n hn
  have hcell := g3.2 hr
  have hcl := nI_cl' hx ht hn31
  have hin : ¬ (x < 0 ∨ (arrV (D.2.2 (art r)) n (cont α ι ρ ℓ r i j)).slots.size ≤ x.toNatClampNeg) := by rw [arrV_size]; exact nI_in' hx ht hn31
  have har := Cx.ar C.2.2.2.2.2.1 (r := r) (by rw [ha]; decide) n (cont α ι ρ ℓ r i j)
  rw [show aty (art r) = aty 0 by rw [ha]] at har
  refine W.iast C.1 C.2.1 hcell har (fun q => by cases q) hin rfl rfl hd fun H' e1 e2 e3 => ?_
  refine k α H' _ ls (hR.put hn e2 e3 up4_o (fun _ _ _ _ _ => rfl) (fun _ _ _ _ _ => rfl) ⟨fun z => absurd z (by omega), fun _ => ?_⟩ (fun k9 q9 z1 z2 z3 => hR.2.2.1 r i j n k9 q9 hn z1 z2 z3)) (hS.put e2 e3 g4) hl h0 h1 (wfl_t (wfl_t (wfl_t h2)))
  rw [hcl] at e1
  rw [e1, arrV_store]
  exact congrArg some (arrV_congr fun k' _ => cont_upI hk k')
theorem V_zast {r i j n t : Nat} {x : Int32} {y : Int32} (C : Cx p l s m args meth c D B tW α0 own cc nL ret mn tab) (hd : decode cc pc = .ok (.bastore, 1)) (hr : 20 ≤ r) (ha : art r = 1) (hn : ν r i j = some n) (hx : x = nI t) (ht : t < n) (hy : narrow .boolean (.int y) = .int y) (hk : kd (slt r t) = 0) (k : V p l e R s m args below meth c D B α0 ν0 nL Q cells slots ν (up4 ι r i j t y) ρ ℓ (pc + 1) lv st) : V p l e R s m args below meth c D B α0 ν0 nL Q cells slots ν ι ρ ℓ pc lv (sI y :: sI x :: sR r i j :: st) := by
  intro α H locs ls hR hS hl h0 h1 h2
  obtain ⟨-, hn31, g3, g4⟩ := hR.2.1 r i j n hn
  have hcell := g3.2 hr
  have hcl := nI_cl' hx ht hn31
  have hin : ¬ (x < 0 ∨ (arrV (D.2.2 (art r)) n (cont α ι ρ ℓ r i j)).slots.size ≤ x.toNatClampNeg) := by rw [arrV_size]; exact nI_in' hx ht hn31
  have har := Cx.ar C.2.2.2.2.2.1 (r := r) (by rw [ha]; decide) n (cont α ι ρ ℓ r i j)
  rw [show aty (art r) = aty 1 by rw [ha]] at har
  refine W.zast C.1 C.2.1 hcell har (fun q => by cases q) hin rfl rfl hd fun H' e1 e2 e3 => ?_
  rw [hy] at e1
  refine k α H' _ ls (hR.put hn e2 e3 up4_o (fun _ _ _ _ _ => rfl) (fun _ _ _ _ _ => rfl) ⟨fun z => absurd z (by omega), fun _ => ?_⟩ (fun k9 q9 z1 z2 z3 => hR.2.2.1 r i j n k9 q9 hn z1 z2 z3)) (hS.put e2 e3 g4) hl h0 h1 (wfl_t (wfl_t (wfl_t h2)))
  rw [hcl] at e1
  rw [e1, arrV_store]
  exact congrArg some (arrV_congr fun k' _ => cont_upI hk k')
theorem V_last {r i j n t : Nat} {x : Int32} {y : Int64} (C : Cx p l s m args meth c D B tW α0 own cc nL ret mn tab) (hd : decode cc pc = .ok (.lastore, 1)) (hr : 20 ≤ r) (ha : art r = 2) (hn : ν r i j = some n) (hx : x = nI t) (ht : t < n) (hk : kd (slt r t) = 2) (k : V p l e R s m args below meth c D B α0 ν0 nL Q cells slots ν ι ρ (up4 ℓ r i j t y) (pc + 1) lv st) : V p l e R s m args below meth c D B α0 ν0 nL Q cells slots ν ι ρ ℓ pc lv (sL y :: sI x :: sR r i j :: st) := by
  intro α H locs ls hR hS hl h0 h1 h2
  obtain ⟨-, hn31, g3, g4⟩ := hR.2.1 r i j n hn
  have hcell := g3.2 hr
  have hcl := nI_cl' hx ht hn31
  have hin : ¬ (x < 0 ∨ (arrV (D.2.2 (art r)) n (cont α ι ρ ℓ r i j)).slots.size ≤ x.toNatClampNeg) := by rw [arrV_size]; exact nI_in' hx ht hn31
  have har := Cx.ar C.2.2.2.2.2.1 (r := r) (by rw [ha]; decide) n (cont α ι ρ ℓ r i j)
  rw [show aty (art r) = aty 2 by rw [ha]] at har
  refine W.last C.1 C.2.1 hcell har (fun q => by cases q) hin rfl rfl hd fun H' e1 e2 e3 => ?_
  refine k α H' _ ls (hR.put hn e2 e3 (fun _ _ _ _ _ => rfl) (fun _ _ _ _ _ => rfl) up4_o ⟨fun z => absurd z (by omega), fun _ => ?_⟩ (fun k9 q9 z1 z2 z3 => hR.2.2.1 r i j n k9 q9 hn z1 z2 z3)) (hS.put e2 e3 g4) hl h0 h1 (wfl_t (wfl_t (wfl_t h2)))
  rw [hcl] at e1
  rw [e1, arrV_store]
  exact congrArg some (arrV_congr fun k' _ => cont_upL hk k')
theorem V_aast {r i j n t : Nat} {x : Int32} {r2 i2 j2 N2 : Nat} {C2 : String} {T2 : u_T} (C : Cx p l s m args meth c D B tW α0 own cc nL ret mn tab) (hd : decode cc pc = .ok (.aastore, 1)) (hr : 20 ≤ r) (ha8 : art r < 8) (ha : aty (art r) = .object C2) (hF : ClF r2 C2 T2 N2) (hn : ν r i j = some n) (hx : x = nI t) (ht : t < n) (hk : kd (slt r t) = 1) (hv : ν r2 i2 j2 ≠ none) (k : V p l e R s m args below meth c D B α0 ν0 nL Q cells slots ν ι (up4 ρ r i j t (some (r2, i2, j2))) ℓ (pc + 1) lv st) : V p l e R s m args below meth c D B α0 ν0 nL Q cells slots ν ι ρ ℓ pc lv (sR r2 i2 j2 :: sI x :: sR r i j :: st) := by
  intro α H locs ls hR hS hl h0 h1 h2
  obtain ⟨-, hn31, g3, g4⟩ := hR.2.1 r i j n hn
  have hcell := g3.2 hr
  have hcl := nI_cl' hx ht hn31
  have h00 : ¬ x < 0 := fun z => nI_in' hx ht hn31 (Or.inl z)
  obtain ⟨n2, hn2⟩ := Option.ne_none_iff_exists'.mp hv
  obtain ⟨-, -, g6, -⟩ := hR.2.1 r2 i2 j2 n2 hn2
  obtain ⟨q, w3, w4, cell, q1, q2, q3, -⟩ := g6.1 hF.1
  cases hF.2.1.symm.trans w3
  have hcls := (C.2.2.2.2.2.1.1.1 r2 _ hF.2.1).2
  have hra := (C.2.2.2.2.2.1.1.2.1 (art r) ha8).2
  rw [ha] at hra
  obtain ⟨kA, comp, k1, k2, k3, -⟩ := hra
  have hcomp : comp = D.1 r2 := Option.some.inj (k3.symm.trans hcls.1)
  subst hcomp
  obtain ⟨kC, hkC, -⟩ := hcls.2
  refine W.aast C.1 C.2.1 hcell (fun q h => by cases h) (fun h => by cases h) k1 k2 rfl hkC ⟨h00, by rw [arrV_size, hcl]; exact ht⟩ q1 (fun q h => by rw [q3] at h; cases h) (by rw [q2]; exact hkC) (by rw [q2]; exact va_assign hcls) rfl rfl hd fun H' e1 e2 e3 => ?_
  refine k α H' _ ls (hR.put hn e2 e3 (fun _ _ _ _ _ => rfl) up4_o (fun _ _ _ _ _ => rfl) ⟨fun z => absurd z (by omega), fun _ => ?_⟩ (fun k9 q9 z1 z2 z3 => by
      by_cases e9 : k9 = t
      · subst e9
        rw [up4_s] at z3
        cases z3
        exact Or.inl hv
      · rw [show up4 ρ r i j t (some (r2, i2, j2)) r i j k9 = ρ r i j k9 from if_neg fun z => e9 z.2.2.2] at z3
        exact hR.2.2.1 r i j n k9 q9 hn z1 z2 z3)) (hS.put e2 e3 g4) hl h0 h1 (wfl_t (wfl_t (wfl_t h2)))
  rw [hcl] at e1
  rw [e1, arrV_store]
  exact congrArg some (arrV_congr fun k' _ => cont_upR (x := some (r2, i2, j2)) hk k')
theorem V_newa {r i j n : Nat} {x : Int32} {at9 : ArrayType} (C : Cx p l s m args meth c D B tW α0 own cc nL ret mn tab) (hd : decode cc pc = .ok (.newarray at9, 2)) (hw : Cond.arrayClass (newarray.typeOf at9) ∈ tb_) (hr : 20 ≤ r) (hr2 : r < 98) (ha8 : art r < 8) (ha : aty (art r) = newarray.typeOf at9) (hdf : ∀ k', k' < n → kd (slt r k') = 0 ∧ defaultValue (newarray.typeOf at9) = .int 0) (hν : ν r i j = none) (hx : x = nI n) (hb : n ≤ 60000000) (hcb : componentBytes (newarray.typeOf at9) ≤ 8) (hc : cells + 1 ≤ R.cells) (hs : slots + n ≤ R.slots) (hkr : ∀ k', kd (slt r k') ≠ 1) (k : V p l e R s m args below meth c D B α0 ν0 nL Q (cells + 1) (slots + n) (up3 ν r i j (some n)) (upA ι r i j (fun _ => 0)) ρ ℓ (pc + 2) lv (sR r i j :: st)) : V p l e R s m args below meth c D B α0 ν0 nL Q cells slots ν ι ρ ℓ pc lv (sI x :: st) := by
  intro α H locs ls hR hS hl h0 h1 h2
  have hcl : x.toNatClampNeg = n := by rw [hx]; exact nI_clamp (by omega)
  have h00 : ¬ x < 0 := by rw [hx]; exact nI_pos (by omega)
  refine va_newaK C.1 C.2.1 (C.2.2.2.2.1 _ hw) rfl hd rfl h00 hcl (Nat.le_trans (Nat.mul_le_mul hb hcb) (by decide)) hc hs rfl fun H' cA e1 z1 o1 hAr hNm => ?_
  have hcA : cA = D.2.2 (art r) := by
    have hra := (C.2.2.2.2.2.1.1.2.1 (art r) ha8).2
    rw [ha] at hra
    have : s.vm.findClass ("[" ++ (newarray.typeOf at9).toString) = some (D.2.2 (art r)) := by cases at9 <;> exact hra
    exact Option.some.inj (hNm.symm.trans this)
  have hcc : ∀ α' : Ad, α' r i j = H.size → cellA D α' (upA ι r i j (fun _ => 0)) ρ ℓ r i j n H' := by
    intro α' hα'
    refine ⟨fun z => absurd z (by omega), fun _ => ?_⟩
    rw [hα', e1, hcA]
    exact congrArg some (arrV_congr fun k' hk' => by rw [cont_I (hdf k' hk').1, upA_s, (hdf k' hk').2])
  obtain ⟨α', ag, hat, hR'⟩ := hR.grow (r := r) (i := i) (j := j) (n := n) hr2 (by omega) hν z1 o1 upA_o (fun _ _ _ _ _ => rfl) (fun _ _ _ _ _ => rfl) (fun k' hk' => absurd hk' (hkr k')) hcc
  have hl' : lv_has ls nL (lv.map (fun q => (q.1, enc α' q.2))) := by
    rw [show lv.map (fun q => (q.1, enc α' q.2)) = lv.map (fun q => (q.1, enc α q.2)) from List.map_congr_left fun q hq => by rw [enc_ag (h1 q.2 (List.mem_map.mpr ⟨q, hq, rfl⟩)) ag.2]]
    exact hl
  have hst : st.map (enc α') = st.map (enc α) := encl_ag (wfl_t h2) ag.2
  have hk := k α' H' locs ls hR' ⟨Nat.le_trans hS.1 (by omega), fun x g1 g2 => (o1 x (Nat.lt_of_lt_of_le g1 hS.1)).trans (hS.2.1 x g1 g2), hS.2.2⟩ hl' (h0.tr ag) (wfl_up h1 alv_up) (wfl_c (fun q hq => by cases hq; exact Or.inl (by show up3 ν r i j (some n) r i j ≠ none; rw [up3_s]; exact fun z => by cases z)) (wfl_up (wfl_t h2) alv_up))
  rw [List.map_cons, hst, show enc α' (sR r i j) = .ref H.size from congrArg Value.ref hat] at hk
  exact hk

theorem V_newl {r i j n : Nat} {x : Int32} (C : Cx p l s m args meth c D B tW α0 own cc nL ret mn tab) (hd : decode cc pc = .ok (.newarray .long, 2)) (hw : Cond.arrayClass .long ∈ tb_) (hr : 20 ≤ r) (hr2 : r < 98) (ha : art r = 2) (hdf : ∀ k', kd (slt r k') = 2) (hν : ν r i j = none) (hx : x = nI n) (hb : n ≤ 60000000) (hc : cells + 1 ≤ R.cells) (hs : slots + n ≤ R.slots) (k : V p l e R s m args below meth c D B α0 ν0 nL Q (cells + 1) (slots + n) (up3 ν r i j (some n)) ι ρ (upA ℓ r i j (fun _ => 0)) (pc + 2) lv (sR r i j :: st)) : V p l e R s m args below meth c D B α0 ν0 nL Q cells slots ν ι ρ ℓ pc lv (sI x :: st) := by
  intro α H locs ls hR hS hl h0 h1 h2
  have hcl : x.toNatClampNeg = n := by rw [hx]; exact nI_clamp (by omega)
  have h00 : ¬ x < 0 := by rw [hx]; exact nI_pos (by omega)
  refine va_newaK (atype := .long) C.1 C.2.1 (C.2.2.2.2.1 _ hw) rfl hd rfl h00 hcl (Nat.le_trans (Nat.mul_le_mul hb (show componentBytes (newarray.typeOf .long) ≤ 8 by decide)) (by decide)) hc hs rfl fun H' cA e1 z1 o1 hAr hNm => ?_
  have hcA : cA = D.2.2 (art r) := by
    have hra := (C.2.2.2.2.2.1.1.2.1 (art r) (by rw [ha]; decide)).2
    rw [ha] at hra ⊢
    exact Option.some.inj (hNm.symm.trans hra)
  have hcc : ∀ α' : Ad, α' r i j = H.size → cellA D α' ι ρ (upA ℓ r i j (fun _ => 0)) r i j n H' := by
    intro α' hα'
    refine ⟨fun z => absurd z (by omega), fun _ => ?_⟩
    rw [hα', e1, hcA]
    exact congrArg some (arrV_congr fun k' hk' => by rw [cont_L (hdf k'), upA_s]; rfl)
  obtain ⟨α', ag, hat, hR'⟩ := hR.grow (r := r) (i := i) (j := j) (n := n) hr2 (by omega) hν z1 o1 (fun _ _ _ _ _ => rfl) (fun _ _ _ _ _ => rfl) upA_o (fun k' hk' => absurd (hk'.symm.trans (hdf k')) (by decide)) hcc
  have hl' : lv_has ls nL (lv.map (fun q => (q.1, enc α' q.2))) := by
    rw [show lv.map (fun q => (q.1, enc α' q.2)) = lv.map (fun q => (q.1, enc α q.2)) from List.map_congr_left fun q hq => by rw [enc_ag (h1 q.2 (List.mem_map.mpr ⟨q, hq, rfl⟩)) ag.2]]
    exact hl
  have hst : st.map (enc α') = st.map (enc α) := encl_ag (wfl_t h2) ag.2
  have hk := k α' H' locs ls hR' ⟨Nat.le_trans hS.1 (by omega), fun x g1 g2 => (o1 x (Nat.lt_of_lt_of_le g1 hS.1)).trans (hS.2.1 x g1 g2), hS.2.2⟩ hl' (h0.tr ag) (wfl_up h1 alv_up) (wfl_c (fun q hq => by cases hq; exact Or.inl (by show up3 ν r i j (some n) r i j ≠ none; rw [up3_s]; exact fun z => by cases z)) (wfl_up (wfl_t h2) alv_up))
  rw [List.map_cons, hst, show enc α' (sR r i j) = .ref H.size from congrArg Value.ref hat] at hk
  exact hk

theorem V_anew {r i j n idx : Nat} {x : Int32} {C1 : String} (C : Cx p l s m args meth c D B tW α0 own cc nL ret mn tab) (hd : decode cc pc = .ok (.anewarray idx, 3)) (hw : Cond.classLink own idx C1 ∈ tb_) (hao : C1 ∈ ao_) (hr : 20 ≤ r) (hr2 : r < 98) (ha8 : art r < 8) (ha : aty (art r) = .object C1) (hdf : ∀ k', kd (slt r k') = 1) (hν : ν r i j = none) (hx : x = nI n) (hb : n ≤ 60000000) (hc : cells + 1 ≤ R.cells) (hs : slots + n ≤ R.slots) (k : V p l e R s m args below meth c D B α0 ν0 nL Q (cells + 1) (slots + n) (up3 ν r i j (some n)) ι (upA ρ r i j (fun _ => none)) ℓ (pc + 3) lv (sR r i j :: st)) : V p l e R s m args below meth c D B α0 ν0 nL Q cells slots ν ι ρ ℓ pc lv (sI x :: st) := by
  intro α H locs ls hR hS hl h0 h1 h2
  have hcl : x.toNatClampNeg = n := by rw [hx]; exact nI_clamp (by omega)
  have h00 : ¬ x < 0 := by rw [hx]; exact nI_pos (by omega)
  refine W.anew C.1 C.2.1 C.2.2.2.1 (C.2.2.2.2.1 _ hw) (va_AO.use (C.2.2.2.2.2.1.1.2.2.2.2.2.1 _ hao)) rfl hd rfl h00 (by rw [hcl]; omega) hc (by rw [hcl]; exact hs) fun cA kA comp f1 f2 f3 f4 => ?_
  rw [hcl]
  generalize hH1 : H.push ({ cls := cA, slots := Array.replicate n .null, vm := .none } : Cell) = H'
  have z1 : H'.size = H.size + 1 := by rw [← hH1, Array.size_push]
  have e1 : H'[H.size]? = some (arrV cA n (fun _ => .null)) := by rw [← hH1, Array.getElem?_push_size, ← arrV_new]
  have o1 : ∀ q : Nat, q < H.size → H'[q]? = H[q]? := fun q hq => by rw [← hH1, Array.getElem?_push, if_neg (Nat.ne_of_lt hq)]
  have hcA : cA = D.2.2 (art r) := by
    have hra := (C.2.2.2.2.2.1.1.2.1 (art r) ha8).2
    rw [ha] at hra
    obtain ⟨_, _, _, _, _, h9⟩ := hra
    exact Option.some.inj (f1.symm.trans h9)
  have hcc : ∀ α' : Ad, α' r i j = H.size → cellA D α' ι (upA ρ r i j (fun _ => none)) ℓ r i j n H' := by
    intro α' hα'
    refine ⟨fun z => absurd z (by omega), fun _ => ?_⟩
    rw [hα', e1, hcA]
    exact congrArg some (arrV_congr fun k' hk' => by rw [cont_R (hdf k'), upA_s]; rfl)
  obtain ⟨α', ag, hat, hR'⟩ := hR.grow (r := r) (i := i) (j := j) (n := n) hr2 (by omega) hν z1 o1 (fun _ _ _ _ _ => rfl) upA_o (fun _ _ _ _ _ => rfl) (fun k' hk' => upA_s) hcc
  have hl' : lv_has ls nL (lv.map (fun q => (q.1, enc α' q.2))) := by
    rw [show lv.map (fun q => (q.1, enc α' q.2)) = lv.map (fun q => (q.1, enc α q.2)) from List.map_congr_left fun q hq => by rw [enc_ag (h1 q.2 (List.mem_map.mpr ⟨q, hq, rfl⟩)) ag.2]]
    exact hl
  have hst : st.map (enc α') = st.map (enc α) := encl_ag (wfl_t h2) ag.2
  have hk := k α' H' locs ls hR' ⟨Nat.le_trans hS.1 (by omega), fun x g1 g2 => (o1 x (Nat.lt_of_lt_of_le g1 hS.1)).trans (hS.2.1 x g1 g2), hS.2.2⟩ hl' (h0.tr ag) (wfl_up h1 alv_up) (wfl_c (fun q hq => by cases hq; exact Or.inl (by show up3 ν r i j (some n) r i j ≠ none; rw [up3_s]; exact fun z => by cases z)) (wfl_up (wfl_t h2) alv_up))
  rw [List.map_cons, hst, show enc α' (sR r i j) = .ref H.size from congrArg Value.ref hat] at hk
  exact hk

theorem V_new {r i j n idx : Nat} {C1 : String} {T : u_T} (C : Cx p l s m args meth c D B tW α0 own cc nL ret mn tab) (hd : decode cc pc = .ok (.new idx, 3)) (hF : ClF r C1 T n) (hw : Cond.classLink own idx C1 ∈ tb_) (hν : ν r i j = none) (hdf : ∀ k', k' < n → (kd (slt r k') = 0 ∧ defaultValue (slt r k') = .int 0) ∨ (kd (slt r k') = 1 ∧ defaultValue (slt r k') = .null)) (hc : cells + 1 ≤ R.cells) (hs : slots + n ≤ R.slots) (k : V p l e R s m args below meth c D B α0 ν0 nL Q (cells + 1) (slots + n) (up3 ν r i j (some n)) (upA ι r i j (fun _ => 0)) (upA ρ r i j (fun _ => none)) ℓ (pc + 3) lv (sR r i j :: st)) : V p l e R s m args below meth c D B α0 ν0 nL Q cells slots ν ι ρ ℓ pc lv st := by
  intro α H locs ls hR hS hl h0 h1 h2
  have hKn := C.2.2.2.2.2.1.1.1 r _ hF.2.1
  refine W.newcK C.1 C.2.1 C.2.2.2.1 (C.2.2.2.2.1 _ hw) (C.2.2.2.2.1 _ hF.2.2.2.2.2.1) (C.2.2.2.2.1 _ hF.2.2.2.2.2.2.1) rfl hd hc hs hKn.2.1 rfl fun H' kC hkC e1 z1 o1 => ?_
  have hn1000 := hF.2.2.2.2.2.2.2
  have hr20 := hF.1
  have hcc : ∀ α' : Ad, α' r i j = H.size → cellA D α' (upA ι r i j (fun _ => 0)) (upA ρ r i j (fun _ => none)) ℓ r i j n H' := by
    intro α' hα'
    refine ⟨fun _ => ⟨_, hF.2.1, rfl, ?_⟩, fun z => absurd z (by omega)⟩
    rw [hα']
    refine (u_born (slt r) C.2.2.2.2.1 hF.2.2.1 hKn hkC e1 hF.2.2.2.1).to (fun k' hk' => ?_)
    rcases hdf k' hk' with h | h
    · rw [h.2, cont_I h.1, upA_s]
    · rw [h.2, cont_R h.1, upA_s]; rfl
  obtain ⟨α', ag, hat, hR'⟩ := hR.grow (r := r) (i := i) (j := j) (n := n) (by omega) (by omega) hν z1 o1 upA_o upA_o (fun _ _ _ _ _ => rfl) (fun k' hk' => upA_s) hcc
  have hl' : lv_has ls nL (lv.map (fun q => (q.1, enc α' q.2))) := by
    rw [show lv.map (fun q => (q.1, enc α' q.2)) = lv.map (fun q => (q.1, enc α q.2)) from List.map_congr_left fun q hq => by rw [enc_ag (h1 q.2 (List.mem_map.mpr ⟨q, hq, rfl⟩)) ag.2]]
    exact hl
  have hst : st.map (enc α') = st.map (enc α) := encl_ag h2 ag.2
  have hk := k α' H' locs ls hR' ⟨Nat.le_trans hS.1 (by omega), fun x g1 g2 => (o1 x (Nat.lt_of_lt_of_le g1 hS.1)).trans (hS.2.1 x g1 g2), hS.2.2⟩ hl' (h0.tr ag) (wfl_up h1 alv_up) (wfl_c (fun q hq => by cases hq; exact Or.inl (by show up3 ν r i j (some n) r i j ≠ none; rw [up3_s]; exact fun z => by cases z)) (wfl_up h2 alv_up))
  rw [List.map_cons, hst, show enc α' (sR r i j) = .ref H.size from congrArg Value.ref hat] at hk
  exact hk

theorem V_forget {ν1 : Nu} (hsub : ∀ r i j n, ν1 r i j = some n → ν r i j = some n) (hk0 : ∀ r i j, ν0 r i j ≠ none → ν1 r i j ≠ none) (hρ : ∀ r i j n k q, ν1 r i j = some n → k < n → kd (slt r k) = 1 → ρ r i j k = some q → alv ν q → alv ν1 q) (hst : ∀ v ∈ st, wfv ν v → wfv ν1 v) (hlv : ∀ q ∈ lv, wfv ν q.2 → wfv ν1 q.2) (k : V p l e R s m args below meth c D B α0 ν0 nL Q cells slots ν1 ι ρ ℓ pc lv st) : V p l e R s m args below meth c D B α0 ν0 nL Q cells slots ν ι ρ ℓ pc lv st := by
  intro α H locs ls hR hS hl h0 h1 h2
  refine k α H locs ls ⟨hR.1, fun r i j n hn => hR.2.1 r i j n (hsub r i j n hn), fun r i j n k q hn hk ht hq => hρ r i j n k q hn hk ht hq (hR.2.2.1 r i j n k q (hsub r i j n hn) hk ht hq), hR.2.2.2⟩ hS hl ⟨hk0, h0.2⟩ (fun v hv => ?_) (fun v hv => hst v hv (h2 v hv))
  obtain ⟨q, hq, rfl⟩ := List.mem_map.mp hv
  exact hlv q hq (h1 q.2 hv)
theorem V_gWid {idx : Nat} {host : String} (C : Cx p l s m args meth c D B tW α0 own cc nL ret mn tab) (hd : decode cc pc = .ok (.getstatic idx, 3)) (hw : (own, idx, "ObjectLinks", "WIDTHS", "[I", host) ∈ nwF) (k : V p l e R s m args below meth c D B α0 ν0 nL Q cells slots ν ι ρ ℓ (pc + 3) lv (sR 99 0 0 :: st)) : V p l e R s m args below meth c D B α0 ν0 nL Q cells slots ν ι ρ ℓ pc lv st := by
  intro α H locs ls hR hS hl h0 h1 h2
  have e9 : α 99 0 0 = tW := (h0.2 99 0 0 (Or.inl (by decide))).trans C.2.2.2.2.2.2.2.2.2.2.2.2
  have hk := k α H locs ls hR hS hl h0 h1 (wfl_c (fun q hq => by cases hq; exact Or.inr (by decide)) h2)
  rw [List.map_cons, show enc α (sR 99 0 0) = .ref tW from congrArg Value.ref e9] at hk
  exact va_getsN C.1 C.2.1 C.2.2.2.2.2.1.2.2.2.1 hS C.2.2.2.1 (va_Nw.use rfl (C.2.2.2.2.2.1.1.2.2.2.1 _ hw)) (fun x h => h) hd hk
theorem V_lWid  (C : Cx p l s m args meth c D B tW α0 own cc nL ret mn tab) (hd : decode cc pc = .ok (.arraylength, 1)) (k : V p l e R s m args below meth c D B α0 ν0 nL Q cells slots ν ι ρ ℓ (pc + 1) lv (sI 5 :: st)) : V p l e R s m args below meth c D B α0 ν0 nL Q cells slots ν ι ρ ℓ pc lv (sR 99 0 0 :: st) := by
  intro α H locs ls hR hS hl h0 h1 h2
  have e9 : α 99 0 0 = tW := (h0.2 99 0 0 (Or.inl (by decide))).trans C.2.2.2.2.2.2.2.2.2.2.2.2
  rw [List.map_cons, show enc α (sR 99 0 0) = .ref tW from congrArg Value.ref e9]
  exact va_tlen C.1 C.2.1 C.2.2.2.2.2.1.2.2.2.2 hS (v := 5) rfl hd (k α H locs ls hR hS hl h0 h1 (wfl_c wfv_I (wfl_t h2)))
theorem V_eWid {x v : Int32} {t : Nat} (C : Cx p l s m args meth c D B tW α0 own cc nL ret mn tab) (hd : decode cc pc = .ok (.iaload, 1)) (hx : x = nI t) (ht : t < 5) (hv : wid_ t = .int v) (k : V p l e R s m args below meth c D B α0 ν0 nL Q cells slots ν ι ρ ℓ (pc + 1) lv (sI v :: st)) : V p l e R s m args below meth c D B α0 ν0 nL Q cells slots ν ι ρ ℓ pc lv (sI x :: sR 99 0 0 :: st) := by
  intro α H locs ls hR hS hl h0 h1 h2
  have e9 : α 99 0 0 = tW := (h0.2 99 0 0 (Or.inl (by decide))).trans C.2.2.2.2.2.2.2.2.2.2.2.2
  rw [List.map_cons, List.map_cons, show enc α (sR 99 0 0) = .ref tW from congrArg Value.ref e9]
  exact va_ti C.1 C.2.1 C.2.2.2.2.2.1.2.2.2.2 hS (by rw [hx]; exact vp_in_nI ht (by decide)) (v := .int v) (by rw [hx, nI_clamp (by omega)]; exact hv) hd (k α H locs ls hR hS hl h0 h1 (wfl_c wfv_I (wfl_t (wfl_t h2))))
end Am3
