/-- what is known of a class of objects -/
def ClF (r : Nat) (C : String) (T : u_T) (N : Nat) : Prop := r < 20 ∧ cls_[r]? = some (C, T, N) ∧ (∀ w ∈ u_ws C T N, w ∈ tb_) ∧ (∀ k, k < N → parseFieldDescriptor (T k).2.2.1 = some (slt r k)) ∧ (∀ a, a < N → ∀ b, b < N → a ≠ b → (T a).2.1 ≠ (T b).2.1) ∧ Cond.instantiable C N ∈ tb_ ∧ Cond.initialized C ∈ tb_ ∧ N < 1000
theorem Rh.put {D : GD} {B : Nat} {α : Ad} {ν : Nu} {ι ι' : Io} {ρ ρ' : Ro} {ℓ ℓ' : Lo} {H H' : Heap} {r i j n : Nat} (hR : Rh D B α ν ι ρ ℓ H) (hν : ν r i j = some n) (hz : H'.size = H.size) (ho : ∀ q, q ≠ α r i j → H'[q]? = H[q]?)
    (hι : ∀ a b d k, ¬ (a = r ∧ b = i ∧ d = j) → ι' a b d k = ι a b d k) (hρ : ∀ a b d k, ¬ (a = r ∧ b = i ∧ d = j) → ρ' a b d k = ρ a b d k) (hℓ : ∀ a b d k, ¬ (a = r ∧ b = i ∧ d = j) → ℓ' a b d k = ℓ a b d k)
    (hc : cellA D α ι' ρ' ℓ' r i j n H') (hw : ∀ k q, k < n → kd (slt r k) = 1 → ρ' r i j k = some q → alv ν q) : Rh D B α ν ι' ρ' ℓ' H' := by
  refine ⟨hR.1, fun a b d n' hn => ?_, fun a b d n' k q hn hk ht hq => ?_, by rw [hz]; exact hR.2.2.2⟩
  · obtain ⟨g1, g2, g3, g4⟩ := hR.2.1 a b d n' hn
    by_cases e : a = r ∧ b = i ∧ d = j
    · obtain ⟨rfl, rfl, rfl⟩ := e
      cases hν.symm.trans hn
      exact ⟨g1, g2, hc, g4⟩
    · refine ⟨g1, g2, g3.to rfl (ho _ fun q => e ?_) (fun k hk => ?_), g4⟩
      · exact hR.1 _ _ _ _ _ _ g1 (hR.2.1 r i j n hν).1 q
      · unfold cont
        rw [hι a b d k e, hρ a b d k e, hℓ a b d k e]
  · by_cases e : a = r ∧ b = i ∧ d = j
    · obtain ⟨rfl, rfl, rfl⟩ := e
      cases hν.symm.trans hn
      exact hw k q hk ht hq
    · rw [hρ a b d k e] at hq
      exact hR.2.2.1 a b d n' k q hn hk ht hq
theorem alv_up {ν : Nu} {r i j n : Nat} (q : Pt3) (h : alv ν q) : alv (up3 ν r i j (some n)) q := by
  rcases h with h | h
  · left
    unfold up3
    by_cases e : q.1 = r ∧ q.2.1 = i ∧ q.2.2 = j
    · rw [if_pos e]; exact fun z => by cases z
    · rw [if_neg e]; exact h
  · exact Or.inr h
theorem Rh.grow {D : GD} {B : Nat} {α : Ad} {ν : Nu} {ι ι' : Io} {ρ ρ' : Ro} {ℓ ℓ' : Lo} {H H' : Heap} {r i j n : Nat} (hR : Rh D B α ν ι ρ ℓ H) (hr : r < 98) (hn : n < 2147483648) (hν : ν r i j = none) (hz : H'.size = H.size + 1) (ho : ∀ q, q < H.size → H'[q]? = H[q]?)
    (hι : ∀ a b d k, ¬ (a = r ∧ b = i ∧ d = j) → ι' a b d k = ι a b d k) (hρ : ∀ a b d k, ¬ (a = r ∧ b = i ∧ d = j) → ρ' a b d k = ρ a b d k) (hℓ : ∀ a b d k, ¬ (a = r ∧ b = i ∧ d = j) → ℓ' a b d k = ℓ a b d k) (hρn : ∀ k, kd (slt r k) = 1 → ρ' r i j k = none)
    (hc : ∀ α' : Ad, α' r i j = H.size → cellA D α' ι' ρ' ℓ' r i j n H') : ∃ α' : Ad, agr α ν α' (up3 ν r i j (some n)) ∧ α' r i j = H.size ∧ Rh D B α' (up3 ν r i j (some n)) ι' ρ' ℓ' H' := by
  obtain ⟨α', hα⟩ : ∃ α' : Ad, α' = fun a b d => if a = r ∧ b = i ∧ d = j then H.size else if a < 98 ∧ α a b d = H.size then α r i j else α a b d := ⟨_, rfl⟩
  have hat : α' r i j = H.size := by rw [hα]; simp
  have hold : ∀ a b d, 98 ≤ a ∨ ν a b d ≠ none → α' a b d = α a b d := by
    intro a b d h
    have e : ¬ (a = r ∧ b = i ∧ d = j) := by
      rintro ⟨rfl, rfl, rfl⟩
      rcases h with h | h
      · omega
      · exact h hν
    have e2 : ¬ (a < 98 ∧ α a b d = H.size) := by
      rintro ⟨g1, g2⟩
      rcases h with h | h
      · omega
      · cases hx : ν a b d with
        | none => exact h hx
        | some n' =>
          have := (hR.2.1 a b d n' hx).2.2.1.lt
          omega
    rw [hα]
    simp only [if_neg e, if_neg e2]
  refine ⟨α', ⟨fun a b d h => ?_, hold⟩, hat, fun a b d a' b' d' g g' he => ?_, fun a b d n' hn' => ?_, fun a b d n' k q hn' hk ht hq => ?_, by have := hR.2.2.2; omega⟩
  · unfold up3
    by_cases e : a = r ∧ b = i ∧ d = j
    · rw [if_pos e]; exact fun z => by cases z
    · rw [if_neg e]; exact h
  · rw [hα] at he
    simp only at he
    by_cases e : a = r ∧ b = i ∧ d = j <;> by_cases e' : a' = r ∧ b' = i ∧ d' = j
    · obtain ⟨rfl, rfl, rfl⟩ := e
      obtain ⟨rfl, rfl, rfl⟩ := e'
      exact ⟨rfl, rfl, rfl⟩
    · rw [if_pos e, if_neg e'] at he
      by_cases f' : a' < 98 ∧ α a' b' d' = H.size
      · rw [if_pos f'] at he
        have := hR.1 _ _ _ _ _ _ hr g' (he.symm.trans f'.2.symm)
        exact absurd ⟨this.1.symm, this.2.1.symm, this.2.2.symm⟩ e'
      · rw [if_neg f'] at he
        exact absurd ⟨g', he.symm⟩ f'
    · rw [if_neg e, if_pos e'] at he
      by_cases f : a < 98 ∧ α a b d = H.size
      · rw [if_pos f] at he
        have := hR.1 _ _ _ _ _ _ hr g (he.trans f.2.symm)
        exact absurd ⟨this.1.symm, this.2.1.symm, this.2.2.symm⟩ e
      · rw [if_neg f] at he
        exact absurd ⟨g, he⟩ f
    · rw [if_neg e, if_neg e'] at he
      by_cases f : a < 98 ∧ α a b d = H.size <;> by_cases f' : a' < 98 ∧ α a' b' d' = H.size
      · exact hR.1 _ _ _ _ _ _ g g' (f.2.trans f'.2.symm)
      · rw [if_pos f, if_neg f'] at he
        have := hR.1 _ _ _ _ _ _ hr g' he
        exact absurd ⟨this.1.symm, this.2.1.symm, this.2.2.symm⟩ e'
      · rw [if_neg f, if_pos f'] at he
        have := hR.1 _ _ _ _ _ _ g hr he
        exact absurd this e
      · rw [if_neg f, if_neg f'] at he
        exact hR.1 _ _ _ _ _ _ g g' he
  · by_cases e : a = r ∧ b = i ∧ d = j
    · obtain ⟨rfl, rfl, rfl⟩ := e
      rw [up3_s] at hn'
      cases hn'
      exact ⟨hr, hn, hc α' hat, by rw [hat]; exact hR.2.2.2⟩
    · have hn2 : ν a b d = some n' := by unfold up3 at hn'; rwa [if_neg e] at hn'
      obtain ⟨g1, g2, g3, g4⟩ := hR.2.1 a b d n' hn2
      have ha := hold a b d (Or.inr (by rw [hn2]; exact fun z => by cases z))
      refine ⟨g1, g2, g3.to ha (ho _ g3.lt) (fun k hk => ?_), by rw [ha]; exact g4⟩
      unfold cont
      rw [hι a b d k e, hρ a b d k e, hℓ a b d k e]
      split
      · rfl
      · rename_i ht
        exact (enc_ag (ν := ν) (fun q hq => hR.2.2.1 a b d n' k q hn2 hk ht (Sum.inr.inj (Sum.inr.inj hq))) hold).symm
      · rfl
  · by_cases e : a = r ∧ b = i ∧ d = j
    · obtain ⟨rfl, rfl, rfl⟩ := e
      rw [hρn k ht] at hq
      cases hq
    · have hn2 : ν a b d = some n' := by unfold up3 at hn'; rwa [if_neg e] at hn'
      rw [hρ a b d k e] at hq
      exact alv_up q (hR.2.2.1 a b d n' k q hn2 hk ht hq)
theorem up4_o {β : Type} {f : Nat → Nat → Nat → Nat → β} {r i j k : Nat} {x : β} (a b d k' : Nat) (h : ¬ (a = r ∧ b = i ∧ d = j)) : up4 f r i j k x a b d k' = f a b d k' := by
  unfold up4
  exact if_neg fun z => h ⟨z.1, z.2.1, z.2.2.1⟩
theorem upA_o {β : Type} {f : Nat → Nat → Nat → Nat → β} {r i j : Nat} {x : Nat → β} (a b d k' : Nat) (h : ¬ (a = r ∧ b = i ∧ d = j)) : upA f r i j x a b d k' = f a b d k' := by
  unfold upA
  exact if_neg h
theorem updV_at {f : Nat → Value} {k : Nat} {v : Value} : updV f k v k = v := by simp [updV]
theorem updV_ne {f : Nat → Value} {k j : Nat} {v : Value} (h : j ≠ k) : updV f k v j = f j := by simp [updV, h]
theorem cont_upI {α : Ad} {ι : Io} {ρ : Ro} {ℓ : Lo} {r i j k : Nat} {x : Int32} (h : kd (slt r k) = 0) (k' : Nat) : updV (cont α ι ρ ℓ r i j) k (.int x) k' = cont α (up4 ι r i j k x) ρ ℓ r i j k' := by
  by_cases e : k' = k
  · subst e
    rw [updV_at, cont_I h, up4_s]
  · rw [updV_ne e]
    unfold cont
    rw [show up4 ι r i j k x r i j k' = ι r i j k' from if_neg fun z => e z.2.2.2]
theorem cont_upR {α : Ad} {ι : Io} {ρ : Ro} {ℓ : Lo} {r i j k : Nat} {x : Option Pt3} (h : kd (slt r k) = 1) (k' : Nat) : updV (cont α ι ρ ℓ r i j) k (enc α (sQ x)) k' = cont α ι (up4 ρ r i j k x) ℓ r i j k' := by
  by_cases e : k' = k
  · subst e
    rw [updV_at, cont_R h, up4_s]
  · rw [updV_ne e]
    unfold cont
    rw [show up4 ρ r i j k x r i j k' = ρ r i j k' from if_neg fun z => e z.2.2.2]
theorem cont_upL {α : Ad} {ι : Io} {ρ : Ro} {ℓ : Lo} {r i j k : Nat} {x : Int64} (h : kd (slt r k) = 2) (k' : Nat) : updV (cont α ι ρ ℓ r i j) k (.long x) k' = cont α ι ρ (up4 ℓ r i j k x) r i j k' := by
  by_cases e : k' = k
  · subst e
    rw [updV_at, cont_L h, up4_s]
  · rw [updV_ne e]
    unfold cont
    rw [show up4 ℓ r i j k x r i j k' = ℓ r i j k' from if_neg fun z => e z.2.2.2]
section Am2
variable {p : Program} {l : Launch} {e : Env} {R : Room} {s : State} {m : MethodId} {args : Array Value} {below : List Frame} {meth : Method} {c : Code} {D : GD} {B tW : Nat} {α0 : Ad} {ν0 : Nu} {own : String} {cc : ByteArray} {nL : Nat} {ret : Option FieldType} {mn : String} {tab : List ExceptionTableEntry} {Q : State → Prop} {cells slots : Nat} {ν : Nu} {ι : Io} {ρ : Ro} {ℓ : Lo} {pc : Nat} {lv lv' : List (Nat × SV)} {st : List SV}
theorem Cx.vk {D : GD} {B tW : Nat} {s : State} (h : KS D B tW s) : va_K (D.1, D.2.1) cls_ [] s := ⟨h.1.1, fun k q z => by simp at z⟩
theorem V_getI {r i j kx N idx : Nat} {C1 : String} {T : u_T} (C : Cx p l s m args meth c D B tW α0 own cc nL ret mn tab) (hd : decode cc pc = .ok (.getfield idx, 3)) (hF : ClF r C1 T N) (hk : kx < N) (hw : Cond.fieldLink own idx (T kx).1 (T kx).2.1 (T kx).2.2.1 ∈ tb_) (ha : ν r i j ≠ none) (ht : kd (slt r kx) = 0) (k : V p l e R s m args below meth c D B α0 ν0 nL Q cells slots ν ι ρ ℓ (pc + 3) lv (sI (ι r i j kx) :: st)) : V p l e R s m args below meth c D B α0 ν0 nL Q cells slots ν ι ρ ℓ pc lv (sR r i j :: st) := by
  intro α H locs ls hR hS hl h0 h1 h2
  obtain ⟨n, hn⟩ := Option.ne_none_iff_exists'.mp ha
  obtain ⟨-, -, g3, -⟩ := hR.2.1 r i j n hn
  obtain ⟨q, h3, h4, cell, q1, q2, q3, q4⟩ := g3.1 hF.1
  cases hF.2.1.symm.trans h3
  obtain ⟨hS1, hfc, kC, hkC, hkind⟩ := C.2.2.2.2.2.1.1.1 r _ hF.2.1
  obtain ⟨cf, kf, fi, f, hi, hsl⟩ := hS1 kx hk
  exact W.getf C.1 C.2.1 C.2.2.2.1 (C.2.2.2.2.1 _ hw) hi (u_facts hfc hkC (u_lays C.2.2.2.2.1 hF.2.2.1 hk) hi).1 q1 (by rw [q3]; exact fun h => by cases h) (v := .int (ι r i j kx)) (by rw [hsl, q4 kx hk, cont_I ht]) rfl rfl hd (k α H locs ls hR hS hl h0 h1 (wfl_c wfv_I (wfl_t h2)))
theorem V_getR {r i j kx N idx : Nat} {C1 : String} {T : u_T} {x : Option Pt3} (C : Cx p l s m args meth c D B tW α0 own cc nL ret mn tab) (hd : decode cc pc = .ok (.getfield idx, 3)) (hF : ClF r C1 T N) (hk : kx < N) (hw : Cond.fieldLink own idx (T kx).1 (T kx).2.1 (T kx).2.2.1 ∈ tb_) (ha : ν r i j ≠ none) (ht : kd (slt r kx) = 1) (hx : ρ r i j kx = x) (k : V p l e R s m args below meth c D B α0 ν0 nL Q cells slots ν ι ρ ℓ (pc + 3) lv (sQ x :: st)) : V p l e R s m args below meth c D B α0 ν0 nL Q cells slots ν ι ρ ℓ pc lv (sR r i j :: st) := by
  intro α H locs ls hR hS hl h0 h1 h2
  obtain ⟨n, hn⟩ := Option.ne_none_iff_exists'.mp ha
  obtain ⟨-, -, g3, -⟩ := hR.2.1 r i j n hn
  obtain ⟨q, h3, h4, cell, q1, q2, q3, q4⟩ := g3.1 hF.1
  cases hF.2.1.symm.trans h3
  obtain ⟨hS1, hfc, kC, hkC, hkind⟩ := C.2.2.2.2.2.1.1.1 r _ hF.2.1
  obtain ⟨cf, kf, fi, f, hi, hsl⟩ := hS1 kx hk
  have hkn : kx < n := by rw [h4]; exact hk
  exact W.getf C.1 C.2.1 C.2.2.2.1 (C.2.2.2.2.1 _ hw) hi (u_facts hfc hkC (u_lays C.2.2.2.2.1 hF.2.2.1 hk) hi).1 q1 (by rw [q3]; exact fun h => by cases h) (v := enc α (sQ x)) (by rw [hsl, q4 kx hk, cont_R ht, hx]) rfl rfl hd (k α H locs ls hR hS hl h0 h1 (wfl_c (fun q hq => hR.2.2.1 r i j n kx q hn hkn ht (by cases hq; exact hx)) (wfl_t h2)))
theorem V_putI {r i j kx N idx : Nat} {C1 : String} {T : u_T} {x : Int32} (C : Cx p l s m args meth c D B tW α0 own cc nL ret mn tab) (hd : decode cc pc = .ok (.putfield idx, 3)) (hF : ClF r C1 T N) (hk : kx < N) (hw : Cond.fieldLink own idx (T kx).1 (T kx).2.1 (T kx).2.2.1 ∈ tb_) (ha : ν r i j ≠ none) (ht : kd (slt r kx) = 0) (hf : (T kx).2.2.2 = false) (hx : narrow (slt r kx) (.int x) = .int x) (hy : fits (slt r kx) (.int x) = true) (k : V p l e R s m args below meth c D B α0 ν0 nL Q cells slots ν (up4 ι r i j kx x) ρ ℓ (pc + 3) lv st) : V p l e R s m args below meth c D B α0 ν0 nL Q cells slots ν ι ρ ℓ pc lv (sI x :: sR r i j :: st) := by
  intro α H locs ls hR hS hl h0 h1 h2
  obtain ⟨n, hn⟩ := Option.ne_none_iff_exists'.mp ha
  obtain ⟨-, -, g3, -⟩ := hR.2.1 r i j n hn
  obtain ⟨q, h3, h4, cell, q1, q2, q3, q4⟩ := g3.1 hF.1
  cases hF.2.1.symm.trans h3
  obtain ⟨hS1, hfc, kC, hkC, hkind⟩ := C.2.2.2.2.2.1.1.1 r _ hF.2.1
  obtain ⟨cf, kf, fi, f, hi, hsl⟩ := hS1 kx hk
  have hap := va_apart (own := own) C.2.2.2.2.1 hF.2.2.1 (slt r) hF.2.2.2.1 hF.2.2.2.2.1 (Cx.vk C.2.2.2.2.2.1) hF.2.1
  have hlay := C.2.2.2.2.1 _ (hF.2.2.1 _ (u_in_lay hk))
  unfold u_lay at hlay
  rw [if_neg (by rw [hf]; decide)] at hlay
  have h6 := u_store hfc hkC hkind hlay hi (hF.2.2.2.1 kx hk) hx hy
  refine W.putK C.1 C.2.1 (f := f) ⟨C.2.2.2.1, C.2.2.2.2.1 _ hw, ⟨_, _, _, hi⟩, (u_facts hfc hkC (u_lays C.2.2.2.2.1 hF.2.2.1 hk) hi).1⟩ (v := .int x) (by rw [q2]; exact h6) q1 q3 (by rw [hsl]; exact k2_hasslot (q4 kx hk)) rfl rfl hd fun H' e1 e2 e3 => ?_
  rw [hsl] at e1 ⊢
  refine k α H' _ ls (hR.put hn e2 e3 up4_o (fun _ _ _ _ _ => rfl) (fun _ _ _ _ _ => rfl) ⟨fun _ => ⟨_, hF.2.1, h4, t_OB.to (V := updV (cont α ι ρ ℓ r i j) kx _) ⟨_, e1, q2, q3, t_set q4 hap hk _⟩ (fun k' _ => cont_upI ht k')⟩, fun z => absurd hF.1 (by omega)⟩ (fun k9 q9 z1 z2 z3 => hR.2.2.1 r i j n k9 q9 hn z1 z2 z3)) (hS.put e2 e3 (hR.2.1 r i j n hn).2.2.2) hl h0 h1 (wfl_t (wfl_t h2))
theorem V_putIF {r i j kx N idx : Nat} {C1 : String} {T : u_T} {x : Int32} (C : Cx p l s m args meth c D B tW α0 own cc nL ret mn tab) (hd : decode cc pc = .ok (.putfield idx, 3)) (hF : ClF r C1 T N) (hk : kx < N) (hw : Cond.fieldLink own idx (T kx).1 (T kx).2.1 (T kx).2.2.1 ∈ tb_) (ha : ν r i j ≠ none) (ht : kd (slt r kx) = 0) (hf : (T kx).2.2.2 = true) (hmn : mn = "<init>") (hdc : (T kx).1 = own) (hx : narrow (slt r kx) (.int x) = .int x) (hy : fits (slt r kx) (.int x) = true) (k : V p l e R s m args below meth c D B α0 ν0 nL Q cells slots ν (up4 ι r i j kx x) ρ ℓ (pc + 3) lv st) : V p l e R s m args below meth c D B α0 ν0 nL Q cells slots ν ι ρ ℓ pc lv (sI x :: sR r i j :: st) := by
  intro α H locs ls hR hS hl h0 h1 h2
  obtain ⟨n, hn⟩ := Option.ne_none_iff_exists'.mp ha
  obtain ⟨-, -, g3, -⟩ := hR.2.1 r i j n hn
  obtain ⟨q, h3, h4, cell, q1, q2, q3, q4⟩ := g3.1 hF.1
  cases hF.2.1.symm.trans h3
  obtain ⟨hS1, hfc, kC, hkC, hkind⟩ := C.2.2.2.2.2.1.1.1 r _ hF.2.1
  obtain ⟨cf, kf, fi, f, hi, hsl⟩ := hS1 kx hk
  have hap := va_apart (own := own) C.2.2.2.2.1 hF.2.2.1 (slt r) hF.2.2.2.1 hF.2.2.2.2.1 (Cx.vk C.2.2.2.2.2.1) hF.2.1
  have hlay := C.2.2.2.2.1 _ (hF.2.2.1 _ (u_in_lay hk))
  unfold u_lay at hlay
  rw [if_pos hf] at hlay
  have hcf : m.cls = cf := by
    obtain ⟨_, _, c', _, _, _, -, -, hf', -, -, -, hown2, -⟩ := Cond.laysFinal_spec hlay
    have e1 : c' = cf := by have := hi.symm.trans hf'; simp at this; exact this.1.symm
    rw [hdc] at hown2
    rw [← e1]; exact Option.some.inj (C.2.2.2.1.symm.trans hown2)
  have h6 := u_fits hfc hkC hkind (Or.inr hlay) hi (hF.2.2.2.1 kx hk) hx hy
  refine W.putFinK C.1 C.2.1 C.2.2.2.1 (C.2.2.2.2.1 _ hw) hi (u_facts hfc hkC (u_lays C.2.2.2.2.1 hF.2.2.1 hk) hi).1 hcf (C.2.2.2.2.2.2.2.2.2.2.2.1.trans hmn) (v := .int x) (by rw [q2]; exact h6) q1 q3 (by rw [hsl]; exact k2_hasslot (q4 kx hk)) rfl rfl hd fun H' e1 e2 e3 => ?_
  rw [hsl] at e1 ⊢
  refine k α H' _ ls (hR.put hn e2 e3 up4_o (fun _ _ _ _ _ => rfl) (fun _ _ _ _ _ => rfl) ⟨fun _ => ⟨_, hF.2.1, h4, t_OB.to (V := updV (cont α ι ρ ℓ r i j) kx _) ⟨_, e1, q2, q3, t_set q4 hap hk _⟩ (fun k' _ => cont_upI ht k')⟩, fun z => absurd hF.1 (by omega)⟩ (fun k9 q9 z1 z2 z3 => hR.2.2.1 r i j n k9 q9 hn z1 z2 z3)) (hS.put e2 e3 (hR.2.1 r i j n hn).2.2.2) hl h0 h1 (wfl_t (wfl_t h2))
theorem V_putRF {r i j kx N idx : Nat} {C1 : String} {T : u_T} {x : Pt3} (C : Cx p l s m args meth c D B tW α0 own cc nL ret mn tab) (hd : decode cc pc = .ok (.putfield idx, 3)) (hF : ClF r C1 T N) (hk : kx < N) (hw : Cond.fieldLink own idx (T kx).1 (T kx).2.1 (T kx).2.2.1 ∈ tb_) (ha : ν r i j ≠ none) (ht : kd (slt r kx) = 1) (hf : (T kx).2.2.2 = true) (hmn : mn = "<init>") (hdc : (T kx).1 = own) (hx : ∀ a, narrow (slt r kx) (.ref a) = .ref a) (hy : ∀ a, fits (slt r kx) (.ref a) = true) (k : V p l e R s m args below meth c D B α0 ν0 nL Q cells slots ν ι (up4 ρ r i j kx (some x)) ℓ (pc + 3) lv st) : V p l e R s m args below meth c D B α0 ν0 nL Q cells slots ν ι ρ ℓ pc lv (sQ (some x) :: sR r i j :: st) := by
  intro α H locs ls hR hS hl h0 h1 h2
  obtain ⟨n, hn⟩ := Option.ne_none_iff_exists'.mp ha
  obtain ⟨-, -, g3, -⟩ := hR.2.1 r i j n hn
  obtain ⟨q, h3, h4, cell, q1, q2, q3, q4⟩ := g3.1 hF.1
  cases hF.2.1.symm.trans h3
  obtain ⟨hS1, hfc, kC, hkC, hkind⟩ := C.2.2.2.2.2.1.1.1 r _ hF.2.1
  obtain ⟨cf, kf, fi, f, hi, hsl⟩ := hS1 kx hk
  have hap := va_apart (own := own) C.2.2.2.2.1 hF.2.2.1 (slt r) hF.2.2.2.1 hF.2.2.2.2.1 (Cx.vk C.2.2.2.2.2.1) hF.2.1
  have hlay := C.2.2.2.2.1 _ (hF.2.2.1 _ (u_in_lay hk))
  unfold u_lay at hlay
  rw [if_pos hf] at hlay
  have hcf : m.cls = cf := by
    obtain ⟨_, _, c', _, _, _, -, -, hf', -, -, -, hown2, -⟩ := Cond.laysFinal_spec hlay
    have e1 : c' = cf := by have := hi.symm.trans hf'; simp at this; exact this.1.symm
    rw [hdc] at hown2
    rw [← e1]; exact Option.some.inj (C.2.2.2.1.symm.trans hown2)
  have h6 := u_fits hfc hkC hkind (Or.inr hlay) hi (hF.2.2.2.1 kx hk) (hx (ad3 α x)) (hy (ad3 α x))
  refine W.putFinK C.1 C.2.1 C.2.2.2.1 (C.2.2.2.2.1 _ hw) hi (u_facts hfc hkC (u_lays C.2.2.2.2.1 hF.2.2.1 hk) hi).1 hcf (C.2.2.2.2.2.2.2.2.2.2.2.1.trans hmn) (v := .ref (ad3 α x)) (by rw [q2]; exact h6) q1 q3 (by rw [hsl]; exact k2_hasslot (q4 kx hk)) rfl rfl hd fun H' e1 e2 e3 => ?_
  rw [hsl] at e1 ⊢
  refine k α H' _ ls (hR.put hn e2 e3 (fun _ _ _ _ _ => rfl) up4_o (fun _ _ _ _ _ => rfl) ⟨fun _ => ⟨_, hF.2.1, h4, t_OB.to (V := updV (cont α ι ρ ℓ r i j) kx _) ⟨_, e1, q2, q3, t_set q4 hap hk _⟩ (fun k' _ => cont_upR (x := some x) ht k')⟩, fun z => absurd hF.1 (by omega)⟩ (fun k9 q9 z1 z2 z3 => by
      by_cases e9 : k9 = kx
      · subst e9
        rw [up4_s] at z3
        cases z3
        exact wfl_h h2 x rfl
      · rw [show up4 ρ r i j kx (some x) r i j k9 = ρ r i j k9 from if_neg fun z => e9 z.2.2.2] at z3
        exact hR.2.2.1 r i j n k9 q9 hn z1 z2 z3)) (hS.put e2 e3 (hR.2.1 r i j n hn).2.2.2) hl h0 h1 (wfl_t (wfl_t h2))
end Am2
