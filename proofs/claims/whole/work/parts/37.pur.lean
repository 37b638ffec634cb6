theorem nbf {a b : Nat} : Nat.beq a b = false ↔ a ≠ b := by
  constructor
  · intro h z
    rw [z, Nat.beq_refl] at h
    cases h
  · intro h
    cases hb : Nat.beq a b with
    | false => rfl
    | true => exact absurd (Nat.eq_of_beq_eq_true hb) h
def isUb (r : Nat) : Bool := Nat.beq r 2 || Nat.beq r 5 || Nat.beq r 6 || Nat.beq r 7 || Nat.beq r 8 || Nat.beq r 21 || Nat.beq r 22 || Nat.beq r 23 || Nat.beq r 24
def rs (ν : Nu) : Nu := fun r i j => cond (isUb r) none (ν r i j)
def ri (ι : Io) : Io := fun r i j k => cond (isUb r || (Nat.ble 42 r && Nat.ble r 57) || (Nat.beq r 9 && Nat.beq k 1) || (Nat.beq r 10 && (Nat.beq k 0 || Nat.beq k 1))) 0 (ι r i j k)
def rq (ρ : Ro) : Ro := fun r i j k => cond (isUb r || Nat.beq r 20) none (ρ r i j k)
theorem IV_rs {ν ν' : Nu} {ι ι' : Io} {ρ ρ' : Ro} {N N' c w n z kn g g' : Nat} (h : IV ν ι ρ N c w n z kn g) (hν : rs ν' = rs ν) (hι : ri ι' = ri ι) (hρ : rq ρ' = rq ρ) (hB : BD ι') (hN : N ≤ N') (hU : IU ν' ι' ρ' N') (hR : IR ν' g') : IV ν' ι' ρ' N' c w n z kn g' := by
  have h1 : OS (rs ν) (rq ρ) := h.os
  have h2 : MoS (rs ν) (rq ρ) := h.mo
  have h3 : bd (ri ι) 78 1400 255 := h.bm.2.1
  have h4 : bd (ri ι) 59 12 11 := h.bm.2.2
  have h5 : IC (ri ι) (rq ρ) N c := h.ic
  have h6 : IO (ri ι) w := h.io
  have h7 : IF (ri ι) := h.jf
  have h8 : IG (ri ι) n := h.ig
  have h9 : IP (ri ι) := h.ip
  have h10 : IN (ri ι) z kn := h.jn
  rw [← hν, ← hρ] at h1 h2
  rw [← hι] at h3 h4 h6 h7 h8 h9 h10
  rw [← hι, ← hρ] at h5
  exact ⟨h1, h2, ⟨hB, h3, h4⟩, hU, ⟨h5.1, h5.2.1, h5.2.2.1, fun k hk => ⟨(h5.2.2.2.1 k hk).1, Nat.lt_of_lt_of_le (h5.2.2.2.1 k hk).2.1 hN, (h5.2.2.2.1 k hk).2.2⟩, h5.2.2.2.2⟩, h6, h7, h8, h9, h10, hR⟩
def FrU (o : Nat) (ν ν' : Nu) (ι ι' : Io) (ρ ρ' : Ro) : Prop := (∀ r i j, ¬ (isU r ∧ i = o) → r ≠ 5 → ν' r i j = ν r i j) ∧ (∀ r i j k, ¬ (isU r ∧ i = o) → r ≠ 5 → ¬ (i = 0 ∧ j = 0 ∧ inO o r k) → ¬ ((r = 10 ∧ (k = 0 ∨ k = 1)) ∨ (r = 9 ∧ k = 1)) → ι' r i j k = ι r i j k) ∧ (∀ r i j k, ¬ (isU r ∧ i = o) → r ≠ 5 → ¬ (r = 20 ∧ k = o) → ρ' r i j k = ρ r i j k)
theorem isUb_t {r : Nat} (h : isUb r = false) : ¬ isU r ∧ r ≠ 5 := by
  unfold isUb at h
  simp only [Bool.or_eq_false_iff, nbf] at h
  unfold isU
  omega
theorem FrU_rs {o : Nat} {ν ν' : Nu} {ι ι' : Io} {ρ ρ' : Ro} (h : FrU o ν ν' ι ι' ρ ρ') : rs ν' = rs ν ∧ ri ι' = ri ι ∧ rq ρ' = rq ρ := by
  refine ⟨?_, ?_, ?_⟩
  · funext r i j
    unfold rs
    cases hb : isUb r with
    | true => rfl
    | false => exact h.1 r i j (fun z => (isUb_t hb).1 z.1) (isUb_t hb).2
  · funext r i j k
    unfold ri
    generalize hb : (isUb r || (Nat.ble 42 r && Nat.ble r 57) || (Nat.beq r 9 && Nat.beq k 1) || (Nat.beq r 10 && (Nat.beq k 0 || Nat.beq k 1))) = b
    cases b with
    | true => rfl
    | false =>
      simp only [Bool.or_eq_false_iff, Bool.and_eq_false_iff, nbf] at hb
      obtain ⟨⟨⟨h1, h2⟩, h3⟩, h4⟩ := hb
      refine h.2.1 r i j k (fun z => (isUb_t h1).1 z.1) (isUb_t h1).2 (fun z => ?_) (fun z => ?_)
      · have h9 : ¬ (42 ≤ r ∧ r ≤ 57) := by
          intro q
          rcases h2 with h2 | h2
          · rw [Nat.ble_eq_true_of_le q.1] at h2; cases h2
          · rw [Nat.ble_eq_true_of_le q.2] at h2; cases h2
        have := z.2.2
        unfold inO at this
        omega
      · omega
  · funext r i j k
    unfold rq
    generalize hb : (isUb r || Nat.beq r 20) = b
    cases b with
    | true => rfl
    | false =>
      simp only [Bool.or_eq_false_iff, nbf] at hb
      exact h.2.2 r i j k (fun z => (isUb_t hb.1).1 z.1) (isUb_t hb.1).2 (fun z => hb.2 z.1)
theorem isU.n5 {r : Nat} (h : isU r) : r ≠ 5 ∧ r < 42 ∧ r ≠ 9 ∧ r ≠ 10 ∧ r ≠ 20 := by unfold isU at h; omega
theorem IV_unit {ν ν' : Nu} {ι ι' : Io} {ρ ρ' : Ro} {N N' c w n z kn g g' o : Nat} (h : IV ν ι ρ N c w n z kn g) (hF : FrU o ν ν' ι ι' ρ ρ') (hN : N ≤ N') (ho : o < N') (hN2 : ∀ o', o' < N' → o' ≠ o → o' < N) (h12 : N' ≤ 12) (e1 : ι' 9 0 0 1 = nI N') (e2 : ι' 10 0 0 1 = nI N') (hp : ρ' 20 0 0 o = some (8, o, 0)) (hB : BD ι') (hU : UM ν' ι' ρ' o) (hC : CV ι' o) (hD : DO ι' o) (hR : IR ν' g') : IV ν' ι' ρ' N' c w n z kn g' := by
  obtain ⟨f1, f2, f3⟩ := FrU_rs hF
  refine IV_rs h f1 f2 f3 hB hN ⟨e1, e2, h12, fun o' ho' => ?_, fun o' ho' => ?_⟩ hR
  · by_cases hq : o' = o
    · subst hq
      exact ⟨hp, hU, hC, hD⟩
    · have hl := hN2 o' ho' hq
      refine IU.ot (h.iu.2.2.2.1 o' hl) h.bd (by omega) (hF.2.2 20 0 0 o' (fun z => by have := z.1.n5; omega) (by decide) (fun z => hq z.2)) (fun r j hr => hF.1 r o' j (fun z => hq z.2) hr.n5.1) (fun r j k hr => hF.2.1 r o' j k (fun z => hq z.2) hr.n5.1 (fun z => by have := hr.n5; have := z.2.2; unfold inO at this; omega) (fun z => by have := hr.n5; omega)) (fun r j k hr => hF.2.2 r o' j k (fun z => hq z.2) hr.n5.1 (fun z => by have := hr.n5; omega)) (fun r k hr => hF.2.1 r 0 0 k (fun z => by have := z.1.n5; unfold inO at hr; omega) (fun z => by unfold inO at hr; omega) (fun z => by have := z.2.2; unfold inO at this hr; omega) (fun z => by unfold inO at hr; omega))
  · have hq : o' ≠ o := by omega
    obtain ⟨q1, q2, q3, q4, q5⟩ := h.iu.2.2.2.2 o' (by omega)
    have hh : ∀ r j, isU r → ν' r o' j = ν r o' j := fun r j hr => hF.1 r o' j (fun z => hq z.2) hr.n5.1
    refine ⟨(hh 8 0 (by unfold isU; omega)).trans q1, (hh 21 0 (by unfold isU; omega)).trans q2, (hh 22 0 (by unfold isU; omega)).trans q3, (hh 23 0 (by unfold isU; omega)).trans q4, fun s => ⟨(hh 7 s (by unfold isU; omega)).trans (q5 s).1, (hh 24 s (by unfold isU; omega)).trans (q5 s).2.1, (hh 2 s (by unfold isU; omega)).trans (q5 s).2.2.1, (hh 6 s (by unfold isU; omega)).trans (q5 s).2.2.2⟩⟩
theorem upA_ne {β : Type} {f : Nat → Nat → Nat → Nat → β} {r i j a b d q : Nat} {x : Nat → β} (h : ¬ (a = r ∧ b = i ∧ d = j)) : upA f r i j x a b d q = f a b d q := if_neg h
def F3 (o : Nat) (ν ν' : Nu) : Prop := ∀ r i j, ¬ (isU r ∧ i = o) → r ≠ 5 → ν' r i j = ν r i j
def Fi (o : Nat) (ι ι' : Io) : Prop := ∀ r i j k, ¬ (isU r ∧ i = o) → r ≠ 5 → ¬ (i = 0 ∧ j = 0 ∧ inO o r k) → ¬ ((r = 10 ∧ (k = 0 ∨ k = 1)) ∨ (r = 9 ∧ k = 1)) → ι' r i j k = ι r i j k
def Fr (o : Nat) (ρ ρ' : Ro) : Prop := ∀ r i j k, ¬ (isU r ∧ i = o) → r ≠ 5 → ¬ (r = 20 ∧ k = o) → ρ' r i j k = ρ r i j k
theorem F3.rf {o : Nat} {ν : Nu} : F3 o ν ν := fun _ _ _ _ _ => rfl
theorem Fi.rf {o : Nat} {ι : Io} : Fi o ι ι := fun _ _ _ _ _ _ _ _ => rfl
theorem Fr.rf {o : Nat} {ρ : Ro} : Fr o ρ ρ := fun _ _ _ _ _ _ _ => rfl
theorem F3.up {o r i j : Nat} {ν ν' : Nu} {x : Option Nat} (h : F3 o ν ν') (hr : (isU r ∧ i = o) ∨ r = 5) : F3 o ν (up3 ν' r i j x) := by
  intro r' i' j' h1 h2
  unfold up3
  rw [if_neg (fun z => by rcases hr with hr | hr; exact h1 (by rw [z.1, z.2.1]; exact hr); exact h2 (z.1.trans hr))]
  exact h r' i' j' h1 h2
theorem Fi.up {o r i j k : Nat} {ι ι' : Io} {x : Int32} (h : Fi o ι ι') (hr : (isU r ∧ i = o) ∨ r = 5 ∨ ((r = 10 ∧ (k = 0 ∨ k = 1)) ∨ (r = 9 ∧ k = 1))) : Fi o ι (up4 ι' r i j k x) := by
  intro r' i' j' k' h1 h2 h3 h4
  unfold up4
  rw [if_neg (fun z => by
    obtain ⟨rfl, rfl, rfl, rfl⟩ := z
    rcases hr with hr | hr | hr
    · exact h1 hr
    · exact h2 hr
    · exact h4 hr)]
  exact h r' i' j' k' h1 h2 h3 h4
theorem Fi.upA {o r i j : Nat} {ι ι' : Io} {x : Nat → Int32} (h : Fi o ι ι') (hr : (isU r ∧ i = o) ∨ r = 5) : Fi o ι (upA ι' r i j x) := by
  intro r' i' j' k' h1 h2 h3 h4
  rw [upA_ne (fun z => by
    obtain ⟨rfl, rfl, rfl⟩ := z
    rcases hr with hr | hr
    · exact h1 hr
    · exact h2 hr)]
  exact h r' i' j' k' h1 h2 h3 h4
theorem Fi.fo {o : Nat} {ι ι1 ι2 : Io} (h : Fi o ι ι1) (h2 : FO o ι1 ι2) : Fi o ι ι2 := fun r i j k a b d e => (h2 r i j k d).trans (h r i j k a b d e)
theorem Fr.up {o r i j k : Nat} {ρ ρ' : Ro} {x : Option Pt3} (h : Fr o ρ ρ') (hr : (isU r ∧ i = o) ∨ r = 5 ∨ (r = 20 ∧ k = o)) : Fr o ρ (up4 ρ' r i j k x) := by
  intro r' i' j' k' h1 h2 h3
  unfold up4
  rw [if_neg (fun z => by
    obtain ⟨rfl, rfl, rfl, rfl⟩ := z
    rcases hr with hr | hr | hr
    · exact h1 hr
    · exact h2 hr
    · exact h3 hr)]
  exact h r' i' j' k' h1 h2 h3
theorem Fr.upA {o r i j : Nat} {ρ ρ' : Ro} {x : Nat → Option Pt3} (h : Fr o ρ ρ') (hr : (isU r ∧ i = o) ∨ r = 5) : Fr o ρ (upA ρ' r i j x) := by
  intro r' i' j' k' h1 h2 h3
  rw [upA_ne (fun z => by
    obtain ⟨rfl, rfl, rfl⟩ := z
    rcases hr with hr | hr
    · exact h1 hr
    · exact h2 hr)]
  exact h r' i' j' k' h1 h2 h3
theorem isU.k {r o : Nat} (h : isU r) : (isU r ∧ o = o) ∨ r = 5 := Or.inl ⟨h, rfl⟩
theorem isU.q {r o : Nat} {P : Prop} (h : isU r) : (isU r ∧ o = o) ∨ r = 5 ∨ P := Or.inl ⟨h, rfl⟩
theorem u2 : isU 2 := by unfold isU; omega
theorem u6 : isU 6 := by unfold isU; omega
theorem u7 : isU 7 := by unfold isU; omega
theorem u8 : isU 8 := by unfold isU; omega
theorem u21 : isU 21 := by unfold isU; omega
theorem u22 : isU 22 := by unfold isU; omega
theorem u23 : isU 23 := by unfold isU; omega
theorem u24 : isU 24 := by unfold isU; omega
/-- on the unit's own cells nothing of the reference is changed -/
theorem FO.iu {o r i j k : Nat} {ι ι1 : Io} (h : FO o ι ι1) (hr : isU r) : ι1 r i j k = ι r i j k := h r i j k (fun z => by have := hr.n5; have := z.2.2; unfold inO at this; omega)
theorem UI.fo {ν : Nu} {ι ι1 : Io} {ρ : Ro} {o c n r : Nat} (h : UI ν ι ρ o c n r) (hf : FO o ι ι1) : UI ν ι1 ρ o c n r := h.cg (fun _ _ _ => rfl) (fun _ _ _ hr => hf.iu hr) (fun _ _ _ _ => rfl)
theorem UI.z {ν : Nu} {ι : Io} {ρ : Ro} {o c n r : Nat} {x : Int32} (h : UI ν ι ρ o c n r) : UI ν (up4 ι 10 0 0 0 x) ρ o c n r := h
/-! a new unit -/
abbrev oν (ν : Nu) (o : Nat) : Nu := up3 (up3 (up3 (up3 ν 8 o 0 (some 6)) 21 o 0 (some 8)) 22 o 0 (some 12)) 23 o 0 (some 16)
abbrev oρ (ρ : Ro) (o : Nat) : Ro := up4 (upA (up4 (upA (up4 (upA (upA ρ 8 o 0 (fun _ => none)) 21 o 0 (fun _ => none)) 8 o 0 0 (some (21, o, 0))) 22 o 0 (fun _ => none)) 8 o 0 2 (some (22, o, 0))) 23 o 0 (fun _ => none)) 8 o 0 4 (some (23, o, 0))
theorem UI.emp {ν : Nu} {ι : Io} {ρ : Ro} {o : Nat} (h : FU ν o) : UI (oν ν o) (upA ι 8 o 0 (fun _ => 0)) (oρ ρ o) o 0 0 0 := by
  obtain ⟨h1, h2, h3, h4, h5⟩ := h
  refine ⟨⟨?_, ?_, ?_, ?_, ?_, ?_, ?_⟩, ⟨?_, by omega⟩, ⟨?_, by omega⟩, ⟨?_, by omega⟩, fun _ h => absurd h (by omega), fun _ h => absurd h (by omega), fun _ h => absurd h (by omega), fun s _ => (⟨(h5 s).1, (h5 s).2.1⟩ : ν 7 o s = none ∧ ν 24 o s = none), fun s _ => (h5 s).2.2.1, fun s _ => (h5 s).2.2.2⟩
  all_goals first | (simp [up3, up4, upA]; done) | (simp [upA]; rfl)
theorem oν.f {ν : Nu} {o : Nat} : F3 o ν (oν ν o) := (((F3.rf.up u8.k).up u21.k).up u22.k).up u23.k
theorem oρ.f {ρ : Ro} {o : Nat} : Fr o ρ (oρ ρ o) := ((((((Fr.rf.upA u8.k).upA u21.k).up u8.q).upA u22.k).up u8.q).upA u23.k).up u8.q
theorem IV.obj {ν : Nu} {ι : Io} {ρ : Ro} {N c w n z kn g : Nat} (h : IV ν ι ρ N c w n z kn g) (hN : N < 12) : IV (oν ν N) (up4 (mEmpty (z0 (up4 (upA ι 8 N 0 (fun _ => 0)) 9 0 0 1 (nI (N + 1)))) N) 10 0 0 1 (nI (N + 1))) (up4 (oρ ρ N) 20 0 0 N (some (8, N, 0))) (N + 1) c w n z kn g := by
  have hF := h.iu.2.2.2.2 N (Nat.le_refl N)
  have e : ∀ r, r = 42 ∨ r = 47 ∨ r = 52 → mn (up4 (mEmpty (z0 (up4 (upA ι 8 N 0 (fun _ => 0)) 9 0 0 1 (nI (N + 1)))) N) 10 0 0 1 (nI (N + 1))) r N = 0 := by
    intro r hr
    unfold mn mEmpty
    rcases hr with rfl | rfl | rfl
    · rw [up4_ne (by omega), up4_ne (by omega), up4_ne (by omega), up4_s]; rfl
    · rw [up4_ne (by omega), up4_ne (by omega), up4_s]; rfl
    · rw [up4_ne (by omega), up4_s]; rfl
  refine IV_unit (o := N) h ⟨oν.f, Fi.up (Fi.fo ((Fi.upA Fi.rf u8.k).up (by omega) |>.up (by omega)) (FO.emp FO.rf)) (by omega), oρ.f.up (by omega)⟩ (by omega) (by omega) (fun o' h1 h2 => by omega) (by omega) ?_ up4_s up4_s ?_ ?_ ?_ ?_ ?_
  · show up4 (upA ι 8 N 0 (fun _ => 0)) 9 0 0 1 (nI (N + 1)) 9 0 0 1 = _
    exact up4_s
  · exact BD.emp (t := N) (show BD (z0 (up4 (upA ι 8 N 0 (fun _ => 0)) 9 0 0 1 (nI (N + 1)))) from h.bd)
  · unfold UM
    rw [e 42 (by omega), e 47 (by omega), e 52 (by omega)]
    exact (UI.emp (ι := ι) (ρ := ρ) hF).cg (fun _ _ _ => rfl) (fun r j k hr => by have := hr.n5; unfold mEmpty z0; rw [up4_ne (by omega), up4_ne (by omega), up4_ne (by omega), up4_ne (by omega), up4_ne (by omega), up4_ne (by omega)]) (fun r j k hr => by have := hr.n5; rw [up4_ne (by omega)])
  · refine ⟨fun s hs => ?_, fun s hs => ?_, fun s hs => ?_⟩
    · rw [e 42 (by omega)] at hs; omega
    · rw [e 47 (by omega)] at hs; omega
    · rw [e 52 (by omega)] at hs; omega
  · refine ⟨fun s hs => ?_, fun s hs => ?_⟩
    · rw [e 47 (by omega)] at hs; omega
    · rw [e 52 (by omega)] at hs; omega
  · exact h.ir
theorem up3_ne {β : Type} {f : Nat → Nat → Nat → β} {r i j a b d : Nat} {x : β} (h : ¬ (a = r ∧ b = i ∧ d = j)) : up3 f r i j x a b d = f a b d := if_neg h
theorem fil_ne {ι : Io} {r a n r' i j k : Nat} {x : Int32} (h : ¬ (r' = r ∧ i = 0 ∧ j = 0 ∧ a ≤ k ∧ k < a + n)) : fil ι r a n x r' i j k = ι r' i j k := if_neg h
theorem fil_in {ι : Io} {r a n k : Nat} {x : Int32} (h : a ≤ k ∧ k < a + n) : fil ι r a n x r 0 0 k = x := if_pos ⟨rfl, rfl, rfl, h.1, h.2⟩
/-! a section more -/
abbrev sν (ν : Nu) (o c n : Nat) (k : Int32) : Nu := up3 (up3 ν 7 o c (some 4)) 24 o c (some (if k = 3 then 0 else n))
abbrev sι (ι : Io) (o c n : Nat) (k q : Int32) : Io := up4 (upA (up4 (up4 (up4 (upA ι 7 o c (fun _ => 0)) 7 o c 0 k) 7 o c 1 q) 7 o c 2 (nI n)) 24 o c (fun _ => 0)) 8 o 0 1 (nI (c + 1))
abbrev sρ (ρ : Ro) (o c : Nat) : Ro := up4 (up4 (upA ρ 7 o c (fun _ => none)) 7 o c 3 (some (24, o, c))) 21 o 0 c (some (7, o, c))
theorem UI.sec {ν : Nu} {ι : Io} {ρ : Ro} {o c n r m : Nat} {k q : Int32} (h : UI ν ι ρ o c n r) (hc : c < 8) (hm : m ≤ 128) : UI (sν ν o c m k) (sι ι o c m k q) (sρ ρ o c) o (c + 1) n r := by
  obtain ⟨hU, h1, h2, h3, h4, h5, h6, h7, h8, h9⟩ := h
  refine ⟨hU, ⟨up4_s, hc⟩, ⟨?_, h2.2⟩, ⟨?_, h3.2⟩, fun s hs => ?_, h5, h6, fun s hs => ?_, h8, h9⟩
  · simp (disch := omega) only [sν, sι, sρ, z0, up3_s, up4_s, upA_s, up3_ne, up4_ne, upA_ne]; exact h2.1
  · simp (disch := omega) only [sν, sι, sρ, z0, up3_s, up4_s, upA_s, up3_ne, up4_ne, upA_ne]; exact h3.1
  · by_cases hq : s = c
    · subst hq
      refine ⟨?_, ?_, ?_, m, hm, ?_, ?_⟩
      · simp (disch := omega) only [sν, sι, sρ, z0, up3_s, up4_s, upA_s, up3_ne, up4_ne, upA_ne]
      · simp (disch := omega) only [sν, sι, sρ, z0, up3_s, up4_s, upA_s, up3_ne, up4_ne, upA_ne]
      · simp (disch := omega) only [sν, sι, sρ, z0, up3_s, up4_s, upA_s, up3_ne, up4_ne, upA_ne]
      · simp (disch := omega) only [sν, sι, sρ, z0, up3_s, up4_s, upA_s, up3_ne, up4_ne, upA_ne]
      · simp (disch := omega) only [sν, sι, sρ, z0, up3_s, up4_s, upA_s, up3_ne, up4_ne, upA_ne]
    · obtain ⟨a1, a2, a3, a, a4, a5, a6⟩ := h4 s (by omega)
      have hi : ∀ t, sι ι o c m k q 7 o s t = ι 7 o s t := fun t => by
        unfold sι
        rw [up4_ne (by omega), upA_ne (by omega), up4_ne (by omega), up4_ne (by omega), up4_ne (by omega), upA_ne (by omega)]
      refine ⟨?_, ?_, ?_, a, a4, ?_, ?_⟩
      · simp (disch := omega) only [sν, sι, sρ, z0, up3_s, up4_s, upA_s, up3_ne, up4_ne, upA_ne]; exact a1
      · simp (disch := omega) only [sν, sι, sρ, z0, up3_s, up4_s, upA_s, up3_ne, up4_ne, upA_ne]; exact a2
      · simp (disch := omega) only [sν, sι, sρ, z0, up3_s, up4_s, upA_s, up3_ne, up4_ne, upA_ne]; exact a3
      · rw [hi]; exact a5
      · simp (disch := omega) only [sν, sι, sρ, z0, up3_s, up4_s, upA_s, up3_ne, up4_ne, upA_ne]; exact a6
  · have := h7 s (by omega)
    refine ⟨?_, ?_⟩
    · simp (disch := omega) only [sν, sι, sρ, z0, up3_s, up4_s, upA_s, up3_ne, up4_ne, upA_ne]; exact this.1
    · simp (disch := omega) only [sν, sι, sρ, z0, up3_s, up4_s, upA_s, up3_ne, up4_ne, upA_ne]; exact this.2
theorem sν.f {ν : Nu} {o c n : Nat} {k : Int32} : F3 o ν (sν ν o c n k) := (F3.rf.up u7.k).up u24.k
theorem sι.f {ι : Io} {o c n : Nat} {k q : Int32} : Fi o ι (sι ι o c n k q) := (((((Fi.rf.upA u7.k).up u7.q).up u7.q).up u7.q).upA u24.k).up u8.q
theorem sρ.f {ρ : Ro} {o c : Nat} : Fr o ρ (sρ ρ o c) := ((Fr.rf.upA u7.k).up u7.q).up u21.q
theorem IV.sec {ν : Nu} {ι : Io} {ρ : Ro} {N c w n z kn g o m : Nat} {k q : Int32} (h : IV ν ι ρ N c w n z kn g) (ho : o < N) (hc : mn ι 42 o < 8) (hv : isSc k q (nI m)) (hm : m ≤ 128) : IV (sν ν o (mn ι 42 o) m k) (mAddSec (z0 (sι ι o (mn ι 42 o) m k q)) o k q (nI m)) (sρ ρ o (mn ι 42 o)) N c w n z kn g := by
  have h12 := h.N12
  have hU := h.um ho
  have hC := h.cv ho
  have hD := h.dd ho
  have hb := h.bd
  generalize ec : mn ι 42 o = c9 at *
  have e42 : ι 42 0 0 o = nI c9 := by rw [← ec]; exact hb.b42.eq (by omega)
  have eA : ∀ r t, 40 ≤ r → z0 (sι ι o c9 m k q) r 0 0 t = ι r 0 0 t := fun r t hr => by
    unfold z0 sι
    rw [up4_ne (by omega), up4_ne (by omega), upA_ne (by omega), up4_ne (by omega), up4_ne (by omega), up4_ne (by omega), upA_ne (by omega)]
  have em : mn (z0 (sι ι o c9 m k q)) 42 o = c9 := by unfold mn; rw [eA 42 o (by omega)]; exact ec
  have hfo : FO o (z0 (sι ι o c9 m k q)) (mAddSec (z0 (sι ι o c9 m k q)) o k q (nI m)) := FO.sec FO.rf (by rw [em]; exact hc)
  have eU : ∀ r i j t, isU r → mAddSec (z0 (sι ι o c9 m k q)) o k q (nI m) r i j t = sι ι o c9 m k q r i j t := fun r i j t hr => by
    rw [hfo.iu hr]
    unfold z0
    exact up4_ne (by have := hr.n5; omega)
  have B : ∀ r t, 40 ≤ r → ¬ (r = 42 ∧ t = o) → ¬ ((r = 43 ∨ r = 44 ∨ r = 45) ∧ t = 8 * o + c9) → ¬ (r = 46 ∧ 128 * (8 * o + c9) ≤ t ∧ t < 128 * (8 * o + c9) + 128) → mAddSec (z0 (sι ι o c9 m k q)) o k q (nI m) r 0 0 t = ι r 0 0 t := fun r t hr g1 g2 g3 => by
    unfold mAddSec
    rw [em, up4_ne (by omega), fil_ne (by omega), up4_ne (by omega), up4_ne (by omega), up4_ne (by omega), eA r t hr]
  have e2 : mAddSec (z0 (sι ι o c9 m k q)) o k q (nI m) 42 0 0 o = nI (c9 + 1) := by
    unfold mAddSec
    rw [up4_s, eA 42 o (by omega), e42]
    exact nI_1 c9
  have e42' : mn (mAddSec (z0 (sι ι o c9 m k q)) o k q (nI m)) 42 o = c9 + 1 := by
    unfold mn
    rw [e2, nI_clamp (by omega)]
  have e47' : mn (mAddSec (z0 (sι ι o c9 m k q)) o k q (nI m)) 47 o = mn ι 47 o := mn_c (B 47 o (by omega) (by omega) (by omega) (by omega))
  have e52' : mn (mAddSec (z0 (sι ι o c9 m k q)) o k q (nI m)) 52 o = mn ι 52 o := mn_c (B 52 o (by omega) (by omega) (by omega) (by omega))
  have l47 := hb.b47.le (t := o) (by omega)
  have l52 := hb.b52.le (t := o) (by omega)
  refine IV_unit (o := o) h ⟨sν.f, Fi.fo (sι.f.up (by omega)) hfo, sρ.f⟩ (Nat.le_refl _) ho (fun _ h _ => h) h12 ?_ ?_ ?_ ?_ ?_ ?_ ?_ ?_
  · rw [hfo 9 0 0 1 (by unfold inO; omega)]; exact h.iu.1
  · rw [hfo 10 0 0 1 (by unfold inO; omega)]; exact h.iu.2.1
  · exact h.ob ho
  · exact BD.sec (show BD (z0 (sι ι o c9 m k q)) from hb) (by omega) (by rw [em]; exact hc) hv
  · unfold UM
    rw [e42', e47', e52']
    exact (UI.sec (k := k) (q := q) (show UI ν ι ρ o c9 _ _ from by rw [← ec]; exact hU) hc hm).cg (fun _ _ _ => rfl) (fun r j t hr => eU r o j t hr) (fun _ _ _ _ => rfl)
  · refine ⟨fun s hs => ?_, fun i hi => ?_, fun j hj => ?_⟩
    · rw [e42'] at hs
      by_cases hq : s = c9
      · subst hq
        have v43 : mAddSec (z0 (sι ι o s m k q)) o k q (nI m) 43 0 0 (8 * o + s) = k := by
          unfold mAddSec; rw [em, up4_ne (by omega), fil_ne (by omega), up4_ne (by omega), up4_ne (by omega), up4_s]
        have v44 : mAddSec (z0 (sι ι o s m k q)) o k q (nI m) 44 0 0 (8 * o + s) = q := by
          unfold mAddSec; rw [em, up4_ne (by omega), fil_ne (by omega), up4_ne (by omega), up4_s]
        have v45 : mAddSec (z0 (sι ι o s m k q)) o k q (nI m) 45 0 0 (8 * o + s) = nI m := by
          unfold mAddSec; rw [em, up4_ne (by omega), fil_ne (by omega), up4_s]
        unfold CVs
        rw [v43, v44, v45, eU _ _ _ _ u7, eU _ _ _ _ u7, eU _ _ _ _ u7]
        refine ⟨?_, ?_, ?_, fun _ t ht => ?_⟩
        · simp (disch := omega) only [sν, sι, sρ, z0, up3_s, up4_s, upA_s, up3_ne, up4_ne, upA_ne]
        · simp (disch := omega) only [sν, sι, sρ, z0, up3_s, up4_s, upA_s, up3_ne, up4_ne, upA_ne]
        · simp (disch := omega) only [sν, sι, sρ, z0, up3_s, up4_s, upA_s, up3_ne, up4_ne, upA_ne]
        · unfold mn at ht
          rw [v45, nI_clamp (by omega)] at ht
          rw [eU _ _ _ _ u24]
          simp (disch := omega) only [sν, sι, sρ, z0, up3_s, up4_s, upA_s, up3_ne, up4_ne, upA_ne]
          unfold mAddSec
          rw [em, up4_ne (by omega), fil_in (by omega)]
      · obtain ⟨a1, a2, a3, a4⟩ := hC.1 s (by omega)
        have hi : ∀ t, sι ι o c9 m k q 7 o s t = ι 7 o s t := fun t => by
          unfold sι
          rw [up4_ne (by omega), upA_ne (by omega), up4_ne (by omega), up4_ne (by omega), up4_ne (by omega), upA_ne (by omega)]
        have l45 := hb.b45.le (t := 8 * o + s) (by omega)
        unfold CVs
        rw [eU _ _ _ _ u7, eU _ _ _ _ u7, eU _ _ _ _ u7, hi, hi, hi, B 43 _ (by omega) (by omega) (by omega) (by omega), B 44 _ (by omega) (by omega) (by omega) (by omega), B 45 _ (by omega) (by omega) (by omega) (by omega), mn_c (B 45 (8 * o + s) (by omega) (by omega) (by omega) (by omega))]
        refine ⟨a1, a2, a3, fun g t ht => ?_⟩
        rw [eU _ _ _ _ u24, B 46 _ (by omega) (by omega) (by omega) (by omega)]
        simp (disch := omega) only [sν, sι, sρ, z0, up3_s, up4_s, upA_s, up3_ne, up4_ne, upA_ne]
        exact a4 g t ht
    · rw [e47'] at hi
      have a := hC.2.1 i hi
      have hj : ∀ t, sι ι o c9 m k q 2 o i t = ι 2 o i t := fun t => by
        unfold sι
        rw [up4_ne (by omega), upA_ne (by omega), up4_ne (by omega), up4_ne (by omega), up4_ne (by omega), upA_ne (by omega)]
      unfold CVn
      rw [eU _ _ _ _ u2, eU _ _ _ _ u2, eU _ _ _ _ u2, eU _ _ _ _ u2, hj, hj, hj, hj, B 48 _ (by omega) (by omega) (by omega) (by omega), B 49 _ (by omega) (by omega) (by omega) (by omega), B 50 _ (by omega) (by omega) (by omega) (by omega), B 51 _ (by omega) (by omega) (by omega) (by omega)]
      exact a
    · rw [e52'] at hj
      have a := hC.2.2 j hj
      have hi : ∀ t, sι ι o c9 m k q 6 o j t = ι 6 o j t := fun t => by
        unfold sι
        rw [up4_ne (by omega), upA_ne (by omega), up4_ne (by omega), up4_ne (by omega), up4_ne (by omega), upA_ne (by omega)]
      unfold CVr
      rw [eU _ _ _ _ u6, eU _ _ _ _ u6, eU _ _ _ _ u6, eU _ _ _ _ u6, eU _ _ _ _ u6, hi, hi, hi, hi, hi, B 53 _ (by omega) (by omega) (by omega) (by omega), B 54 _ (by omega) (by omega) (by omega) (by omega), B 55 _ (by omega) (by omega) (by omega) (by omega), B 56 _ (by omega) (by omega) (by omega) (by omega), B 57 _ (by omega) (by omega) (by omega) (by omega)]
      exact a
  · refine ⟨fun i hi h2 h3 => ?_, fun j hj => ?_⟩
    · rw [e47'] at hi
      rw [B 49 _ (by omega) (by omega) (by omega) (by omega)] at h2 h3
      rw [e42', mn_c (B 50 _ (by omega) (by omega) (by omega) (by omega))]
      have := hD.1 i hi h2 h3
      omega
    · rw [e52'] at hj
      rw [e42', e47', mn_c (B 53 _ (by omega) (by omega) (by omega) (by omega)), mn_c (B 56 _ (by omega) (by omega) (by omega) (by omega))]
      have := hD.2 j hj
      omega
  · exact h.ir
theorem nm_lt {ι : Io} {t : Nat} {n k s q : Int32} (h : BD ι) (ht : t < 13) (hv : isNm (z0 ι) t n k s q) (h2 : k ≠ 2) (h3 : k ≠ 3) : s.toNatClampNeg < mn ι 42 t := by
  rcases hv.2.2 with g | g | g
  · exact absurd g.1 h3
  · exact absurd g.1 h2
  · have g1 : 0 ≤ s ∧ s ≤ ι 42 0 0 t - 1 := g.2.2.1
    have l := h.b42.le (t := t) ht
    rw [h.b42.eq (t := t) ht] at g1
    obtain ⟨j, hj, rfl⟩ := rng_of (by omega) g1
    rw [nI_clamp (by omega)]
    exact hj
theorem rf_lt {ι : Io} {t : Nat} {s q w n : Int32} (h : BD ι) (ht : t < 13) (hv : isRf (z0 ι) t s q w n) : s.toNatClampNeg < mn ι 42 t ∧ n.toNatClampNeg < mn ι 47 t := by
  have g1 : 0 ≤ s ∧ s ≤ ι 42 0 0 t - 1 := hv.1
  have g2 : 0 ≤ n ∧ n ≤ ι 47 0 0 t - 1 := hv.2.2.2.2
  have l := h.b42.le (t := t) ht
  have l2 := h.b47.le (t := t) ht
  rw [h.b42.eq (t := t) ht] at g1
  rw [h.b47.eq (t := t) ht] at g2
  obtain ⟨j, hj, rfl⟩ := rng_of (by omega) g1
  obtain ⟨i, hi, rfl⟩ := rng_of (by omega) g2
  rw [nI_clamp (by omega), nI_clamp (by omega)]
  exact ⟨hj, hi⟩
abbrev nν (ν : Nu) (o c : Nat) : Nu := up3 ν 2 o c (some 4)
abbrev nι (ι : Io) (o c : Nat) (a b d e : Int32) : Io := up4 (up4 (up4 (up4 (up4 (upA ι 2 o c (fun _ => 0)) 2 o c 0 a) 2 o c 1 b) 2 o c 2 d) 2 o c 3 e) 8 o 0 3 (nI (c + 1))
abbrev nρ (ρ : Ro) (o c : Nat) : Ro := up4 (upA ρ 2 o c (fun _ => none)) 22 o 0 c (some (2, o, c))
theorem nν.f {ν : Nu} {o c : Nat} : F3 o ν (nν ν o c) := F3.rf.up u2.k
theorem nι.f {ι : Io} {o c : Nat} {a b d e : Int32} : Fi o ι (nι ι o c a b d e) := ((((((Fi.rf.upA u2.k)).up u2.q).up u2.q).up u2.q).up u2.q).up u8.q
theorem nρ.f {ρ : Ro} {o c : Nat} : Fr o ρ (nρ ρ o c) := (Fr.rf.upA u2.k).up u22.q
theorem UI.nam {ν : Nu} {ι : Io} {ρ : Ro} {o s9 c r : Nat} {a b d e : Int32} (h : UI ν ι ρ o s9 c r) (hc : c < 12) : UI (nν ν o c) (nι ι o c a b d e) (nρ ρ o c) o s9 (c + 1) r := by
  obtain ⟨hU, h1, h2, h3, h4, h5, h6, h7, h8, h9⟩ := h
  refine ⟨hU, ⟨?_, h1.2⟩, ⟨up4_s, hc⟩, ⟨?_, h3.2⟩, fun s hs => ?_, fun s hs => ?_, h6, h7, fun s hs => ?_, h9⟩
  · simp (disch := omega) only [z0, up3_s, up4_s, upA_s, up3_ne, up4_ne, upA_ne, nν, nι, nρ]; exact h1.1
  · simp (disch := omega) only [z0, up3_s, up4_s, upA_s, up3_ne, up4_ne, upA_ne, nν, nι, nρ]; exact h3.1
  · obtain ⟨a1, a2, a3, a, a4, a5, a6⟩ := h4 s hs
    refine ⟨?_, ?_, ?_, a, a4, ?_, ?_⟩
    · simp (disch := omega) only [z0, up3_s, up4_s, upA_s, up3_ne, up4_ne, upA_ne, nν, nι, nρ]; exact a1
    · simp (disch := omega) only [z0, up3_s, up4_s, upA_s, up3_ne, up4_ne, upA_ne, nν, nι, nρ]; exact a2
    · simp (disch := omega) only [z0, up3_s, up4_s, upA_s, up3_ne, up4_ne, upA_ne, nν, nι, nρ]; exact a3
    · simp (disch := omega) only [z0, up3_s, up4_s, upA_s, up3_ne, up4_ne, upA_ne, nν, nι, nρ]; exact a5
    · simp (disch := omega) only [z0, up3_s, up4_s, upA_s, up3_ne, up4_ne, upA_ne, nν, nι, nρ]; exact a6
  · by_cases hq : s = c
    · subst hq
      exact ⟨up3_s, up4_s⟩
    · obtain ⟨a1, a2⟩ := h5 s (by omega)
      refine ⟨?_, ?_⟩
      · simp (disch := omega) only [z0, up3_s, up4_s, upA_s, up3_ne, up4_ne, upA_ne, nν, nι, nρ]; exact a1
      · simp (disch := omega) only [z0, up3_s, up4_s, upA_s, up3_ne, up4_ne, upA_ne, nν, nι, nρ]; exact a2
  · have := h8 s (by omega)
    simp (disch := omega) only [z0, up3_s, up4_s, upA_s, up3_ne, up4_ne, upA_ne, nν, nι, nρ]; exact this
theorem IV.nam {ν : Nu} {ι : Io} {ρ : Ro} {N c w n z kn g o : Nat} {a b d e : Int32} (h : IV ν ι ρ N c w n z kn g) (ho : o < N) (hc : mn ι 47 o < 12) (hv : isNm (z0 ι) o a b d e) : IV (nν ν o (mn ι 47 o)) (mAddName (z0 (nι ι o (mn ι 47 o) a b d e)) o a b d e) (nρ ρ o (mn ι 47 o)) N c w n z kn g := by
  have h12 := h.N12
  have hU := h.um ho
  have hC := h.cv ho
  have hD := h.dd ho
  have hb := h.bd
  generalize ec : mn ι 47 o = c9 at *
  have ecc : ι 47 0 0 o = nI c9 := by rw [← ec]; exact hb.b47.eq (by omega)
  have eA : ∀ r t, 40 ≤ r → z0 (nι ι o c9 a b d e) r 0 0 t = ι r 0 0 t := fun r t hr => by
    simp (disch := omega) only [z0, up3_s, up4_s, upA_s, up3_ne, up4_ne, upA_ne, nν, nι, nρ]
  have em : mn (z0 (nι ι o c9 a b d e)) 47 o = c9 := by unfold mn; rw [eA 47 o (by omega)]; exact ec
  have hfo : FO o (z0 (nι ι o c9 a b d e)) (mAddName (z0 (nι ι o c9 a b d e)) o a b d e) := FO.nam FO.rf (by rw [em]; exact hc)
  have eU : ∀ r i j t, isU r → (mAddName (z0 (nι ι o c9 a b d e)) o a b d e) r i j t = (nι ι o c9 a b d e) r i j t := fun r i j t hr => by
    rw [hfo.iu hr]
    unfold z0
    exact up4_ne (by have := hr.n5; omega)
  have B : ∀ r t, 40 ≤ r → ¬ (r = 47 ∧ t = o) → ¬ ((r = 48 ∨ r = 49 ∨ r = 50 ∨ r = 51) ∧ t = 12 * o + c9) → (mAddName (z0 (nι ι o c9 a b d e)) o a b d e) r 0 0 t = ι r 0 0 t := fun r t hr g1 g2 => by
    unfold mAddName
    rw [em, up4_ne (by omega), up4_ne (by omega), up4_ne (by omega), up4_ne (by omega), up4_ne (by omega), eA r t hr]
  have e2 : (mAddName (z0 (nι ι o c9 a b d e)) o a b d e) 47 0 0 o = nI (c9 + 1) := by
    unfold mAddName
    rw [up4_s, eA 47 o (by omega), ecc]
    exact nI_1 c9
  have e42 : mn (mAddName (z0 (nι ι o c9 a b d e)) o a b d e) 42 o = mn ι 42 o := mn_c (B 42 o (by omega) (by omega) (by omega))
  have e47 : mn (mAddName (z0 (nι ι o c9 a b d e)) o a b d e) 47 o = c9 + 1 := by
    unfold mn
    rw [e2, nI_clamp (by omega)]
  have e52 : mn (mAddName (z0 (nι ι o c9 a b d e)) o a b d e) 52 o = mn ι 52 o := mn_c (B 52 o (by omega) (by omega) (by omega))
  have l42 := hb.b42.le (t := o) (by omega)
  have l47 := hb.b47.le (t := o) (by omega)
  have l52 := hb.b52.le (t := o) (by omega)
  have v48 : (mAddName (z0 (nι ι o c9 a b d e)) o a b d e) 48 0 0 (12 * o + c9) = a := by
    unfold mAddName; rw [em, up4_ne (by omega), up4_ne (by omega), up4_ne (by omega), up4_ne (by omega), up4_s]
  have v49 : (mAddName (z0 (nι ι o c9 a b d e)) o a b d e) 49 0 0 (12 * o + c9) = b := by
    unfold mAddName; rw [em, up4_ne (by omega), up4_ne (by omega), up4_ne (by omega), up4_s]
  have v50 : (mAddName (z0 (nι ι o c9 a b d e)) o a b d e) 50 0 0 (12 * o + c9) = d := by
    unfold mAddName; rw [em, up4_ne (by omega), up4_ne (by omega), up4_s]
  have v51 : (mAddName (z0 (nι ι o c9 a b d e)) o a b d e) 51 0 0 (12 * o + c9) = e := by
    unfold mAddName; rw [em, up4_ne (by omega), up4_s]
  refine IV_unit (o := o) h ⟨nν.f, Fi.fo (nι.f.up (by omega)) hfo, nρ.f⟩ (Nat.le_refl _) ho (fun _ h _ => h) h12 ?_ ?_ ?_ ?_ ?_ ?_ ?_ ?_
  · rw [hfo 9 0 0 1 (by unfold inO; omega)]; exact h.iu.1
  · rw [hfo 10 0 0 1 (by unfold inO; omega)]; exact h.iu.2.1
  · exact h.ob ho
  · exact BD.nam (show BD (z0 (nι ι o c9 a b d e)) from hb) (by omega) (by rw [em]; exact hc) hv
  · unfold UM
    rw [e42, e47, e52]
    exact (UI.nam (show UI ν ι ρ o (mn ι 42 o) c9 (mn ι 52 o) from by rw [← ec]; exact hU) hc).cg (fun _ _ _ => rfl) (fun r j t hr => eU r o j t hr) (fun _ _ _ _ => rfl)
  · refine ⟨fun s hs => ?_, fun i hi => ?_, fun j hj => ?_⟩
    · rw [e42] at hs
      obtain ⟨a1, a2, a3, a4⟩ := hC.1 s hs
      have l45 := hb.b45.le (t := 8 * o + s) (by omega)
      unfold CVs
      rw [eU _ _ _ _ u7, eU _ _ _ _ u7, eU _ _ _ _ u7, B 43 _ (by omega) (by omega) (by omega), B 44 _ (by omega) (by omega) (by omega), B 45 _ (by omega) (by omega) (by omega), mn_c (B 45 (8 * o + s) (by omega) (by omega) (by omega))]
      refine ⟨?_, ?_, ?_, fun g t ht => ?_⟩
      · simp (disch := omega) only [z0, up3_s, up4_s, upA_s, up3_ne, up4_ne, upA_ne, nν, nι, nρ]; exact a1
      · simp (disch := omega) only [z0, up3_s, up4_s, upA_s, up3_ne, up4_ne, upA_ne, nν, nι, nρ]; exact a2
      · simp (disch := omega) only [z0, up3_s, up4_s, upA_s, up3_ne, up4_ne, upA_ne, nν, nι, nρ]; exact a3
      · rw [eU _ _ _ _ u24, B 46 _ (by omega) (by omega) (by omega)]
        simp (disch := omega) only [z0, up3_s, up4_s, upA_s, up3_ne, up4_ne, upA_ne, nν, nι, nρ]; exact a4 g t ht
    · rw [e47] at hi
      by_cases hq : i = c9
      · subst hq
        unfold CVn
        rw [v48, v49, v50, v51, eU _ _ _ _ u2, eU _ _ _ _ u2, eU _ _ _ _ u2, eU _ _ _ _ u2]
        refine ⟨?_, ?_, ?_, ?_⟩ <;> simp (disch := omega) only [z0, up3_s, up4_s, upA_s, up3_ne, up4_ne, upA_ne, nν, nι, nρ]
      · skip
        have a := hC.2.1 i (by omega)
        unfold CVn at a ⊢
        rw [eU _ _ _ _ u2, eU _ _ _ _ u2, eU _ _ _ _ u2, eU _ _ _ _ u2, B 48 _ (by omega) (by omega) (by omega), B 49 _ (by omega) (by omega) (by omega), B 50 _ (by omega) (by omega) (by omega), B 51 _ (by omega) (by omega) (by omega)]
        simp (disch := omega) only [z0, up3_s, up4_s, upA_s, up3_ne, up4_ne, upA_ne, nν, nι, nρ]; exact a
    · rw [e52] at hj
      have a := hC.2.2 j (by omega)
      unfold CVr at a ⊢
      rw [eU _ _ _ _ u6, eU _ _ _ _ u6, eU _ _ _ _ u6, eU _ _ _ _ u6, eU _ _ _ _ u6, B 53 _ (by omega) (by omega) (by omega), B 54 _ (by omega) (by omega) (by omega), B 55 _ (by omega) (by omega) (by omega), B 56 _ (by omega) (by omega) (by omega), B 57 _ (by omega) (by omega) (by omega)]
      simp (disch := omega) only [z0, up3_s, up4_s, upA_s, up3_ne, up4_ne, upA_ne, nν, nι, nρ]; exact a
  · refine ⟨fun i hi h2 h3 => ?_, fun j hj => ?_⟩
    · rw [e47] at hi
      by_cases hq : i = c9
      · subst hq
        rw [v49] at h2 h3
        rw [e42]
        unfold mn
        rw [v50]
        exact nm_lt hb (by omega) hv h2 h3
      · skip
        rw [B 49 _ (by omega) (by omega) (by omega)] at h2 h3
        rw [e42, mn_c (B 50 _ (by omega) (by omega) (by omega))]
        have := hD.1 i (by omega) h2 h3
        omega
    · rw [e52] at hj
      rw [e42, e47, mn_c (B 53 _ (by omega) (by omega) (by omega)), mn_c (B 56 _ (by omega) (by omega) (by omega))]
      have := hD.2 j (by omega)
      omega
  · exact h.ir
abbrev rν (ν : Nu) (o c : Nat) : Nu := up3 ν 6 o c (some 5)
abbrev rι (ι : Io) (o c : Nat) (a b d e f : Int32) : Io := up4 (up4 (up4 (up4 (up4 (up4 (upA ι 6 o c (fun _ => 0)) 6 o c 0 a) 6 o c 1 b) 6 o c 2 d) 6 o c 3 e) 6 o c 4 f) 8 o 0 5 (nI (c + 1))
abbrev rρ (ρ : Ro) (o c : Nat) : Ro := up4 (upA ρ 6 o c (fun _ => none)) 23 o 0 c (some (6, o, c))
theorem rν.f {ν : Nu} {o c : Nat} : F3 o ν (rν ν o c) := F3.rf.up u6.k
theorem rι.f {ι : Io} {o c : Nat} {a b d e f : Int32} : Fi o ι (rι ι o c a b d e f) := (((((((Fi.rf.upA u6.k)).up u6.q).up u6.q).up u6.q).up u6.q).up u6.q).up u8.q
theorem rρ.f {ρ : Ro} {o c : Nat} : Fr o ρ (rρ ρ o c) := (Fr.rf.upA u6.k).up u23.q
theorem UI.ref {ν : Nu} {ι : Io} {ρ : Ro} {o s9 n c : Nat} {a b d e f : Int32} (h : UI ν ι ρ o s9 n c) (hc : c < 16) : UI (rν ν o c) (rι ι o c a b d e f) (rρ ρ o c) o s9 n (c + 1) := by
  obtain ⟨hU, h1, h2, h3, h4, h5, h6, h7, h8, h9⟩ := h
  refine ⟨hU, ⟨?_, h1.2⟩, ⟨?_, h2.2⟩, ⟨up4_s, hc⟩, fun s hs => ?_, h5, fun s hs => ?_, h7, h8, fun s hs => ?_⟩
  · simp (disch := omega) only [z0, up3_s, up4_s, upA_s, up3_ne, up4_ne, upA_ne, rν, rι, rρ]; exact h1.1
  · simp (disch := omega) only [z0, up3_s, up4_s, upA_s, up3_ne, up4_ne, upA_ne, rν, rι, rρ]; exact h2.1
  · obtain ⟨a1, a2, a3, a, a4, a5, a6⟩ := h4 s hs
    refine ⟨?_, ?_, ?_, a, a4, ?_, ?_⟩
    · simp (disch := omega) only [z0, up3_s, up4_s, upA_s, up3_ne, up4_ne, upA_ne, rν, rι, rρ]; exact a1
    · simp (disch := omega) only [z0, up3_s, up4_s, upA_s, up3_ne, up4_ne, upA_ne, rν, rι, rρ]; exact a2
    · simp (disch := omega) only [z0, up3_s, up4_s, upA_s, up3_ne, up4_ne, upA_ne, rν, rι, rρ]; exact a3
    · simp (disch := omega) only [z0, up3_s, up4_s, upA_s, up3_ne, up4_ne, upA_ne, rν, rι, rρ]; exact a5
    · simp (disch := omega) only [z0, up3_s, up4_s, upA_s, up3_ne, up4_ne, upA_ne, rν, rι, rρ]; exact a6
  · by_cases hq : s = c
    · subst hq
      exact ⟨up3_s, up4_s⟩
    · obtain ⟨a1, a2⟩ := h6 s (by omega)
      refine ⟨?_, ?_⟩
      · simp (disch := omega) only [z0, up3_s, up4_s, upA_s, up3_ne, up4_ne, upA_ne, rν, rι, rρ]; exact a1
      · simp (disch := omega) only [z0, up3_s, up4_s, upA_s, up3_ne, up4_ne, upA_ne, rν, rι, rρ]; exact a2
  · have := h9 s (by omega)
    simp (disch := omega) only [z0, up3_s, up4_s, upA_s, up3_ne, up4_ne, upA_ne, rν, rι, rρ]; exact this
theorem IV.ref {ν : Nu} {ι : Io} {ρ : Ro} {N c w n z kn g o : Nat} {a b d e f : Int32} (h : IV ν ι ρ N c w n z kn g) (ho : o < N) (hc : mn ι 52 o < 16) (hv : isRf (z0 ι) o a b d e) : IV (rν ν o (mn ι 52 o)) (mAddRef (z0 (rι ι o (mn ι 52 o) a b d e f)) o a b d e f) (rρ ρ o (mn ι 52 o)) N c w n z kn g := by
  have h12 := h.N12
  have hU := h.um ho
  have hC := h.cv ho
  have hD := h.dd ho
  have hb := h.bd
  generalize ec : mn ι 52 o = c9 at *
  have ecc : ι 52 0 0 o = nI c9 := by rw [← ec]; exact hb.b52.eq (by omega)
  have eA : ∀ r t, 40 ≤ r → z0 (rι ι o c9 a b d e f) r 0 0 t = ι r 0 0 t := fun r t hr => by
    simp (disch := omega) only [z0, up3_s, up4_s, upA_s, up3_ne, up4_ne, upA_ne, rν, rι, rρ]
  have em : mn (z0 (rι ι o c9 a b d e f)) 52 o = c9 := by unfold mn; rw [eA 52 o (by omega)]; exact ec
  have hfo : FO o (z0 (rι ι o c9 a b d e f)) (mAddRef (z0 (rι ι o c9 a b d e f)) o a b d e f) := FO.ref FO.rf (by rw [em]; exact hc)
  have eU : ∀ r i j t, isU r → (mAddRef (z0 (rι ι o c9 a b d e f)) o a b d e f) r i j t = (rι ι o c9 a b d e f) r i j t := fun r i j t hr => by
    rw [hfo.iu hr]
    unfold z0
    exact up4_ne (by have := hr.n5; omega)
  have B : ∀ r t, 40 ≤ r → ¬ (r = 52 ∧ t = o) → ¬ ((r = 53 ∨ r = 54 ∨ r = 55 ∨ r = 56 ∨ r = 57) ∧ t = 16 * o + c9) → (mAddRef (z0 (rι ι o c9 a b d e f)) o a b d e f) r 0 0 t = ι r 0 0 t := fun r t hr g1 g2 => by
    unfold mAddRef
    rw [em, up4_ne (by omega), up4_ne (by omega), up4_ne (by omega), up4_ne (by omega), up4_ne (by omega), up4_ne (by omega), eA r t hr]
  have e2 : (mAddRef (z0 (rι ι o c9 a b d e f)) o a b d e f) 52 0 0 o = nI (c9 + 1) := by
    unfold mAddRef
    rw [up4_s, eA 52 o (by omega), ecc]
    exact nI_1 c9
  have e42 : mn (mAddRef (z0 (rι ι o c9 a b d e f)) o a b d e f) 42 o = mn ι 42 o := mn_c (B 42 o (by omega) (by omega) (by omega))
  have e47 : mn (mAddRef (z0 (rι ι o c9 a b d e f)) o a b d e f) 47 o = mn ι 47 o := mn_c (B 47 o (by omega) (by omega) (by omega))
  have e52 : mn (mAddRef (z0 (rι ι o c9 a b d e f)) o a b d e f) 52 o = c9 + 1 := by
    unfold mn
    rw [e2, nI_clamp (by omega)]
  have l42 := hb.b42.le (t := o) (by omega)
  have l47 := hb.b47.le (t := o) (by omega)
  have l52 := hb.b52.le (t := o) (by omega)
  have v53 : (mAddRef (z0 (rι ι o c9 a b d e f)) o a b d e f) 53 0 0 (16 * o + c9) = a := by
    unfold mAddRef; rw [em, up4_ne (by omega), up4_ne (by omega), up4_ne (by omega), up4_ne (by omega), up4_ne (by omega), up4_s]
  have v54 : (mAddRef (z0 (rι ι o c9 a b d e f)) o a b d e f) 54 0 0 (16 * o + c9) = b := by
    unfold mAddRef; rw [em, up4_ne (by omega), up4_ne (by omega), up4_ne (by omega), up4_ne (by omega), up4_s]
  have v55 : (mAddRef (z0 (rι ι o c9 a b d e f)) o a b d e f) 55 0 0 (16 * o + c9) = d := by
    unfold mAddRef; rw [em, up4_ne (by omega), up4_ne (by omega), up4_ne (by omega), up4_s]
  have v56 : (mAddRef (z0 (rι ι o c9 a b d e f)) o a b d e f) 56 0 0 (16 * o + c9) = e := by
    unfold mAddRef; rw [em, up4_ne (by omega), up4_ne (by omega), up4_s]
  have v57 : (mAddRef (z0 (rι ι o c9 a b d e f)) o a b d e f) 57 0 0 (16 * o + c9) = f := by
    unfold mAddRef; rw [em, up4_ne (by omega), up4_s]
  refine IV_unit (o := o) h ⟨rν.f, Fi.fo (rι.f.up (by omega)) hfo, rρ.f⟩ (Nat.le_refl _) ho (fun _ h _ => h) h12 ?_ ?_ ?_ ?_ ?_ ?_ ?_ ?_
  · rw [hfo 9 0 0 1 (by unfold inO; omega)]; exact h.iu.1
  · rw [hfo 10 0 0 1 (by unfold inO; omega)]; exact h.iu.2.1
  · exact h.ob ho
  · exact BD.ref (show BD (z0 (rι ι o c9 a b d e f)) from hb) (by omega) (by rw [em]; exact hc) hv
  · unfold UM
    rw [e42, e47, e52]
    exact (UI.ref (show UI ν ι ρ o (mn ι 42 o) (mn ι 47 o) c9 from by rw [← ec]; exact hU) hc).cg (fun _ _ _ => rfl) (fun r j t hr => eU r o j t hr) (fun _ _ _ _ => rfl)
  · refine ⟨fun s hs => ?_, fun i hi => ?_, fun j hj => ?_⟩
    · rw [e42] at hs
      obtain ⟨a1, a2, a3, a4⟩ := hC.1 s hs
      have l45 := hb.b45.le (t := 8 * o + s) (by omega)
      unfold CVs
      rw [eU _ _ _ _ u7, eU _ _ _ _ u7, eU _ _ _ _ u7, B 43 _ (by omega) (by omega) (by omega), B 44 _ (by omega) (by omega) (by omega), B 45 _ (by omega) (by omega) (by omega), mn_c (B 45 (8 * o + s) (by omega) (by omega) (by omega))]
      refine ⟨?_, ?_, ?_, fun g t ht => ?_⟩
      · simp (disch := omega) only [z0, up3_s, up4_s, upA_s, up3_ne, up4_ne, upA_ne, rν, rι, rρ]; exact a1
      · simp (disch := omega) only [z0, up3_s, up4_s, upA_s, up3_ne, up4_ne, upA_ne, rν, rι, rρ]; exact a2
      · simp (disch := omega) only [z0, up3_s, up4_s, upA_s, up3_ne, up4_ne, upA_ne, rν, rι, rρ]; exact a3
      · rw [eU _ _ _ _ u24, B 46 _ (by omega) (by omega) (by omega)]
        simp (disch := omega) only [z0, up3_s, up4_s, upA_s, up3_ne, up4_ne, upA_ne, rν, rι, rρ]; exact a4 g t ht
    · rw [e47] at hi
      have a := hC.2.1 i (by omega)
      unfold CVn at a ⊢
      rw [eU _ _ _ _ u2, eU _ _ _ _ u2, eU _ _ _ _ u2, eU _ _ _ _ u2, B 48 _ (by omega) (by omega) (by omega), B 49 _ (by omega) (by omega) (by omega), B 50 _ (by omega) (by omega) (by omega), B 51 _ (by omega) (by omega) (by omega)]
      simp (disch := omega) only [z0, up3_s, up4_s, upA_s, up3_ne, up4_ne, upA_ne, rν, rι, rρ]; exact a
    · rw [e52] at hj
      by_cases hq : j = c9
      · subst hq
        unfold CVr
        rw [v53, v54, v55, v56, v57, eU _ _ _ _ u6, eU _ _ _ _ u6, eU _ _ _ _ u6, eU _ _ _ _ u6, eU _ _ _ _ u6]
        refine ⟨?_, ?_, ?_, ?_, ?_⟩ <;> simp (disch := omega) only [z0, up3_s, up4_s, upA_s, up3_ne, up4_ne, upA_ne, rν, rι, rρ]
      · skip
        have a := hC.2.2 j (by omega)
        unfold CVr at a ⊢
        rw [eU _ _ _ _ u6, eU _ _ _ _ u6, eU _ _ _ _ u6, eU _ _ _ _ u6, eU _ _ _ _ u6, B 53 _ (by omega) (by omega) (by omega), B 54 _ (by omega) (by omega) (by omega), B 55 _ (by omega) (by omega) (by omega), B 56 _ (by omega) (by omega) (by omega), B 57 _ (by omega) (by omega) (by omega)]
        simp (disch := omega) only [z0, up3_s, up4_s, upA_s, up3_ne, up4_ne, upA_ne, rν, rι, rρ]; exact a
  · refine ⟨fun i hi h2 h3 => ?_, fun j hj => ?_⟩
    · rw [e47] at hi
      rw [B 49 _ (by omega) (by omega) (by omega)] at h2 h3
      rw [e42, mn_c (B 50 _ (by omega) (by omega) (by omega))]
      have := hD.1 i (by omega) h2 h3
      omega
    · rw [e52] at hj
      by_cases hq : j = c9
      · subst hq
        rw [e42, e47]
        unfold mn
        rw [v53, v56]
        exact rf_lt hb (by omega) hv
      · skip
        rw [e42, e47, mn_c (B 53 _ (by omega) (by omega) (by omega)), mn_c (B 56 _ (by omega) (by omega) (by omega))]
        have := hD.2 j (by omega)
        omega
  · exact h.ir
theorem pig : ∀ (N c : Nat) (f : Nat → Nat), (∀ k, k < c → f k < N) → (∀ k k', k < c → k' < c → f k = f k' → k = k') → c ≤ N := by
  intro N
  induction N with
  | zero =>
    intro c f h1 _
    rcases Nat.eq_zero_or_pos c with h | h
    · omega
    · exact absurd (h1 0 h) (by omega)
  | succ N ih =>
    intro c f h1 h2
    by_cases hk : ∃ k, k < c ∧ f k = N
    · obtain ⟨k0, hk0, e⟩ := hk
      have := ih (c - 1) (fun k => if k < k0 then f k else f (k + 1)) (fun k hk => by
        split
        · rename_i hl
          have a := h1 k (by omega)
          have b : f k ≠ N := fun z => by have := h2 k k0 (by omega) hk0 (z.trans e.symm); omega
          omega
        · rename_i hl
          have a := h1 (k + 1) (by omega)
          have b : f (k + 1) ≠ N := fun z => by have := h2 (k + 1) k0 (by omega) hk0 (z.trans e.symm); omega
          omega) (fun k k' hk hk' he => by
        split at he <;> split at he
        · exact h2 k k' (by omega) (by omega) he
        · have := h2 k (k' + 1) (by omega) (by omega) he; omega
        · have := h2 (k + 1) k' (by omega) (by omega) he; omega
        · have := h2 (k + 1) (k' + 1) (by omega) (by omega) he; omega)
      omega
    · have := ih c f (fun k hk' => by
        have a := h1 k hk'
        have b : f k ≠ N := fun z => hk ⟨k, hk', z⟩
        omega) h2
      omega
theorem filG_ne {ι : Io} {r i0 j0 a n r' i j k : Nat} {g : Nat → Int32} (h : ¬ (r' = r ∧ i = i0 ∧ j = j0 ∧ a ≤ k ∧ k < a + n)) : filG ι r i0 j0 a n g r' i j k = ι r' i j k := if_neg h
theorem filG_in {ι : Io} {r i0 j0 a n k : Nat} {g : Nat → Int32} (h : a ≤ k ∧ k < a + n) : filG ι r i0 j0 a n g r i0 j0 k = g (k - a) := if_pos ⟨rfl, rfl, rfl, h.1, h.2⟩
theorem filF_ne {ι : Io} {r a n r' i j k : Nat} {g : Nat → Int32} (h : ¬ (r' = r ∧ i = 0 ∧ j = 0 ∧ a ≤ k ∧ k < a + n)) : filF ι r a n g r' i j k = ι r' i j k := if_neg h
theorem filF_in {ι : Io} {r a n k : Nat} {g : Nat → Int32} (h : a ≤ k ∧ k < a + n) : filF ι r a n g r 0 0 k = g (k - a) := if_pos ⟨rfl, rfl, rfl, h.1, h.2⟩
theorem sh_lo {x : BitVec 32} {n : Nat} (hn : n ≤ 24) : (x >>> n) &&& 255#32 = (x.sshiftRight n) &&& 255#32 := by
  apply BitVec.eq_of_getLsbD_eq
  intro i hi
  rw [BitVec.getLsbD_and, BitVec.getLsbD_and]
  by_cases h8 : i < 8
  · rw [BitVec.getLsbD_ushiftRight, BitVec.getLsbD_sshiftRight]
    have h1 : n + i < 32 := by omega
    have h2 : ¬ 32 ≤ i := by omega
    simp [h1, hi, h2]
  · have : (255#32).getLsbD i = false := by
      have h2 : (255#32).toNat < 2 ^ i := Nat.lt_of_lt_of_le (by decide : (255#32).toNat < 2 ^ 8) (Nat.pow_le_pow_right (by decide) (by omega))
      exact Nat.testBit_lt_two_pow h2
    rw [this, Bool.and_false, Bool.and_false]
theorem bu_by {v : Int32} {i : Nat} (hi : i < 4) : bu8 v i = by8 v i := by
  have key : ∀ (n : Nat) (e : Int32), n ≤ 24 → (e.toUInt32 &&& Int32.toUInt32 31).toBitVec.toNat % 32 = n → ((e &&& 31).toBitVec.smod 32).toNat = n → (v.toUInt32 >>> (e.toUInt32 &&& Int32.toUInt32 31)).toInt32 &&& 255 = (v >>> (e &&& 31)) &&& 255 := by
    intro n e hn h1 h2
    apply Int32.toBitVec_inj.mp
    rw [Int32.toBitVec_and, Int32.toBitVec_and, Int32.toBitVec_shiftRight, UInt32.toBitVec_toInt32, UInt32.toBitVec_shiftRight]
    have e1 : v.toUInt32.toBitVec >>> ((e.toUInt32 &&& Int32.toUInt32 31).toBitVec % 32) = v.toBitVec >>> n := by
      rw [BitVec.ushiftRight_eq']
      have : ((e.toUInt32 &&& Int32.toUInt32 31).toBitVec % 32).toNat = n := by rw [BitVec.toNat_umod]; exact h1
      rw [this]
      rfl
    have e2 : v.toBitVec.sshiftRight' ((e &&& 31).toBitVec.smod 32) = v.toBitVec.sshiftRight n := by
      unfold BitVec.sshiftRight'
      rw [h2]
    rw [e2]
    exact (congrArg (fun z => z &&& 255#32) e1).trans (sh_lo hn)
  unfold bu8 by8
  rcases (show i = 0 ∨ i = 1 ∨ i = 2 ∨ i = 3 by omega) with rfl | rfl | rfl | rfl
  · exact key 24 _ (by decide) (by decide) (by decide)
  · exact key 16 _ (by decide) (by decide) (by decide)
  · exact key 8 _ (by decide) (by decide) (by decide)
  · exact key 0 _ (by decide) (by decide) (by decide)
theorem Fi.fG {o j a n : Nat} {ι ι' : Io} {g : Nat → Int32} (h : Fi o ι ι') : Fi o ι (filG ι' 24 o j a n g) := by
  intro r' i' j' k' h1 h2 h3 h4
  rw [filG_ne (fun z => h1 ⟨by rw [z.1]; exact u24, z.2.1⟩)]
  exact h r' i' j' k' h1 h2 h3 h4
theorem FOfilF {o r a n : Nat} {ι ι1 : Io} {g : Nat → Int32} (h : FO o ι ι1) (hi : ∀ k, a ≤ k → k < a + n → inO o r k) : FO o ι (filF ι1 r a n g) := by
  intro r' i j k' hn
  rw [filF_ne (fun z => hn ⟨z.2.1, z.2.2.1, by rw [z.1]; exact hi k' z.2.2.2.1 z.2.2.2.2⟩)]
  exact h r' i j k' hn
theorem bd_filF {ι : Io} {r N M r' a n : Nat} {g : Nat → Int32} (h : bd ι r N M) (hx : r ≠ r') : bd (filF ι r' a n g) r N M := by
  intro k hk
  rw [filF_ne (fun z => hx z.1)]
  exact h k hk
theorem BD.fF {ι : Io} {a n : Nat} {g : Nat → Int32} (h : BD ι) : BD (filF ι 46 a n g) := ⟨bd_filF h.b42 (by decide), bd_filF h.b47 (by decide), bd_filF h.b52 (by decide), bd_filF h.b43 (by decide), bd_filF h.b44 (by decide), bd_filF h.b45 (by decide), bd_filF h.b49 (by decide), bd_filF h.b50 (by decide), bd_filF h.b51 (by decide), bd_filF h.b53 (by decide), bd_filF h.b54 (by decide), bd_filF h.b55 (by decide), bd_filF h.b56 (by decide)⟩
theorem IV.byt {ν : Nu} {ι : Io} {ρ : Ro} {N c w n z kn g o s a m : Nat} {v : Int32} (h : IV ν ι ρ N c w n z kn g) (ho : o < N) (hs : s < mn ι 42 o) (hm : m ≤ 4) (ha : a + m ≤ 128) : IV ν (filF (z0 (filG ι 24 o s a m (bu8 v))) 46 (128 * (8 * o + s) + a) m (by8 v)) ρ N c w n z kn g := by
  have h12 := h.N12
  have hU := h.um ho
  have hC := h.cv ho
  have hD := h.dd ho
  have hb := h.bd
  have l42 := hb.b42.le (t := o) (by omega)
  refine IV_unit (o := o) h ⟨F3.rf, Fi.fo ((Fi.fG Fi.rf).up (by omega)) (FOfilF FO.rf (fun k h1 h2 => by unfold inO; omega)), Fr.rf⟩ (Nat.le_refl _) ho (fun _ h _ => h) h12 h.iu.1 h.iu.2.1 (h.ob ho) (BD.fF hb) hU ⟨fun s' hs' => ?_, hC.2.1, hC.2.2⟩ hD h.ir
  have hs9 : s' < mn ι 42 o := hs'
  obtain ⟨a1, a2, a3, a4⟩ := hC.1 s' hs9
  refine ⟨a1, a2, a3, fun h3 k hk => ?_⟩
  have hk9 : k < mn ι 45 (8 * o + s') := hk
  have l45 := hb.b45.le (t := 8 * o + s') (by omega)
  rw [filF_ne (by omega)]
  unfold z0
  rw [up4_ne (by omega)]
  by_cases hq : s' = s ∧ a ≤ k ∧ k < a + m
  · obtain ⟨rfl, q1, q2⟩ := hq
    rw [filG_in ⟨q1, q2⟩, filF_in (by omega), show 128 * (8 * o + s') + k - (128 * (8 * o + s') + a) = k - a by omega]
    exact bu_by (by omega)
  · rw [filG_ne (by omega), filF_ne (by omega), up4_ne (by omega), filG_ne (by omega)]
    exact a4 h3 k hk9
theorem IV.ch12 {ν : Nu} {ι : Io} {ρ : Ro} {N c w n z kn g o : Nat} (h : IV ν ι ρ N c w n z kn g) (ho : o < N) (hno : ∀ k, k < c → ¬ ι 59 0 0 k = nI o) : c < N := by
  have h12 := h.N12
  have hc := h.ic.2.2.1
  refine pig N (c + 1) (fun k => if k < c then mn ι 59 k else o) (fun k hk => ?_) (fun k k' hk hk' he => ?_)
  · split
    · exact (h.ic.2.2.2.1 k (by assumption)).2.1
    · exact ho
  · have key : ∀ k, k < c → mn ι 59 k ≠ o := fun k hk z => hno k hk (by rw [h.bm.2.2.eq (t := k) (by omega), z])
    split at he <;> split at he
    · exact h.ic.2.2.2.2 k k' (by assumption) (by assumption) he
    · exact absurd he (key k (by assumption))
    · exact absurd he.symm (key k' (by assumption))
    · omega
abbrev cι (ι : Io) (o c : Nat) : Io := up4 (up4 ι 27 0 0 c (nI o)) 0 0 0 2 (nI (c + 1))
theorem IV.cho {ν : Nu} {ι : Io} {ρ : Ro} {N c w n z kn g o : Nat} (h : IV ν ι ρ N c w n z kn g) (ho : o < N) (hno : ∀ k, k < c → ¬ ι 59 0 0 k = nI o) : IV ν (up4 (up4 (z0 (cι ι o c)) 59 0 0 c (nI o)) 10 0 0 18 (nI (c + 1))) (up4 ρ 26 0 0 o (some (8, o, 0))) N (c + 1) w n z kn g := by
  have h12 := h.N12
  have hc := h.ch12 ho hno
  have e59 : ∀ k, k ≠ c → (up4 (up4 (z0 (cι ι o c)) 59 0 0 c (nI o)) 10 0 0 18 (nI (c + 1))) 59 0 0 k = ι 59 0 0 k := fun k hk => by simp (disch := omega) only [z0, cι, up4_ne]
  have s59 : (up4 (up4 (z0 (cι ι o c)) 59 0 0 c (nI o)) 10 0 0 18 (nI (c + 1))) 59 0 0 c = nI o := by rw [up4_ne (by omega), up4_s]
  have m59 : ∀ k, k ≠ c → mn (up4 (up4 (z0 (cι ι o c)) 59 0 0 c (nI o)) 10 0 0 18 (nI (c + 1))) 59 k = mn ι 59 k := fun k hk => mn_c (e59 k hk)
  have n59 : mn (up4 (up4 (z0 (cι ι o c)) 59 0 0 c (nI o)) 10 0 0 18 (nI (c + 1))) 59 c = o := by unfold mn; rw [s59, nI_clamp (by omega)]
  have key : ∀ k, k < c → mn ι 59 k ≠ o := fun k hk z => hno k hk (by rw [h.bm.2.2.eq (t := k) (by omega), z])
  refine ⟨h.os, h.mo, ⟨h.bd, h.bm.2.1, bd_up (bd_up h.bm.2.2 (fun _ => ⟨o, by omega, rfl⟩)) (fun z => absurd z (by decide))⟩, h.iu, ⟨?_, up4_s, by omega, fun k hk => ?_, fun k k' hk hk' he => ?_⟩, h.io, h.jf, h.ig, h.ip, h.jn, h.ir⟩
  · show up4 (up4 ι 27 0 0 c (nI o)) 0 0 0 2 (nI (c + 1)) 0 0 0 2 = _
    exact up4_s
  · by_cases hq : k = c
    · subst hq
      rw [n59, s59]
      refine ⟨?_, ho, up4_s⟩
      show up4 (up4 ι 27 0 0 k (nI o)) 0 0 0 2 (nI (k + 1)) 27 0 0 k = _
      rw [up4_ne (by omega), up4_s]
    · have a := h.ic.2.2.2.1 k (by omega)
      rw [m59 k hq, e59 k hq]
      refine ⟨?_, a.2.1, ?_⟩
      · show up4 (up4 ι 27 0 0 c (nI o)) 0 0 0 2 (nI (c + 1)) 27 0 0 k = _
        rw [up4_ne (by omega), up4_ne (by omega)]
        exact a.1
      · rw [up4_ne (fun z => key k (by omega) z.2.2.2)]
        exact a.2.2
  · by_cases hq : k = c <;> by_cases hq' : k' = c
    · omega
    · subst hq
      rw [n59, m59 k' hq'] at he
      exact absurd he.symm (key k' (by omega))
    · subst hq'
      rw [n59, m59 k hq] at he
      exact absurd he (key k (by omega))
    · rw [m59 k hq, m59 k' hq'] at he
      exact h.ic.2.2.2.2 k k' (by omega) (by omega) he
theorem hasN_eq {ι : Io} {t n : Nat} {x : Int32} (h : ∀ i, i < n → ι 2 t i 0 = ι 48 0 0 (12 * t + i)) : hasNc ι t x n = hasNk ι t x n := by
  unfold hasNc hasNk
  rw [Bool.eq_iff_iff, List.any_eq_true, List.any_eq_true]
  constructor
  · rintro ⟨i, hi, e⟩
    exact ⟨i, hi, by rw [← h i (List.mem_range.mp hi)]; exact e⟩
  · rintro ⟨i, hi, e⟩
    exact ⟨i, hi, by rw [h i (List.mem_range.mp hi)]; exact e⟩
theorem nm_iff {ι : Io} {t : Nat} (hB : BD ι) (hC : CV ι t) (ht : t < 13) {x k s q : Int32} : (sortOK ι t (mn ι 42 t) k s q ∧ hasNc ι t x (mn ι 47 t) = false) ↔ isNm (z0 ι) t x k s q := by
  have e42 : ι 42 0 0 t = nI (mn ι 42 t) := hB.b42.eq ht
  have l42 := hB.b42.le (t := t) ht
  have e1 : hasNc ι t x (mn ι 47 t) = hasNk ι t x (mn ι 47 t) := hasN_eq (fun i hi => (hC.2.1 i hi).1)
  have e2 : isNm (z0 ι) t x k s q ↔ (0 ≤ k ∧ k ≤ 3) ∧ hasNk ι t x (mn ι 47 t) = false ∧ ((k = 3 ∧ s = 0 ∧ q = 0) ∨ (k = 2 ∧ (0 ≤ s ∧ s ≤ 6) ∧ (1 ≤ q ∧ q ≤ 1024)) ∨ (¬ k = 3 ∧ ¬ k = 2 ∧ (0 ≤ s ∧ s ≤ nI (mn ι 42 t) - 1) ∧ (0 ≤ q ∧ q ≤ ι 45 0 0 (8 * t + s.toNatClampNeg)))) := by
    rw [← e42]
    exact Iff.rfl
  have e3 : ∀ s : Int32, 0 ≤ s ∧ s ≤ nI (mn ι 42 t) - 1 → ι 7 t (cl s) 2 = ι 45 0 0 (8 * t + s.toNatClampNeg) := fun s hs => by
    obtain ⟨j, hj, rfl⟩ := rng_of (by omega) hs
    show ι 7 t ((nI j).toNatClampNeg) 2 = _
    rw [nI_clamp (by omega)]
    exact (hC.1 j hj).2.2.1
  rw [e2, e1]
  constructor
  · rintro ⟨h, h2⟩
    rcases h with h | h | ⟨h, h3, h4⟩
    · exact ⟨by rw [h.1]; decide, h2, Or.inl h⟩
    · exact ⟨by rw [h.1]; decide, h2, Or.inr (Or.inl h)⟩
    · rw [e3 s h3] at h4
      rcases h with h | h
      · exact ⟨by rw [h]; decide, h2, Or.inr (Or.inr ⟨by rw [h]; decide, by rw [h]; decide, h3, h4⟩)⟩
      · exact ⟨by rw [h]; decide, h2, Or.inr (Or.inr ⟨by rw [h]; decide, by rw [h]; decide, h3, h4⟩)⟩
  · rintro ⟨h1, h2, h⟩
    refine ⟨?_, h2⟩
    rcases h with h | h | ⟨g1, g2, h3, h4⟩
    · exact Or.inl h
    · exact Or.inr (Or.inl h)
    · rw [← e3 s h3] at h4
      refine Or.inr (Or.inr ⟨?_, h3, h4⟩)
      obtain ⟨j, hj, rfl⟩ := rgN (M := 3) (by decide) h1
      rcases (show j = 0 ∨ j = 1 ∨ j = 2 ∨ j = 3 by omega) with rfl | rfl | rfl | rfl
      · exact Or.inl rfl
      · exact Or.inr rfl
      · exact absurd rfl g2
      · exact absurd rfl g1
theorem rf_iff {ι : Io} {t : Nat} (hB : BD ι) (hC : CV ι t) (ht : t < 13) {s q w m : Int32} : cRf ι t (mn ι 42 t) (mn ι 47 t) s q w m ↔ isRf (z0 ι) t s q w m := by
  have e42 : ι 42 0 0 t = nI (mn ι 42 t) := hB.b42.eq ht
  have e47 : ι 47 0 0 t = nI (mn ι 47 t) := hB.b47.eq ht
  have l42 := hB.b42.le (t := t) ht
  have e2 : isRf (z0 ι) t s q w m ↔ (0 ≤ s ∧ s ≤ nI (mn ι 42 t) - 1) ∧ ¬ ι 43 0 0 (8 * t + s.toNatClampNeg) = 3 ∧ (0 ≤ q ∧ q ≤ ι 45 0 0 (8 * t + s.toNatClampNeg)) ∧ (0 ≤ w ∧ w ≤ 4) ∧ (0 ≤ m ∧ m ≤ nI (mn ι 47 t) - 1) := by
    rw [← e42, ← e47]
    exact Iff.rfl
  rw [e2]
  have e3 : ∀ s : Int32, 0 ≤ s ∧ s ≤ nI (mn ι 42 t) - 1 → ι 7 t (cl s) 2 = ι 45 0 0 (8 * t + s.toNatClampNeg) ∧ ι 7 t (cl s) 0 = ι 43 0 0 (8 * t + s.toNatClampNeg) := fun s hs => by
    obtain ⟨j, hj, rfl⟩ := rng_of (by omega) hs
    show ι 7 t ((nI j).toNatClampNeg) 2 = _ ∧ ι 7 t ((nI j).toNatClampNeg) 0 = _
    rw [nI_clamp (by omega)]
    exact ⟨(hC.1 j hj).2.2.1, (hC.1 j hj).1⟩
  constructor
  · rintro ⟨h1, h2, h3, h4, h5⟩
    rw [(e3 s h1).1] at h3
    rw [(e3 s h1).2] at h2
    exact ⟨h1, h2, h3, h4, h5⟩
  · rintro ⟨h1, h2, h3, h4, h5⟩
    rw [← (e3 s h1).1] at h3
    rw [← (e3 s h1).2] at h2
    exact ⟨h1, h2, h3, h4, h5⟩
theorem ush {v e : Int32} {n : Nat} (hn : n ≤ 24) (h1 : (e.toUInt32 &&& Int32.toUInt32 31).toBitVec.toNat % 32 = n) (h2 : ((e &&& 31).toBitVec.smod 32).toNat = n) : (v.toUInt32 >>> (e.toUInt32 &&& Int32.toUInt32 31)).toInt32 &&& 255 = (v >>> (e &&& 31)) &&& 255 := by
  apply Int32.toBitVec_inj.mp
  rw [Int32.toBitVec_and, Int32.toBitVec_and, Int32.toBitVec_shiftRight, UInt32.toBitVec_toInt32, UInt32.toBitVec_shiftRight]
  have e1 : v.toUInt32.toBitVec >>> ((e.toUInt32 &&& Int32.toUInt32 31).toBitVec % 32) = v.toBitVec >>> n := by
    rw [BitVec.ushiftRight_eq']
    have : ((e.toUInt32 &&& Int32.toUInt32 31).toBitVec % 32).toNat = n := by rw [BitVec.toNat_umod]; exact h1
    rw [this]
    rfl
  have e2 : v.toBitVec.sshiftRight' ((e &&& 31).toBitVec.smod 32) = v.toBitVec.sshiftRight n := by
    unfold BitVec.sshiftRight'
    rw [h2]
  rw [e2]
  exact (congrArg (fun z => z &&& 255#32) e1).trans (sh_lo hn)
theorem ush_by {v : Int32} {i : Nat} (hi : i < 4) : (v.toUInt32 >>> ((8 * nI i).toUInt32 &&& Int32.toUInt32 31)).toInt32 &&& 255 = (v >>> ((8 * nI i) &&& 31)) &&& 255 := by
  rcases (show i = 0 ∨ i = 1 ∨ i = 2 ∨ i = 3 by omega) with rfl | rfl | rfl | rfl
  · exact ush (n := 0) (by decide) (by decide) (by decide)
  · exact ush (n := 8) (by decide) (by decide) (by decide)
  · exact ush (n := 16) (by decide) (by decide) (by decide)
  · exact ush (n := 24) (by decide) (by decide) (by decide)
theorem and_rg {x : Int32} : ∃ a, a ≤ 255 ∧ x &&& 255 = nI a := by
  refine ⟨(x.toBitVec &&& 255#32).toNat, ?_, ?_⟩
  · rw [BitVec.toNat_and]
    exact Nat.and_le_right
  · apply Int32.toBitVec_inj.mp
    apply BitVec.eq_of_toNat_eq
    rw [Int32.toBitVec_and]
    show (x.toBitVec &&& 255#32).toNat = (BitVec.ofNat 32 (x.toBitVec &&& 255#32).toNat).toNat
    rw [BitVec.toNat_ofNat]
    exact (Nat.mod_eq_of_lt (BitVec.isLt _)).symm
theorem byA_rg {v : Int32} {w d : Nat} : ∃ a, a ≤ 255 ∧ byA v w d = nI a := and_rg
def wrC (ι : Io) (l : List Int32) : Io := up4 (filG ι 25 0 0 0 l.length (fun k => l.getD k 0)) 4 0 0 1 (nI l.length)
theorem wrC_0 {ι : Io} : up4 ι 4 0 0 1 0 = wrC ι [] := by
  unfold wrC
  rw [show ([] : List Int32).length = 0 from rfl, filG_0]
  rfl
theorem wrC_s {ι : Io} {l : List Int32} {x : Int32} : up4 (up4 (wrC ι l) 25 0 0 l.length x) 4 0 0 1 (nI (l.length + 1)) = wrC ι (l ++ [x]) := by
  funext r i j k
  unfold wrC
  have e : (l ++ [x]).length = l.length + 1 := by simp
  rw [e]
  by_cases h : r = 4 ∧ i = 0 ∧ j = 0 ∧ k = 1
  · obtain ⟨rfl, rfl, rfl, rfl⟩ := h
    rw [up4_s, up4_s]
  · rw [up4_ne h, up4_ne h]
    by_cases h2 : r = 25 ∧ i = 0 ∧ j = 0 ∧ k = l.length
    · obtain ⟨rfl, rfl, rfl, rfl⟩ := h2
      rw [up4_s, filG_in (by omega)]
      simp
    · rw [up4_ne h2, up4_ne h]
      by_cases h3 : r = 25 ∧ i = 0 ∧ j = 0 ∧ 0 ≤ k ∧ k < 0 + l.length
      · obtain ⟨rfl, rfl, rfl, -, h4⟩ := h3
        rw [filG_in (by omega), filG_in (by omega), List.getD_eq_getElem?_getD, List.getD_eq_getElem?_getD, List.getElem?_append_left (by omega)]
      · rw [filG_ne h3, filG_ne (by omega)]
theorem bys_s {v : Int32} {w j : Nat} {l : List Int32} : (l ++ (List.range j).map (byA v w)) ++ [byA v w j] = l ++ (List.range (j + 1)).map (byA v w) := by
  rw [List.range_succ, List.map_append, List.append_assoc]
  rfl
def datC (ι : Io) (o s n : Nat) : List Int32 := (List.range n).flatMap (fun k => bys (ι 24 o s k) 1)
theorem datC_s {ι : Io} {o s n : Nat} : datC ι o s (n + 1) = datC ι o s n ++ bys (ι 24 o s n) 1 := by
  unfold datC
  rw [List.range_succ, List.flatMap_append]
  simp
theorem datC_len {ι : Io} {o s n : Nat} : (datC ι o s n).length = n := by
  induction n with
  | zero => rfl
  | succ n ih => rw [datC_s, List.length_append, ih, bys_len]
def sec4 (ι : Io) (o s : Nat) : List Int32 := bys (ι 7 o s 0) 1 ++ bys (ι 7 o s 1) 1 ++ bys (ι 7 o s 2) 2
def namC (ι : Io) (o i : Nat) : List Int32 := bys (ι 2 o i 0) 4 ++ bys (ι 2 o i 1) 1 ++ bys (ι 2 o i 2) 1 ++ bys (ι 2 o i 3) 2
def refC (ι : Io) (o j : Nat) : List Int32 := bys (ι 6 o j 0) 1 ++ bys (ι 6 o j 1) 2 ++ bys (ι 6 o j 2) 1 ++ bys (ι 6 o j 3) 1 ++ bys (ι 6 o j 4) 4
theorem sec_e {ι : Io} {o s n : Nat} (h : CVs ι o s) (hn : n = if ι 7 o s 0 = 3 then 0 else mn ι 45 (8 * o + s)) : sec4 ι o s ++ datC ι o s n = secB ι (8 * o + s) := by
  obtain ⟨h1, h2, h3, h4⟩ := h
  have e1 : sec4 ι o s = hd4 ι (8 * o + s) := by unfold sec4 hd4; rw [h1, h2, h3]
  have e2 : ∀ m, m ≤ mn ι 45 (8 * o + s) → ¬ ι 43 0 0 (8 * o + s) = 3 → datC ι o s m = datB ι (8 * o + s) m := by
    intro m
    induction m with
    | zero => intro _ _; unfold datC datB; simp only [List.range_zero, List.flatMap_nil]
    | succ m ih =>
      intro hm hk
      rw [datC_s, datB_s, ih (by omega) hk, h4 hk m (by omega)]
  unfold secB
  rw [e1, hn, h1]
  by_cases hk : ι 43 0 0 (8 * o + s) = 3
  · rw [if_pos hk, if_pos hk]
    unfold datC
    simp only [List.range_zero, List.flatMap_nil]
  · rw [if_neg hk, if_neg hk, e2 _ (Nat.le_refl _) hk]
theorem nam_e {ι : Io} {o i : Nat} (h : CVn ι o i) : namC ι o i = namB ι (12 * o + i) := by
  obtain ⟨h1, h2, h3, h4⟩ := h
  unfold namC namB
  rw [h1, h2, h3, h4]
theorem ref_e {ι : Io} {o j : Nat} (h : CVr ι o j) : refC ι o j = refB ι (16 * o + j) := by
  obtain ⟨h1, h2, h3, h4, h5⟩ := h
  unfold refC refB
  rw [h1, h2, h3, h4, h5]
theorem mark_e : bys 20290 2 = bys 79 1 ++ bys 66 1 := by
  have h1 : byA 20290 2 0 = byA 79 1 0 := Int32.toBitVec_inj.mp (by decide)
  have h2 : byA 20290 2 1 = byA 66 1 0 := Int32.toBitVec_inj.mp (by decide)
  show [byA 20290 2 0, byA 20290 2 1] = [byA 79 1 0, byA 66 1 0]
  rw [h1, h2]
/-- all of them are bytes -/
def aby (l : List Int32) : Prop := ∀ x ∈ l, ∃ a, a ≤ 255 ∧ x = nI a
theorem aby.ap {l m : List Int32} (h : aby l) (h2 : aby m) : aby (l ++ m) := fun x hx => (List.mem_append.mp hx).elim (h x) (h2 x)
theorem aby.by {v : Int32} {w : Nat} : aby (bys v w) := fun x hx => by
  obtain ⟨d, _, rfl⟩ := List.mem_map.mp hx
  exact byA_rg
theorem aby.fm {f : Nat → List Int32} {n : Nat} (h : ∀ k, aby (f k)) : aby ((List.range n).flatMap f) := fun x hx => by
  obtain ⟨k, _, hk⟩ := List.mem_flatMap.mp hx
  exact h k x hk
theorem aby.wl {ι : Io} {t : Nat} : aby (wlF ι t) := by
  have hs : ∀ s, aby (secB ι s) := fun s => by
    unfold secB hd4
    refine ((aby.by.ap aby.by).ap aby.by).ap ?_
    split
    · exact fun x hx => by cases hx
    · exact aby.fm (fun k => aby.by)
  have hn : ∀ s, aby (namB ι s) := fun s => ((aby.by.ap aby.by).ap aby.by).ap aby.by
  have hr : ∀ s, aby (refB ι s) := fun s => (((aby.by.ap aby.by).ap aby.by).ap aby.by).ap aby.by
  exact (((((((aby.by.ap aby.by).ap aby.by).ap aby.by).ap aby.by).ap (aby.fm (fun k => hs _))).ap (aby.fm (fun k => hn _))).ap (aby.fm (fun k => hr _))).ap aby.by
theorem wlG_len {f : Nat → List Int32} {a n m : Nat} (h : ∀ k, k < n → (f (a + k)).length ≤ m) : (wlG f a n).length ≤ m * n := by
  induction n with
  | zero => exact Nat.zero_le _
  | succ n ih =>
    rw [wlG_s, List.length_append]
    have := ih (fun k hk => h k (by omega))
    have := h n (by omega)
    rw [Nat.mul_succ]
    omega
theorem wl_len {ι : Io} {t : Nat} (hB : BD ι) (ht : t < 13) : (wlF ι t).length ≤ 1303 := by
  have c8 := hB.b42.le (t := t) ht
  have c12 := hB.b47.le (t := t) ht
  have c16 := hB.b52.le (t := t) ht
  have h1 : (wlG (secB ι) (8 * t) (mn ι 42 t)).length ≤ 132 * mn ι 42 t := wlG_len (fun k hk => by
    have := hB.b45.le (t := 8 * t + k) (by omega)
    unfold secB hd4
    split
    · simp only [List.length_append, bys_len, List.length_nil]; omega
    · simp only [List.length_append, bys_len, datB_len]; omega)
  have h2 : (wlG (namB ι) (12 * t) (mn ι 47 t)).length ≤ 8 * mn ι 47 t := wlG_len (fun k hk => by
    unfold namB
    simp only [List.length_append, bys_len]; omega)
  have h3 : (wlG (refB ι) (16 * t) (mn ι 52 t)).length ≤ 9 * mn ι 52 t := wlG_len (fun k hk => by
    unfold refB
    simp only [List.length_append, bys_len]; omega)
  unfold wlF wlA hdB
  simp only [List.length_append, bys_len]
  omega
def rmO (ι : Io) : Io := fun r i j k => cond (Nat.ble 42 r && Nat.ble r 57) (ι r i j k) 0
theorem wlF_c {ι ι1 : Io} {t : Nat} (h : ∀ r k, 42 ≤ r → r ≤ 57 → ι1 r 0 0 k = ι r 0 0 k) (h2 : rmO ι1 = rmO ι) : wlF ι1 t = wlF ι t := by
  have e1 : wlF ι1 t = wlF (rmO ι1) t := rfl
  have e2 : wlF ι t = wlF (rmO ι) t := rfl
  rw [e1, e2, h2]
theorem wlF_w {ι : Io} {l : List Int32} {t : Nat} : wlF (wrC ι l) t = wlF ι t := by
  refine wlF_c (fun r k h1 h2 => ?_) ?_
  · unfold wrC
    rw [up4_ne (by omega), filG_ne (by omega)]
  · funext r i j k
    unfold rmO
    cases hb : (Nat.ble 42 r && Nat.ble r 57) with
    | false => rfl
    | true =>
      rw [Bool.and_eq_true] at hb
      have := Nat.le_of_ble_eq_true hb.1
      show wrC ι l r i j k = ι r i j k
      unfold wrC
      rw [up4_ne (by omega), filG_ne (by omega)]
theorem IV.wri {ν : Nu} {ι : Io} {ρ : Ro} {N c w n z kn g : Nat} {l : List Int32} (h : IV ν ι ρ N c w n z kn g) (hl : l.length ≤ 1303) (ha : aby l) : IV ν (wrS (z0 (wrC ι l)) l) ρ N c l.length n z kn g := by
  refine ⟨h.os, h.mo, ⟨h.bd, fun k hk => ?_, h.bm.2.2⟩, h.iu, h.ic, ⟨?_, up4_s, hl, fun k hk => ?_⟩, h.jf, h.ig, h.ip, h.jn, h.ir⟩
  · unfold wrS
    rw [up4_ne (by omega)]
    by_cases hq : k < l.length
    · rw [filF_in (by omega), Nat.sub_zero, List.getD_eq_getElem?_getD, List.getElem?_eq_getElem hq]
      exact ha _ (List.getElem_mem hq)
    · rw [filF_ne (by omega)]
      exact h.bm.2.1 k hk
  · show wrC ι l 4 0 0 1 = _
    exact up4_s
  · show wrC ι l 25 0 0 k = up4 _ 10 0 0 37 _ 78 0 0 k
    unfold wrC
    rw [up4_ne (by omega), filG_in (by omega), up4_ne (by omega), filF_in (by omega)]
theorem pd_eq {m : Nat} (h : 0 < m) : nI m - 1 = nI (m - 1) := by
  have := nI_pred (m - 1)
  rw [show m - 1 + 1 = m by omega] at this
  exact this
theorem pd_neg {m : Nat} (hm : m < 1000000) : nI m - 1 < 0 ↔ m = 0 := by
  constructor
  · intro h
    rcases Nat.eq_zero_or_pos m with z | z
    · exact z
    · rw [pd_eq z] at h
      exact absurd h (nI_nneg (by omega))
  · rintro rfl
    decide
theorem dec1 {m : Nat} (h : 0 < m) : nI m - 1 + Int32.ofInt (-1) = nI (m - 1) - 1 := by
  rw [pd_eq h, Int32.sub_eq_add_neg]
  rfl
theorem wrC_len {ι : Io} {l : List Int32} : wrC ι l 4 0 0 1 = nI l.length := by
  unfold wrC
  exact up4_s
theorem lenj {l : List Int32} {j : Nat} {f : Nat → Int32} : (l ++ (List.range j).map f).length = l.length + j := by simp
theorem wrC_row {ι : Io} {l : List Int32} {k : Nat} (h : k < l.length) : wrC ι l 25 0 0 k = l.getD k 0 := by
  unfold wrC
  rw [up4_ne (by omega), filG_in (by omega)]
  rfl
theorem wrC_sum {ι : Io} {l : List Int32} : sumR (wrC ι l 25 0 0) l.length &&& 65535 = suL l := by
  unfold suL
  rw [sumR_c (g := fun k => l.getD k 0) (fun k hk => wrC_row hk)]
theorem wrC_x {ι : Io} {l l' : List Int32} (h : l = l') : wrC ι l = wrC ι l' := by rw [h]
