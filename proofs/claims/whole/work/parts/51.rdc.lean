/-! reading: the reader g, the unit o -/
def RDR (ν : Nu) (ι : Io) (ρ : Ro) (g T a : Nat) (b : Int32) : Prop := ν 5 g 0 = some 4 ∧ ρ 5 g 0 0 = some (25, 0, 0) ∧ ι 5 g 0 1 = nI (T + 2) ∧ ι 5 g 0 2 = nI a ∧ ι 5 g 0 3 = b
def Rx (g : Nat) (ι ι1 : Io) : Prop := ∀ r i j k, ¬ (r = 5 ∧ i = g ∧ j = 0) → ι1 r i j k = ι r i j k
theorem Rx.rf {g : Nat} {ι : Io} : Rx g ι ι := fun _ _ _ _ _ => rfl
theorem Rx.tr {g : Nat} {ι ι1 ι2 : Io} (h : Rx g ι ι1) (h2 : Rx g ι1 ι2) : Rx g ι ι2 := fun r i j k hn => (h2 r i j k hn).trans (h r i j k hn)
theorem Rx.up {g k : Nat} {ι ι1 : Io} {x : Int32} (h : Rx g ι ι1) : Rx g ι (up4 ι1 5 g 0 k x) := fun r i j' k' hn => by
  rw [up4_ne (fun z => hn ⟨z.1, z.2.1, z.2.2.1⟩)]
  exact h r i j' k' hn
/-- the cells of the unit o -/
def isC (o r i j : Nat) : Prop := i = o ∧ ((j = 0 ∧ (r = 8 ∨ r = 21 ∨ r = 22 ∨ r = 23)) ∨ r = 7 ∨ r = 24 ∨ r = 2 ∨ r = 6)
def isG (o g r i j : Nat) : Prop := isC o r i j ∨ (r = 5 ∧ i = g ∧ j = 0)
/-- only cells of the unit o and of the reader g change -/
def RFr (o g : Nat) (ν ν1 : Nu) (ι ι1 : Io) (ρ ρ1 : Ro) : Prop := (∀ r i j, ¬ isG o g r i j → ν1 r i j = ν r i j) ∧ (∀ r i j k, ¬ isG o g r i j → ι1 r i j k = ι r i j k) ∧ (∀ r i j k, ¬ isG o g r i j → ρ1 r i j k = ρ r i j k)
theorem RFr.rf {o g : Nat} {ν : Nu} {ι : Io} {ρ : Ro} : RFr o g ν ν ι ι ρ ρ := ⟨fun _ _ _ _ => rfl, fun _ _ _ _ _ => rfl, fun _ _ _ _ _ => rfl⟩
theorem RFr.tr {o g : Nat} {ν ν1 ν2 : Nu} {ι ι1 ι2 : Io} {ρ ρ1 ρ2 : Ro} (h : RFr o g ν ν1 ι ι1 ρ ρ1) (k : RFr o g ν1 ν2 ι1 ι2 ρ1 ρ2) : RFr o g ν ν2 ι ι2 ρ ρ2 := ⟨fun r i j a => (k.1 r i j a).trans (h.1 r i j a), fun r i j q a => (k.2.1 r i j q a).trans (h.2.1 r i j q a), fun r i j q a => (k.2.2 r i j q a).trans (h.2.2 r i j q a)⟩
theorem RFr.x {o g : Nat} {ν ν1 : Nu} {ι ι1 ι2 : Io} {ρ ρ1 : Ro} (h : RFr o g ν ν1 ι ι1 ρ ρ1) (k : Rx g ι1 ι2) : RFr o g ν ν1 ι ι2 ρ ρ1 := ⟨h.1, fun r i j q a => (k r i j q (fun z => a (Or.inr z))).trans (h.2.1 r i j q a), h.2.2⟩
section Rf
variable {o g r i j k : Nat} {ν ν1 : Nu} {ι ι1 : Io} {ρ ρ1 : Ro}
theorem RFr.n {x : Option Nat} (h : RFr o g ν ν1 ι ι1 ρ ρ1) (hr : isG o g r i j) : RFr o g ν (up3 ν1 r i j x) ι ι1 ρ ρ1 := ⟨fun a b d hn => by rw [up3_ne (fun z => hn (by rw [z.1, z.2.1, z.2.2]; exact hr))]; exact h.1 a b d hn, h.2⟩
theorem RFr.io {x : Int32} (h : RFr o g ν ν1 ι ι1 ρ ρ1) (hr : isG o g r i j) : RFr o g ν ν1 ι (up4 ι1 r i j k x) ρ ρ1 := ⟨h.1, fun a b d e hn => by rw [up4_ne (fun z => hn (by rw [z.1, z.2.1, z.2.2.1]; exact hr))]; exact h.2.1 a b d e hn, h.2.2⟩
theorem RFr.iA {x : Nat → Int32} (h : RFr o g ν ν1 ι ι1 ρ ρ1) (hr : isG o g r i j) : RFr o g ν ν1 ι (upA ι1 r i j x) ρ ρ1 := ⟨h.1, fun a b d e hn => by rw [upA_ne (fun z => hn (by rw [z.1, z.2.1, z.2.2]; exact hr))]; exact h.2.1 a b d e hn, h.2.2⟩
theorem RFr.q {x : Option Pt3} (h : RFr o g ν ν1 ι ι1 ρ ρ1) (hr : isG o g r i j) : RFr o g ν ν1 ι ι1 ρ (up4 ρ1 r i j k x) := ⟨h.1, h.2.1, fun a b d e hn => by rw [up4_ne (fun z => hn (by rw [z.1, z.2.1, z.2.2.1]; exact hr))]; exact h.2.2 a b d e hn⟩
theorem RFr.qA {x : Nat → Option Pt3} (h : RFr o g ν ν1 ι ι1 ρ ρ1) (hr : isG o g r i j) : RFr o g ν ν1 ι ι1 ρ (upA ρ1 r i j x) := ⟨h.1, h.2.1, fun a b d e hn => by rw [upA_ne (fun z => hn (by rw [z.1, z.2.1, z.2.2]; exact hr))]; exact h.2.2 a b d e hn⟩
end Rf
theorem g7 {o g j : Nat} : isG o g 7 o j := Or.inl ⟨rfl, by omega⟩
theorem g24 {o g j : Nat} : isG o g 24 o j := Or.inl ⟨rfl, by omega⟩
theorem g2 {o g j : Nat} : isG o g 2 o j := Or.inl ⟨rfl, by omega⟩
theorem g6 {o g j : Nat} : isG o g 6 o j := Or.inl ⟨rfl, by omega⟩
theorem g8 {o g : Nat} : isG o g 8 o 0 := Or.inl ⟨rfl, by omega⟩
theorem g21 {o g : Nat} : isG o g 21 o 0 := Or.inl ⟨rfl, by omega⟩
theorem g22 {o g : Nat} : isG o g 22 o 0 := Or.inl ⟨rfl, by omega⟩
theorem g23 {o g : Nat} : isG o g 23 o 0 := Or.inl ⟨rfl, by omega⟩
theorem g5 {o g : Nat} : isG o g 5 g 0 := Or.inr ⟨rfl, rfl, rfl⟩
/-- what the unit's sections, names, references say -/
def CSo (ι : Io) (o : Nat) (f : Nat → Int32) (i : Nat) : Prop := ∀ j, j < i → ι 7 o j 0 = sK f j ∧ ι 7 o j 1 = sP f j ∧ ι 7 o j 2 = sZ f j ∧ (¬ sK f j = 3 → ∀ k, k < cl (sZ f j) → ι 24 o j k = sD f j k)
def CNo (ι : Io) (o : Nat) (f : Nat → Int32) (i : Nat) : Prop := ∀ j, j < i → ι 2 o j 0 = nA f j ∧ ι 2 o j 1 = nS f j ∧ ι 2 o j 2 = nW f j ∧ ι 2 o j 3 = nP f j
def CRo (ι : Io) (o : Nat) (f : Nat → Int32) (i : Nat) : Prop := ∀ j, j < i → ι 6 o j 0 = qS f j ∧ ι 6 o j 1 = qP f j ∧ ι 6 o j 2 = qW f j ∧ ι 6 o j 3 = qN f j ∧ ι 6 o j 4 = qA f j
theorem UI.c7 {ν : Nu} {ι ι' : Io} {ρ : Ro} {o c n r : Nat} (h : UI ν ι ρ o c n r) (e7 : ∀ j k, ι' 7 o j k = ι 7 o j k) (e8 : ∀ k, ι' 8 o 0 k = ι 8 o 0 k) : UI ν ι' ρ o c n r := by
  unfold UI SeS at *
  simp only [e7, e8]
  exact h
theorem UI.x {ν : Nu} {ι ι' : Io} {ρ : Ro} {o c n r g : Nat} (h : UI ν ι ρ o c n r) (e : Rx g ι ι') : UI ν ι' ρ o c n r := h.c7 (fun j k => e 7 o j k (by omega)) (fun k => e 8 o 0 k (by omega))
theorem CSo.x {ι ι' : Io} {o i g : Nat} {f : Nat → Int32} (h : CSo ι o f i) (e : Rx g ι ι') : CSo ι' o f i := fun j hj => by
  obtain ⟨a, b, d, k⟩ := h j hj
  rw [e 7 o j 0 (by omega), e 7 o j 1 (by omega), e 7 o j 2 (by omega)]
  exact ⟨a, b, d, fun h3 t ht => (e 24 o j t (by omega)).trans (k h3 t ht)⟩
theorem CNo.x {ι ι' : Io} {o i g : Nat} {f : Nat → Int32} (h : CNo ι o f i) (e : Rx g ι ι') : CNo ι' o f i := fun j hj => by
  rw [e 2 o j 0 (by omega), e 2 o j 1 (by omega), e 2 o j 2 (by omega), e 2 o j 3 (by omega)]
  exact h j hj
theorem CRo.x {ι ι' : Io} {o i g : Nat} {f : Nat → Int32} (h : CRo ι o f i) (e : Rx g ι ι') : CRo ι' o f i := fun j hj => by
  rw [e 6 o j 0 (by omega), e 6 o j 1 (by omega), e 6 o j 2 (by omega), e 6 o j 3 (by omega), e 6 o j 4 (by omega)]
  exact h j hj
/-- one section more: ιs its start, ι' behind its bytes -/
theorem CSo.add {ι ι' : Io} {o i g n : Nat} {f : Nat → Int32} (h : CSo ι o f i) (hz : sZ f i = nI n) (hn : n ≤ 128) (hd : ∀ r a b k, ¬ (r = 24 ∧ a = o ∧ b = i) → ¬ (r = 5 ∧ a = g ∧ b = 0) → ι' r a b k = (upA (up4 (up4 (up4 (upA ι 7 o i (fun _ => 0)) 7 o i 0 (sK f i)) 7 o i 1 (sP f i)) 7 o i 2 (nI n)) 24 o i (fun _ => 0)) r a b k) (hb : ¬ sK f i = 3 → ∀ k, k < n → ι' 24 o i k = sD f i k) : CSo (up4 ι' 8 o 0 1 (nI (i + 1))) o f (i + 1) := by
  intro j hj
  have e7 : ∀ j k, up4 ι' 8 o 0 1 (nI (i + 1)) 7 o j k = (upA (up4 (up4 (up4 (upA ι 7 o i (fun _ => 0)) 7 o i 0 (sK f i)) 7 o i 1 (sP f i)) 7 o i 2 (nI n)) 24 o i (fun _ => 0)) 7 o j k := fun j k => by
    rw [up4_ne (by omega), hd 7 o j k (by omega) (by omega)]
  rw [e7, e7, e7]
  by_cases q : j = i
  · subst q
    refine ⟨?_, ?_, ?_, fun h3 k hk => ?_⟩
    · simp (disch := omega) only [up4_ne, up4_s, upA_ne]
    · simp (disch := omega) only [up4_ne, up4_s, upA_ne]
    · simp (disch := omega) only [up4_ne, up4_s, upA_ne]; exact hz.symm
    · rw [up4_ne (by omega)]
      refine hb h3 k ?_
      have : cl (sZ f j) = n := by rw [hz]; exact nI_clamp (by omega)
      omega
  · obtain ⟨a, b, d, e⟩ := h j (by omega)
    refine ⟨?_, ?_, ?_, fun h3 k hk => ?_⟩
    · simp (disch := omega) only [up4_ne, upA_ne]; exact a
    · simp (disch := omega) only [up4_ne, upA_ne]; exact b
    · simp (disch := omega) only [up4_ne, upA_ne]; exact d
    · rw [up4_ne (by omega), hd 24 o j k (by omega) (by omega)]
      simp (disch := omega) only [up4_ne, upA_ne]
      exact e h3 k hk
theorem UI.add {ν : Nu} {ι ι' : Io} {ρ : Ro} {o i g n : Nat} {K P : Int32} (h : UI ν ι ρ o i 0 0) (hi : i < 8) (hn : n ≤ 128) (hd : ∀ r a b k, ¬ (r = 24 ∧ a = o ∧ b = i) → ¬ (r = 5 ∧ a = g ∧ b = 0) → ι' r a b k = (upA (up4 (up4 (up4 (upA ι 7 o i (fun _ => 0)) 7 o i 0 K) 7 o i 1 P) 7 o i 2 (nI n)) 24 o i (fun _ => 0)) r a b k) : UI (sν ν o i n K) (up4 ι' 8 o 0 1 (nI (i + 1))) (sρ ρ o i) o (i + 1) 0 0 := by
  refine (UI.sec (k := K) (q := P) h hi hn).c7 (fun j k => ?_) (fun k => ?_)
  · rw [up4_ne (by omega), hd 7 o j k (by omega) (by omega)]
    unfold sι
    rw [up4_ne (by omega)]
  · unfold sι
    by_cases q : k = 1
    · rw [q, up4_s, up4_s]
    · rw [up4_ne (by omega), up4_ne (by omega), hd 8 o 0 k (by omega) (by omega)]
theorem CNo.add {ι : Io} {o j : Nat} {f : Nat → Int32} (h : CNo ι o f j) : CNo (nι ι o j (nA f j) (nS f j) (nW f j) (nP f j)) o f (j + 1) := by
  intro t ht
  by_cases q : t = j
  · subst q
    unfold nι
    refine ⟨?_, ?_, ?_, ?_⟩ <;> simp (disch := omega) only [up4_ne, up4_s]
  · have := h t (by omega)
    unfold nι
    simp (disch := omega) only [up4_ne, upA_ne]
    exact this
theorem CSo.n {ι : Io} {o j c : Nat} {f : Nat → Int32} {a b d e : Int32} (h : CSo ι o f c) : CSo (nι ι o j a b d e) o f c := by
  intro t ht
  have := h t ht
  unfold nι
  simp (disch := omega) only [up4_ne, upA_ne]
  exact this
theorem CRo.add {ι : Io} {o j : Nat} {f : Nat → Int32} (h : CRo ι o f j) : CRo (rι ι o j (qS f j) (qP f j) (qW f j) (qN f j) (qA f j)) o f (j + 1) := by
  intro t ht
  by_cases q : t = j
  · subst q
    unfold rι
    refine ⟨?_, ?_, ?_, ?_, ?_⟩ <;> simp (disch := omega) only [up4_ne, up4_s]
  · have := h t (by omega)
    unfold rι
    simp (disch := omega) only [up4_ne, upA_ne]
    exact this
theorem CSo.r {ι : Io} {o j c : Nat} {f : Nat → Int32} {a b d e k : Int32} (h : CSo ι o f c) : CSo (rι ι o j a b d e k) o f c := by
  intro t ht
  have := h t ht
  unfold rι
  simp (disch := omega) only [up4_ne, upA_ne]
  exact this
theorem CNo.r {ι : Io} {o j c : Nat} {f : Nat → Int32} {a b d e k : Int32} (h : CNo ι o f c) : CNo (rι ι o j a b d e k) o f c := by
  intro t ht
  have := h t ht
  unfold rι
  simp (disch := omega) only [up4_ne, upA_ne]
  exact this
theorem mark2 {f : Nat → Int32} (h0 : ∃ a, a ≤ 255 ∧ f 0 = nI a) (h1 : ∃ a, a ≤ 255 ∧ f 1 = nI a) : beV f 0 2 = 20290 ↔ beV f 0 1 = 79 ∧ beV f 1 1 = 66 := by
  obtain ⟨a, ha, ea⟩ := h0
  obtain ⟨b, hb, eb⟩ := h1
  have e2 : beV f 0 2 = nI (a * 256 + b) := by
    show (((((0 : Int32) <<< ((8 : Int32) &&& 31)) ||| f (0 + 0)) <<< ((8 : Int32) &&& 31)) ||| f (0 + 1)) = _
    rw [show (0 : Nat) + 0 = 0 from rfl, show (0 : Nat) + 1 = 1 from rfl, ea, eb]
    apply Int32.toBitVec_inj.mp
    have z : (((0 : Int32) <<< ((8 : Int32) &&& 31)) ||| nI a) = nI a := by
      apply Int32.toBitVec_inj.mp
      rw [Int32.toBitVec_or]
      exact BitVec.zero_or
    rw [z, Int32.toBitVec_or, Int32.toBitVec_shiftLeft]
    apply BitVec.eq_of_toNat_eq
    have e8 : ((8 : Int32) &&& 31).toBitVec.smod 32 = 8#32 := by decide
    rw [e8, BitVec.toNat_or, BitVec.shiftLeft_eq', BitVec.toNat_shiftLeft]
    show ((BitVec.ofNat 32 a).toNat <<< 8) % 2 ^ 32 ||| (BitVec.ofNat 32 b).toNat = (BitVec.ofNat 32 (a * 256 + b)).toNat
    rw [BitVec.toNat_ofNat, BitVec.toNat_ofNat, BitVec.toNat_ofNat, Nat.mod_eq_of_lt (show a < 2 ^ 32 by omega), Nat.mod_eq_of_lt (show b < 2 ^ 32 by omega), Nat.mod_eq_of_lt (show a * 256 + b < 2 ^ 32 by omega), Nat.shiftLeft_eq, Nat.mod_eq_of_lt (show a * 2 ^ 8 < 2 ^ 32 by omega)]
    rw [show a * 256 = a <<< 8 by rw [Nat.shiftLeft_eq]]
    exact (Nat.shiftLeft_add_eq_or_of_lt (show b < 2 ^ 8 by omega) a).symm
  rw [e2, beV1, beV1, ea, eb, show (20290 : Int32) = nI 20290 from rfl, show (79 : Int32) = nI 79 from rfl, show (66 : Int32) = nI 66 from rfl, nI_eq (by omega) (by omega), nI_eq (by omega) (by omega), nI_eq (by omega) (by omega)]
  omega
theorem beV_c {f g : Nat → Int32} {a w : Nat} (h : ∀ k, a ≤ k → k < a + w → f k = g k) : beV f a w = beV g a w := by
  induction w with
  | zero => rfl
  | succ w ih =>
    unfold beV
    rw [ih (fun k h1 h2 => h k h1 (by omega)), h (a + w) (by omega) (by omega)]
/-! names and references as the class judges them -/
theorem nmC {ι : Io} {o j : Nat} {f : Nat → Int32} (hc : cS f ≤ 8) (hS : CSo ι o f (cS f)) (hN : CNo ι o f j) : (sortOK ι o (cS f) (nS f j) (nW f j) (nP f j) ∧ hasNc ι o (nA f j) j = false) ↔ nmOK f j := by
  have e1 : hasNc ι o (nA f j) j = false ↔ ∀ i, i < j → nA f i ≠ nA f j := by
    constructor
    · intro h i hi z
      rw [hasNc_hit hi ((hN i hi).1.trans z)] at h
      cases h
    · intro h
      cases hb : hasNc ι o (nA f j) j with
      | false => rfl
      | true =>
        unfold hasNc at hb
        rw [List.any_eq_true] at hb
        obtain ⟨i, h1, h2⟩ := hb
        rw [List.mem_range] at h1
        have : ι 2 o i 0 = nA f j := by simpa using h2
        exact absurd ((hN i h1).1.symm.trans this) (h i h1)
  unfold nmOK
  rw [e1]
  constructor
  · rintro ⟨h, h2⟩
    rcases h with h | h | ⟨h, h3, h4⟩
    · exact ⟨by rw [h.1]; decide, h2, Or.inl h⟩
    · exact ⟨by rw [h.1]; decide, h2, Or.inr (Or.inl h)⟩
    · obtain ⟨s, hs, e⟩ := rng_of (by omega) h3
      have h5 : 0 ≤ nP f j ∧ nP f j ≤ sZ f s := by
        rw [e] at h4
        have e9 : cl (nI s) = s := nI_clamp (by omega)
        rw [e9, (hS s hs).2.2.1] at h4
        exact h4
      refine ⟨by rcases h with h | h <;> rw [h] <;> decide, h2, Or.inr (Or.inr ⟨?_, ?_, s, hs, e, h5⟩)⟩
      · rcases h with h | h <;> rw [h] <;> decide
      · rcases h with h | h <;> rw [h] <;> decide
  · rintro ⟨h1, h2, h⟩
    refine ⟨?_, h2⟩
    rcases h with h | h | ⟨g1, g2, s, hs, e, h5⟩
    · exact Or.inl h
    · exact Or.inr (Or.inl h)
    · refine Or.inr (Or.inr ⟨?_, ?_, ?_⟩)
      · obtain ⟨k, hk, e9⟩ := rgN (M := 3) (by decide) h1
        rw [e9] at g1 g2 ⊢
        rcases (show k = 0 ∨ k = 1 ∨ k = 2 ∨ k = 3 by omega) with rfl | rfl | rfl | rfl
        · exact Or.inl rfl
        · exact Or.inr rfl
        · exact absurd rfl g2
        · exact absurd rfl g1
      · rw [e]
        exact rng_to (by omega) hs
      · rw [e]
        have e9 : cl (nI s) = s := nI_clamp (by omega)
        rw [e9, (hS s hs).2.2.1]
        exact h5
theorem rfC {ι : Io} {o j : Nat} {f : Nat → Int32} (hc : cS f ≤ 8) (hS : CSo ι o f (cS f)) : cRf ι o (cS f) (cN f) (qS f j) (qP f j) (qW f j) (qN f j) ↔ rfOK f j := by
  unfold rfOK
  constructor
  · rintro ⟨h1, h2, h3, h4, h5⟩
    obtain ⟨s, hs, e⟩ := rng_of (by omega) h1
    rw [e] at h2 h3
    have e9 : cl (nI s) = s := nI_clamp (by omega)
    rw [e9, (hS s hs).2.2.1] at h3
    rw [e9, (hS s hs).1] at h2
    exact ⟨⟨s, hs, e, h2, h3⟩, h4, h5⟩
  · rintro ⟨⟨s, hs, e, h2, h3⟩, h4, h5⟩
    have e9 : cl (nI s) = s := nI_clamp (by omega)
    refine ⟨by rw [e]; exact rng_to (by omega) hs, ?_, ?_, h4, h5⟩
    · rw [e, e9, (hS s hs).1]; exact h2
    · rw [e, e9, (hS s hs).2.2.1]; exact h3
/-! the coupling behind a reading -/
def ri2 (ι : Io) : Io := fun r i j k => cond (isUb r || (Nat.ble 42 r && Nat.ble r 57) || (Nat.beq r 9 && Nat.beq k 1) || (Nat.beq r 10 && (Nat.beq k 0 || Nat.beq k 1 || Nat.beq k 39 || Nat.beq k 40))) 0 (ι r i j k)
theorem IV_rs2 {ν ν' : Nu} {ι ι' : Io} {ρ ρ' : Ro} {N N' c w n z kn g g' : Nat} (h : IV ν ι ρ N c w n z kn g) (hν : rs ν' = rs ν) (hι : ri2 ι' = ri2 ι) (hρ : rq ρ' = rq ρ) (hB : BD ι') (hN : N ≤ N') (hU : IU ν' ι' ρ' N') (hR : IR ν' g') : IV ν' ι' ρ' N' c w n z kn g' := by
  have h1 : OS (rs ν) (rq ρ) := h.os
  have h2 : MoS (rs ν) (rq ρ) := h.mo
  have h3 : bd (ri2 ι) 78 1400 255 := h.bm.2.1
  have h4 : bd (ri2 ι) 59 12 11 := h.bm.2.2
  have h5 : IC (ri2 ι) (rq ρ) N c := h.ic
  have h6 : IO (ri2 ι) w := h.io
  have h7 : IF (ri2 ι) := h.jf
  have h8 : IG (ri2 ι) n := h.ig
  have h9 : IP (ri2 ι) := h.ip
  have h10 : IN (ri2 ι) z kn := h.jn
  rw [← hν, ← hρ] at h1 h2
  rw [← hι] at h3 h4 h6 h7 h8 h9 h10
  rw [← hι, ← hρ] at h5
  exact ⟨h1, h2, ⟨hB, h3, h4⟩, hU, ⟨h5.1, h5.2.1, h5.2.2.1, fun k hk => ⟨(h5.2.2.2.1 k hk).1, Nat.lt_of_lt_of_le (h5.2.2.2.1 k hk).2.1 hN, (h5.2.2.2.1 k hk).2.2⟩, h5.2.2.2.2⟩, h6, h7, h8, h9, h10, hR⟩
theorem isG.n {o g r i j : Nat} (h : isG o g r i j) : (isU r ∧ i = o) ∨ r = 5 := by
  rcases h with ⟨h1, h2⟩ | h
  · exact Or.inl ⟨by unfold isU; omega, h1⟩
  · exact Or.inr h.1
/-- frames of class and reference together -/
def FrW (o : Nat) (ν ν' : Nu) (ι ι' : Io) (ρ ρ' : Ro) : Prop := (∀ r i j, ¬ (isU r ∧ i = o) → r ≠ 5 → ν' r i j = ν r i j) ∧ (∀ r i j k, ¬ (isU r ∧ i = o) → r ≠ 5 → ¬ (i = 0 ∧ j = 0 ∧ (inO 12 r k ∨ inO o r k)) → ¬ ((r = 10 ∧ (k = 0 ∨ k = 1 ∨ k = 39 ∨ k = 40)) ∨ (r = 9 ∧ k = 1)) → ι' r i j k = ι r i j k) ∧ (∀ r i j k, ¬ (isU r ∧ i = o) → r ≠ 5 → ¬ (r = 20 ∧ k = o) → ρ' r i j k = ρ r i j k)
theorem FrW_rs {o : Nat} {ν ν' : Nu} {ι ι' : Io} {ρ ρ' : Ro} (h : FrW o ν ν' ι ι' ρ ρ') : rs ν' = rs ν ∧ ri2 ι' = ri2 ι ∧ rq ρ' = rq ρ := by
  refine ⟨?_, ?_, ?_⟩
  · funext r i j
    unfold rs
    cases hb : isUb r with
    | true => rfl
    | false => exact h.1 r i j (fun z => (isUb_t hb).1 z.1) (isUb_t hb).2
  · funext r i j k
    unfold ri2
    generalize hb : (isUb r || (Nat.ble 42 r && Nat.ble r 57) || (Nat.beq r 9 && Nat.beq k 1) || (Nat.beq r 10 && (Nat.beq k 0 || Nat.beq k 1 || Nat.beq k 39 || Nat.beq k 40))) = b
    cases b with
    | true => rfl
    | false =>
      simp only [Bool.or_eq_false_iff, Bool.and_eq_false_iff, nbf] at hb
      obtain ⟨⟨⟨h1, h2⟩, h3⟩, h4⟩ := hb
      refine h.2.1 r i j k (fun z => (isUb_t h1).1 z.1) (isUb_t h1).2 (fun z => ?_) (fun z => ?_)
      · have h9 : ¬ (42 ≤ r ∧ r ≤ 57) := by
          intro q
          rcases h2 with h2 | h2
          · rw [Nat.ble_eq_true_of_le q.1] at h2; cases h2
          · rw [Nat.ble_eq_true_of_le q.2] at h2; cases h2
        have := z.2.2
        unfold inO at this
        omega
      · omega
  · funext r i j k
    unfold rq
    generalize hb : (isUb r || Nat.beq r 20) = b
    cases b with
    | true => rfl
    | false =>
      simp only [Bool.or_eq_false_iff, nbf] at hb
      exact h.2.2 r i j k (fun z => (isUb_t hb.1).1 z.1) (isUb_t hb.1).2 (fun z => hb.2 z.1)
theorem FrW_ot {ν ν' : Nu} {ι ι' : Io} {ρ ρ' : Ro} {N c w n z kn g o o' : Nat} (h : IV ν ι ρ N c w n z kn g) (hF : FrW o ν ν' ι ι' ρ ρ') (hl : o' < N) (hq : o' ≠ o) (hv : ∀ r j, isU r → ν' r o' j = ν r o' j) : ρ' 20 0 0 o' = some (8, o', 0) ∧ UM ν' ι' ρ' o' ∧ CV ι' o' ∧ DO ι' o' := by
  have h12 := h.N12
  refine IU.ot (h.iu.2.2.2.1 o' hl) h.bd (by omega) (hF.2.2 20 0 0 o' (fun z => by have := z.1.n5; omega) (by decide) (fun z => hq z.2)) hv (fun r j k hr => hF.2.1 r o' j k (fun z => hq z.2) hr.n5.1 (fun z => by have := hr.n5; have := z.2.2; unfold inO at this; omega) (fun z => by have := hr.n5; omega)) (fun r j k hr => hF.2.2 r o' j k (fun z => hq z.2) hr.n5.1 (fun z => by have := hr.n5; omega)) (fun r k hr => hF.2.1 r 0 0 k (fun z => by have := z.1.n5; unfold inO at hr; omega) (fun z => by unfold inO at hr; omega) (fun z => by have := z.2.2; unfold inO at this hr; omega) (fun z => by unfold inO at hr; omega))
theorem IV_rd {ν ν' : Nu} {ι ι' : Io} {ρ ρ' : Ro} {N c w n z kn g g' : Nat} (h : IV ν ι ρ N c w n z kn g) (hF : FrW N ν ν' ι ι' ρ ρ') (hN : N < 12) (e1 : ι' 9 0 0 1 = nI (N + 1)) (e2 : ι' 10 0 0 1 = nI (N + 1)) (hp : ρ' 20 0 0 N = some (8, N, 0)) (hB : BD ι') (hU : UM ν' ι' ρ' N) (hC : CV ι' N) (hD : DO ι' N) (hR : IR ν' g') : IV ν' ι' ρ' (N + 1) c w n z kn g' := by
  obtain ⟨f1, f2, f3⟩ := FrW_rs hF
  refine IV_rs2 h f1 f2 f3 hB (by omega) ⟨e1, e2, by omega, fun o' ho' => ?_, fun o' ho' => ?_⟩ hR
  · by_cases hq : o' = N
    · subst hq
      exact ⟨hp, hU, hC, hD⟩
    · exact FrW_ot h hF (by omega) hq (fun r j hr => hF.1 r o' j (fun z => hq z.2) hr.n5.1)
  · have hq : o' ≠ N := by omega
    obtain ⟨q1, q2, q3, q4, q5⟩ := h.iu.2.2.2.2 o' (by omega)
    have hh : ∀ r j, isU r → ν' r o' j = ν r o' j := fun r j hr => hF.1 r o' j (fun z => hq z.2) hr.n5.1
    refine ⟨(hh 8 0 (by unfold isU; omega)).trans q1, (hh 21 0 (by unfold isU; omega)).trans q2, (hh 22 0 (by unfold isU; omega)).trans q3, (hh 23 0 (by unfold isU; omega)).trans q4, fun s => ⟨(hh 7 s (by unfold isU; omega)).trans (q5 s).1, (hh 24 s (by unfold isU; omega)).trans (q5 s).2.1, (hh 2 s (by unfold isU; omega)).trans (q5 s).2.2.1, (hh 6 s (by unfold isU; omega)).trans (q5 s).2.2.2⟩⟩
/-- a reading that made nothing: the new cells are forgotten -/
theorem IV_no {ν ν' : Nu} {ι ι' : Io} {ρ ρ' : Ro} {N c w n z kn g : Nat} (h : IV ν ι ρ N c w n z kn g) (hF : FrW N ν ν' ι ι' ρ ρ') (hq20 : ρ' 20 0 0 N = ρ 20 0 0 N) (e1 : ι' 9 0 0 1 = nI N) (e2 : ι' 10 0 0 1 = nI N) (hB : BD ι') : IV ν ι' ρ' N c w n z kn g := by
  obtain ⟨f1, f2, f3⟩ := FrW_rs hF
  refine IV_rs2 h rfl f2 f3 hB (Nat.le_refl _) ⟨e1, e2, h.N12, fun o' ho' => ?_, h.iu.2.2.2.2⟩ h.ir
  have hF2 : FrW N ν ν ι ι' ρ ρ' := ⟨fun _ _ _ _ _ => rfl, hF.2.1, hF.2.2⟩
  exact FrW_ot h hF2 ho' (by omega) (fun _ _ _ => rfl)
theorem RFr.w {o g : Nat} {ν ν1 : Nu} {ι ι1 ι2 : Io} {ρ ρ1 ρ2 : Ro} (h : RFr o g ν ν1 ι ι1 ρ ρ1) (h2 : ∀ r i j k, ¬ (i = 0 ∧ j = 0 ∧ (inO 12 r k ∨ inO o r k)) → ¬ ((r = 10 ∧ (k = 0 ∨ k = 1 ∨ k = 39 ∨ k = 40)) ∨ (r = 9 ∧ k = 1)) → ι2 r i j k = ι1 r i j k) (h3 : ∀ r i j k, ¬ (r = 20 ∧ k = o) → ρ2 r i j k = ρ1 r i j k) : FrW o ν ν1 ι ι2 ρ ρ2 := by
  have key : ∀ {r i j}, ¬ (isU r ∧ i = o) → r ≠ 5 → ¬ isG o g r i j := fun h1 h5 z => z.n.elim h1 h5
  exact ⟨fun r i j a b => h.1 r i j (key a b), fun r i j k a b d e => (h2 r i j k d e).trans (h.2.1 r i j k (key a b)), fun r i j k a b d => (h3 r i j k d).trans (h.2.2 r i j k (key a b))⟩
theorem RFr.live {N g : Nat} {ν ν1 : Nu} {ι ι1 : Io} {ρ ρ1 : Ro} (h : RFr N g ν ν1 ι ι1 ρ ρ1) (hU : FU ν N) (hG : ν 5 g 0 = none) {r i j : Nat} (hn : ν r i j ≠ none) : ¬ isG N g r i j := by
  intro z
  obtain ⟨u1, u2, u3, u4, u5⟩ := hU
  rcases z with ⟨rfl, q⟩ | ⟨rfl, rfl, rfl⟩
  · rcases q with ⟨rfl, q⟩ | q
    · rcases q with rfl | rfl | rfl | rfl
      · exact hn u1
      · exact hn u2
      · exact hn u3
      · exact hn u4
    · rcases q with rfl | rfl | rfl | rfl
      · exact hn (u5 j).1
      · exact hn (u5 j).2.1
      · exact hn (u5 j).2.2.1
      · exact hn (u5 j).2.2.2
  · exact hn hG
theorem RFr.dr {N g : Nat} {ν ν1 : Nu} {ι ι1 : Io} {ρ ρ1 : Ro} (h : RFr N g ν ν1 ι ι1 ρ ρ1) (hU : FU ν N) (hG : ν 5 g 0 = none) : Dr ν ρ ν1 ρ1 ν := by
  refine ⟨fun r i j => ?_, fun hc _ r i j n k q h1 h2 h3 h4 => ?_, fun _ _ _ h => h⟩
  · by_cases hn : ν r i j = none
    · exact Or.inr hn
    · exact Or.inl (h.1 r i j (h.live hU hG hn)).symm
  · rw [h.2.2 r i j k (h.live hU hG (by rw [h1]; exact fun z => by cases z))] at h4
    exact hc r i j n k q h1 h2 h3 h4
/-- class and reference say the same of what was read -/
theorem rd_cv {ι : Io} {o : Nat} {f : Nat → Int32} (hc : cS f ≤ 8) (hn : cN f ≤ 12) (hr : cR f ≤ 16) (h1 : CSo ι o f (cS f)) (h2 : CNo ι o f (cN f)) (h3 : CRo ι o f (cR f)) (m1 : MSo ι o f (cS f)) (m2 : MNo ι o f (cN f)) (m3 : MRo ι o f (cR f)) : mn ι 42 o = cS f ∧ mn ι 47 o = cN f ∧ mn ι 52 o = cR f ∧ CV ι o := by
  have e1 : mn ι 42 o = cS f := by unfold mn; rw [m1.1, nI_clamp (by omega)]
  have e2 : mn ι 47 o = cN f := by unfold mn; rw [m2.1, nI_clamp (by omega)]
  have e3 : mn ι 52 o = cR f := by unfold mn; rw [m3.1, nI_clamp (by omega)]
  refine ⟨e1, e2, e3, fun s hs => ?_, fun i hi => ?_, fun j hj => ?_⟩
  · rw [e1] at hs
    obtain ⟨a1, a2, a3, a4⟩ := h1 s hs
    obtain ⟨b1, b2, b3, b4⟩ := m1.2 s hs
    refine ⟨a1.trans b1.symm, a2.trans b2.symm, a3.trans b3.symm, fun h9 k hk => ?_⟩
    rw [b1] at h9
    have hk2 : k < cl (sZ f s) := by unfold mn at hk; rw [b3] at hk; exact hk
    exact (a4 h9 k hk2).trans (b4 h9 k hk2).symm
  · rw [e2] at hi
    obtain ⟨a1, a2, a3, a4⟩ := h2 i hi
    obtain ⟨b1, b2, b3, b4⟩ := m2.2 i hi
    exact ⟨a1.trans b1.symm, a2.trans b2.symm, a3.trans b3.symm, a4.trans b4.symm⟩
  · rw [e3] at hj
    obtain ⟨a1, a2, a3, a4, a5⟩ := h3 j hj
    obtain ⟨b1, b2, b3, b4, b5⟩ := m3.2 j hj
    exact ⟨a1.trans b1.symm, a2.trans b2.symm, a3.trans b3.symm, a4.trans b4.symm, a5.trans b5.symm⟩
theorem rd_do {ι : Io} {o T : Nat} {f : Nat → Int32} (hc : cS f ≤ 8) (hn : cN f ≤ 12) (hr : cR f ≤ 16) (hg : GOOD f T) (m1 : MSo ι o f (cS f)) (m2 : MNo ι o f (cN f)) (m3 : MRo ι o f (cR f)) : DO ι o := by
  have e1 : mn ι 42 o = cS f := by unfold mn; rw [m1.1, nI_clamp (by omega)]
  have e2 : mn ι 47 o = cN f := by unfold mn; rw [m2.1, nI_clamp (by omega)]
  have e3 : mn ι 52 o = cR f := by unfold mn; rw [m3.1, nI_clamp (by omega)]
  obtain ⟨_, _, g2, g3, _⟩ := hg
  refine ⟨fun i hi h2 h3 => ?_, fun j hj => ?_⟩
  · rw [e2] at hi
    obtain ⟨b1, b2, b3, b4⟩ := m2.2 i hi
    rw [b2] at h2 h3
    rw [e1]
    unfold mn
    rw [b3]
    rcases (g2 i hi).2.2.2 with z | z | ⟨_, _, s, hs, e, _⟩
    · exact absurd z.1 h3
    · exact absurd z.1 h2
    · rw [e, nI_clamp (by omega)]
      exact hs
  · rw [e3] at hj
    obtain ⟨b1, b2, b3, b4, b5⟩ := m3.2 j hj
    obtain ⟨⟨s, hs, e, _⟩, _, h5⟩ := (g3 j hj).2
    obtain ⟨t, ht, e9⟩ := rng_of (by omega) h5
    rw [e1, e2]
    unfold mn
    rw [b1, b4, e, e9, nI_clamp (by omega), nI_clamp (by omega)]
    exact ⟨hs, ht⟩
