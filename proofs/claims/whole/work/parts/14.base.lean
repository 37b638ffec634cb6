/-- exactly this answer, exactly this state -/
abbrev pEq (v0 : Option SV) (ν0 : Nu) (ι0 : Io) (ρ0 : Ro) (ℓ0 : Lo) : PoT := fun v ν ι ρ ℓ => v0 = v ∧ ν0 = ν ∧ ι0 = ι ∧ ρ0 = ρ ∧ ℓ0 = ℓ
def b2 (p : Prop) [Decidable p] : Int32 := if p then 1 else 0
theorem b2_t {p : Prop} [Decidable p] (h : p) : b2 p = 1 := if_pos h
theorem b2_f {p : Prop} [Decidable p] (h : ¬ p) : b2 p = 0 := if_neg h
theorem b2_nar (p : Prop) [Decidable p] : narrow .boolean (.int (b2 p)) = .int (b2 p) := by unfold b2; split <;> rfl
theorem b2_fit (p : Prop) [Decidable p] : fits .boolean (.int (b2 p)) = true := by unfold b2; split <;> rfl
theorem b2_0 {p : Prop} [Decidable p] : b2 p = 0 ↔ ¬ p := by unfold b2; split <;> simp_all
theorem b2_n0 {p : Prop} [Decidable p] : ¬ b2 p = 0 ↔ p := by unfold b2; split <;> simp_all
theorem b2_1 {p : Prop} [Decidable p] : b2 p = 1 ↔ p := by unfold b2; split <;> simp_all
theorem b2_c {p q : Prop} [Decidable p] [Decidable q] (h : p ↔ q) : b2 p = b2 q := by unfold b2; simp [h]
theorem le_of_nlt {x y : Int32} (h : ¬ x < y) : y ≤ x := Int32.not_lt.mp h
theorem lt_of_nle {x y : Int32} (h : ¬ x ≤ y) : y < x := Int32.not_le.mp h
section Pick
variable {p : Program} {l : Launch} {e : Env} {R : Room} {s : State} {m : MethodId} {args : Array Value} {below : List Frame} {meth : Method} {c : Code} {D : GD} {B : Nat} {α0 : Ad} {ν0 : Nu} {nL : Nat} {Q : State → Prop} {cells slots : Nat} {ν : Nu} {ι ι' : Io} {ρ : Ro} {ℓ : Lo} {pc : Nat} {lv lv' : List (Nat × SV)} {st : List SV}
def spick (lv : List (Nat × SV)) (ks : List Nat) : List (Nat × SV) := ks.filterMap (fun k => lv[k]?)
theorem V_pick (ks : List Nat) (h : spick lv ks = lv') (k : V p l e R s m args below meth c D B α0 ν0 nL Q cells slots ν ι ρ ℓ pc lv' st) : V p l e R s m args below meth c D B α0 ν0 nL Q cells slots ν ι ρ ℓ pc lv st := by
  intro α H locs ls hR hS hl h0 h1 h2
  have hm : ∀ q ∈ lv', q ∈ lv := by
    intro q hq
    rw [← h] at hq
    obtain ⟨k9, -, hk9⟩ := List.mem_filterMap.mp hq
    exact List.mem_of_getElem? hk9
  refine k α H locs ls hR hS ⟨hl.1, hl.2.1, fun q hq => ?_⟩ h0 (fun v hv => ?_) h2
  · obtain ⟨z, hz, rfl⟩ := List.mem_map.mp hq
    exact hl.2.2 _ (List.mem_map.mpr ⟨z, hm z hz, rfl⟩)
  · obtain ⟨z, hz, rfl⟩ := List.mem_map.mp hv
    exact h1 _ (List.mem_map.mpr ⟨z, hm z hz, rfl⟩)
theorem V_io (h : ι = ι') (k : V p l e R s m args below meth c D B α0 ν0 nL Q cells slots ν ι' ρ ℓ pc lv st) : V p l e R s m args below meth c D B α0 ν0 nL Q cells slots ν ι ρ ℓ pc lv st := h ▸ k
end Pick
theorem up4_ne {β : Type} {f : Nat → Nat → Nat → Nat → β} {r i j k a b d q : Nat} {x : β} (h : ¬ (a = r ∧ b = i ∧ d = j ∧ q = k)) : up4 f r i j k x a b d q = f a b d q := if_neg h
theorem nI_lt' {a b : Nat} (hb : b < 2147483648) (ha : a < 2147483648) : ¬ nI b ≤ nI a ↔ a < b := by rw [nI_leI hb ha]; omega
theorem nI_ge' {a b : Nat} (hb : b < 2147483648) (ha : a < 2147483648) : nI b ≤ nI a ↔ b ≤ a := nI_leI hb ha
/-- the reference is there, with its arrays -/
def MoS (ν : Nu) (ρ : Ro) : Prop := ν 10 0 0 = some 42 ∧ (ρ 10 0 0 2 = some (42, 0, 0) ∧ ν 42 0 0 = some 13) ∧ (ρ 10 0 0 3 = some (43, 0, 0) ∧ ν 43 0 0 = some 104) ∧ (ρ 10 0 0 4 = some (44, 0, 0) ∧ ν 44 0 0 = some 104) ∧ (ρ 10 0 0 5 = some (45, 0, 0) ∧ ν 45 0 0 = some 104) ∧ (ρ 10 0 0 6 = some (46, 0, 0) ∧ ν 46 0 0 = some 13312) ∧ (ρ 10 0 0 7 = some (47, 0, 0) ∧ ν 47 0 0 = some 13) ∧ (ρ 10 0 0 8 = some (48, 0, 0) ∧ ν 48 0 0 = some 156) ∧ (ρ 10 0 0 9 = some (49, 0, 0) ∧ ν 49 0 0 = some 156) ∧ (ρ 10 0 0 10 = some (50, 0, 0) ∧ ν 50 0 0 = some 156) ∧ (ρ 10 0 0 11 = some (51, 0, 0) ∧ ν 51 0 0 = some 156) ∧ (ρ 10 0 0 12 = some (52, 0, 0) ∧ ν 52 0 0 = some 13) ∧ (ρ 10 0 0 13 = some (53, 0, 0) ∧ ν 53 0 0 = some 208) ∧ (ρ 10 0 0 14 = some (54, 0, 0) ∧ ν 54 0 0 = some 208) ∧ (ρ 10 0 0 15 = some (55, 0, 0) ∧ ν 55 0 0 = some 208) ∧ (ρ 10 0 0 16 = some (56, 0, 0) ∧ ν 56 0 0 = some 208) ∧ (ρ 10 0 0 17 = some (57, 0, 0) ∧ ν 57 0 0 = some 208) ∧ (ρ 10 0 0 19 = some (59, 0, 0) ∧ ν 59 0 0 = some 12) ∧ (ρ 10 0 0 21 = some (61, 0, 0) ∧ ν 61 0 0 = some 96) ∧ (ρ 10 0 0 22 = some (62, 0, 0) ∧ ν 62 0 0 = some 144) ∧ (ρ 10 0 0 23 = some (63, 0, 0) ∧ ν 63 0 0 = some 144) ∧ (ρ 10 0 0 24 = some (64, 0, 0) ∧ ν 64 0 0 = some 96) ∧ (ρ 10 0 0 33 = some (73, 0, 0) ∧ ν 73 0 0 = some 4096) ∧ (ρ 10 0 0 35 = some (75, 0, 0) ∧ ν 75 0 0 = some 144) ∧ (ρ 10 0 0 36 = some (76, 0, 0) ∧ ν 76 0 0 = some 144) ∧ (ρ 10 0 0 38 = some (78, 0, 0) ∧ ν 78 0 0 = some 1400)
theorem MoS.al {ν : Nu} {ρ : Ro} (h : MoS ν ρ) : ν 10 0 0 ≠ none := by rw [h.1]; exact fun z => by cases z
theorem MoS.r2 {ν : Nu} {ρ : Ro} (h : MoS ν ρ) : ρ 10 0 0 2 = some (42, 0, 0) := h.2.1.1
theorem MoS.n2 {ν : Nu} {ρ : Ro} (h : MoS ν ρ) : ν 42 0 0 = some 13 := h.2.1.2
theorem MoS.r3 {ν : Nu} {ρ : Ro} (h : MoS ν ρ) : ρ 10 0 0 3 = some (43, 0, 0) := h.2.2.1.1
theorem MoS.n3 {ν : Nu} {ρ : Ro} (h : MoS ν ρ) : ν 43 0 0 = some 104 := h.2.2.1.2
theorem MoS.r4 {ν : Nu} {ρ : Ro} (h : MoS ν ρ) : ρ 10 0 0 4 = some (44, 0, 0) := h.2.2.2.1.1
theorem MoS.n4 {ν : Nu} {ρ : Ro} (h : MoS ν ρ) : ν 44 0 0 = some 104 := h.2.2.2.1.2
theorem MoS.r5 {ν : Nu} {ρ : Ro} (h : MoS ν ρ) : ρ 10 0 0 5 = some (45, 0, 0) := h.2.2.2.2.1.1
theorem MoS.n5 {ν : Nu} {ρ : Ro} (h : MoS ν ρ) : ν 45 0 0 = some 104 := h.2.2.2.2.1.2
theorem MoS.r6 {ν : Nu} {ρ : Ro} (h : MoS ν ρ) : ρ 10 0 0 6 = some (46, 0, 0) := h.2.2.2.2.2.1.1
theorem MoS.n6 {ν : Nu} {ρ : Ro} (h : MoS ν ρ) : ν 46 0 0 = some 13312 := h.2.2.2.2.2.1.2
theorem MoS.r7 {ν : Nu} {ρ : Ro} (h : MoS ν ρ) : ρ 10 0 0 7 = some (47, 0, 0) := h.2.2.2.2.2.2.1.1
theorem MoS.n7 {ν : Nu} {ρ : Ro} (h : MoS ν ρ) : ν 47 0 0 = some 13 := h.2.2.2.2.2.2.1.2
theorem MoS.r8 {ν : Nu} {ρ : Ro} (h : MoS ν ρ) : ρ 10 0 0 8 = some (48, 0, 0) := h.2.2.2.2.2.2.2.1.1
theorem MoS.n8 {ν : Nu} {ρ : Ro} (h : MoS ν ρ) : ν 48 0 0 = some 156 := h.2.2.2.2.2.2.2.1.2
theorem MoS.r9 {ν : Nu} {ρ : Ro} (h : MoS ν ρ) : ρ 10 0 0 9 = some (49, 0, 0) := h.2.2.2.2.2.2.2.2.1.1
theorem MoS.n9 {ν : Nu} {ρ : Ro} (h : MoS ν ρ) : ν 49 0 0 = some 156 := h.2.2.2.2.2.2.2.2.1.2
theorem MoS.r10 {ν : Nu} {ρ : Ro} (h : MoS ν ρ) : ρ 10 0 0 10 = some (50, 0, 0) := h.2.2.2.2.2.2.2.2.2.1.1
theorem MoS.n10 {ν : Nu} {ρ : Ro} (h : MoS ν ρ) : ν 50 0 0 = some 156 := h.2.2.2.2.2.2.2.2.2.1.2
theorem MoS.r11 {ν : Nu} {ρ : Ro} (h : MoS ν ρ) : ρ 10 0 0 11 = some (51, 0, 0) := h.2.2.2.2.2.2.2.2.2.2.1.1
theorem MoS.n11 {ν : Nu} {ρ : Ro} (h : MoS ν ρ) : ν 51 0 0 = some 156 := h.2.2.2.2.2.2.2.2.2.2.1.2
theorem MoS.r12 {ν : Nu} {ρ : Ro} (h : MoS ν ρ) : ρ 10 0 0 12 = some (52, 0, 0) := h.2.2.2.2.2.2.2.2.2.2.2.1.1
theorem MoS.n12 {ν : Nu} {ρ : Ro} (h : MoS ν ρ) : ν 52 0 0 = some 13 := h.2.2.2.2.2.2.2.2.2.2.2.1.2
theorem MoS.r13 {ν : Nu} {ρ : Ro} (h : MoS ν ρ) : ρ 10 0 0 13 = some (53, 0, 0) := h.2.2.2.2.2.2.2.2.2.2.2.2.1.1
theorem MoS.n13 {ν : Nu} {ρ : Ro} (h : MoS ν ρ) : ν 53 0 0 = some 208 := h.2.2.2.2.2.2.2.2.2.2.2.2.1.2
theorem MoS.r14 {ν : Nu} {ρ : Ro} (h : MoS ν ρ) : ρ 10 0 0 14 = some (54, 0, 0) := h.2.2.2.2.2.2.2.2.2.2.2.2.2.1.1
theorem MoS.n14 {ν : Nu} {ρ : Ro} (h : MoS ν ρ) : ν 54 0 0 = some 208 := h.2.2.2.2.2.2.2.2.2.2.2.2.2.1.2
theorem MoS.r15 {ν : Nu} {ρ : Ro} (h : MoS ν ρ) : ρ 10 0 0 15 = some (55, 0, 0) := h.2.2.2.2.2.2.2.2.2.2.2.2.2.2.1.1
theorem MoS.n15 {ν : Nu} {ρ : Ro} (h : MoS ν ρ) : ν 55 0 0 = some 208 := h.2.2.2.2.2.2.2.2.2.2.2.2.2.2.1.2
theorem MoS.r16 {ν : Nu} {ρ : Ro} (h : MoS ν ρ) : ρ 10 0 0 16 = some (56, 0, 0) := h.2.2.2.2.2.2.2.2.2.2.2.2.2.2.2.1.1
theorem MoS.n16 {ν : Nu} {ρ : Ro} (h : MoS ν ρ) : ν 56 0 0 = some 208 := h.2.2.2.2.2.2.2.2.2.2.2.2.2.2.2.1.2
theorem MoS.r17 {ν : Nu} {ρ : Ro} (h : MoS ν ρ) : ρ 10 0 0 17 = some (57, 0, 0) := h.2.2.2.2.2.2.2.2.2.2.2.2.2.2.2.2.1.1
theorem MoS.n17 {ν : Nu} {ρ : Ro} (h : MoS ν ρ) : ν 57 0 0 = some 208 := h.2.2.2.2.2.2.2.2.2.2.2.2.2.2.2.2.1.2
theorem MoS.r19 {ν : Nu} {ρ : Ro} (h : MoS ν ρ) : ρ 10 0 0 19 = some (59, 0, 0) := h.2.2.2.2.2.2.2.2.2.2.2.2.2.2.2.2.2.1.1
theorem MoS.n19 {ν : Nu} {ρ : Ro} (h : MoS ν ρ) : ν 59 0 0 = some 12 := h.2.2.2.2.2.2.2.2.2.2.2.2.2.2.2.2.2.1.2
theorem MoS.r21 {ν : Nu} {ρ : Ro} (h : MoS ν ρ) : ρ 10 0 0 21 = some (61, 0, 0) := h.2.2.2.2.2.2.2.2.2.2.2.2.2.2.2.2.2.2.1.1
theorem MoS.n21 {ν : Nu} {ρ : Ro} (h : MoS ν ρ) : ν 61 0 0 = some 96 := h.2.2.2.2.2.2.2.2.2.2.2.2.2.2.2.2.2.2.1.2
theorem MoS.r22 {ν : Nu} {ρ : Ro} (h : MoS ν ρ) : ρ 10 0 0 22 = some (62, 0, 0) := h.2.2.2.2.2.2.2.2.2.2.2.2.2.2.2.2.2.2.2.1.1
theorem MoS.n22 {ν : Nu} {ρ : Ro} (h : MoS ν ρ) : ν 62 0 0 = some 144 := h.2.2.2.2.2.2.2.2.2.2.2.2.2.2.2.2.2.2.2.1.2
theorem MoS.r23 {ν : Nu} {ρ : Ro} (h : MoS ν ρ) : ρ 10 0 0 23 = some (63, 0, 0) := h.2.2.2.2.2.2.2.2.2.2.2.2.2.2.2.2.2.2.2.2.1.1
theorem MoS.n23 {ν : Nu} {ρ : Ro} (h : MoS ν ρ) : ν 63 0 0 = some 144 := h.2.2.2.2.2.2.2.2.2.2.2.2.2.2.2.2.2.2.2.2.1.2
theorem MoS.r24 {ν : Nu} {ρ : Ro} (h : MoS ν ρ) : ρ 10 0 0 24 = some (64, 0, 0) := h.2.2.2.2.2.2.2.2.2.2.2.2.2.2.2.2.2.2.2.2.2.1.1
theorem MoS.n24 {ν : Nu} {ρ : Ro} (h : MoS ν ρ) : ν 64 0 0 = some 96 := h.2.2.2.2.2.2.2.2.2.2.2.2.2.2.2.2.2.2.2.2.2.1.2
theorem MoS.r33 {ν : Nu} {ρ : Ro} (h : MoS ν ρ) : ρ 10 0 0 33 = some (73, 0, 0) := h.2.2.2.2.2.2.2.2.2.2.2.2.2.2.2.2.2.2.2.2.2.2.1.1
theorem MoS.n33 {ν : Nu} {ρ : Ro} (h : MoS ν ρ) : ν 73 0 0 = some 4096 := h.2.2.2.2.2.2.2.2.2.2.2.2.2.2.2.2.2.2.2.2.2.2.1.2
theorem MoS.r35 {ν : Nu} {ρ : Ro} (h : MoS ν ρ) : ρ 10 0 0 35 = some (75, 0, 0) := h.2.2.2.2.2.2.2.2.2.2.2.2.2.2.2.2.2.2.2.2.2.2.2.1.1
theorem MoS.n35 {ν : Nu} {ρ : Ro} (h : MoS ν ρ) : ν 75 0 0 = some 144 := h.2.2.2.2.2.2.2.2.2.2.2.2.2.2.2.2.2.2.2.2.2.2.2.1.2
theorem MoS.r36 {ν : Nu} {ρ : Ro} (h : MoS ν ρ) : ρ 10 0 0 36 = some (76, 0, 0) := h.2.2.2.2.2.2.2.2.2.2.2.2.2.2.2.2.2.2.2.2.2.2.2.2.1.1
theorem MoS.n36 {ν : Nu} {ρ : Ro} (h : MoS ν ρ) : ν 76 0 0 = some 144 := h.2.2.2.2.2.2.2.2.2.2.2.2.2.2.2.2.2.2.2.2.2.2.2.2.1.2
theorem MoS.r38 {ν : Nu} {ρ : Ro} (h : MoS ν ρ) : ρ 10 0 0 38 = some (78, 0, 0) := h.2.2.2.2.2.2.2.2.2.2.2.2.2.2.2.2.2.2.2.2.2.2.2.2.2.1
theorem MoS.n38 {ν : Nu} {ρ : Ro} (h : MoS ν ρ) : ν 78 0 0 = some 1400 := h.2.2.2.2.2.2.2.2.2.2.2.2.2.2.2.2.2.2.2.2.2.2.2.2.2.2
/-- an array's (or a field's) numbers are small naturals -/
def bd (ι : Io) (r N M : Nat) : Prop := ∀ t, t < N → ∃ a, a ≤ M ∧ ι r 0 0 t = nI a
def mn (ι : Io) (r t : Nat) : Nat := (ι r 0 0 t).toNatClampNeg
theorem bd.eq {ι : Io} {r N M t : Nat} (h : bd ι r N M) (ht : t < N) (hM : M < 2147483648 := by decide) : ι r 0 0 t = nI (mn ι r t) := by
  obtain ⟨a, h1, h2⟩ := h t ht
  unfold mn
  rw [h2, nI_clamp (by omega)]
theorem bd.le {ι : Io} {r N M t : Nat} (h : bd ι r N M) (ht : t < N) (hM : M < 2147483648 := by decide) : mn ι r t ≤ M := by
  obtain ⟨a, h1, h2⟩ := h t ht
  unfold mn
  rw [h2, nI_clamp (by omega)]
  exact h1
theorem ixa (c a b : Nat) : nI c * nI a + nI b = nI (c * a + b) := by rw [pk_mul, nI_add]
/-- n places from a on of the array r become x -/
def fil (ι : Io) (r a n : Nat) (x : Int32) : Io := fun r' i j k => if r' = r ∧ i = 0 ∧ j = 0 ∧ a ≤ k ∧ k < a + n then x else ι r' i j k
theorem fil_0 {ι : Io} {r a : Nat} {x : Int32} : fil ι r a 0 x = ι := by
  funext r' i j k
  unfold fil
  exact if_neg (by omega)
theorem fil_s {ι : Io} {r a n : Nat} {x : Int32} : up4 (fil ι r a n x) r 0 0 (a + n) x = fil ι r a (n + 1) x := by
  funext r' i j k
  unfold up4 fil
  grind
