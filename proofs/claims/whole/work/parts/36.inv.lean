def OS (ν : Nu) (ρ : Ro) : Prop := (ν 9 0 0 = some 4) ∧ (ρ 9 0 0 0 = some (20, 0, 0)) ∧ (ν 20 0 0 = some 12) ∧ (ρ 9 0 0 2 = some (0, 0, 0)) ∧ (ρ 9 0 0 3 = some (4, 0, 0)) ∧ (ν 0 0 0 = some 18) ∧ (ρ 0 0 0 0 = some (26, 0, 0)) ∧ (ν 26 0 0 = some 12) ∧ (ρ 0 0 0 1 = some (27, 0, 0)) ∧ (ν 27 0 0 = some 12) ∧ (ρ 0 0 0 3 = some (3, 0, 0)) ∧ (ρ 0 0 0 4 = some (28, 0, 0)) ∧ (ν 28 0 0 = some 96) ∧ (ρ 0 0 0 5 = some (29, 0, 0)) ∧ (ν 29 0 0 = some 96) ∧ (ρ 0 0 0 7 = some (30, 0, 0)) ∧ (ν 30 0 0 = some 96) ∧ (ρ 0 0 0 10 = some (31, 0, 0)) ∧ (ν 31 0 0 = some 4096) ∧ (ν 3 0 0 = some 5) ∧ (ρ 3 0 0 0 = some (32, 0, 0)) ∧ (ν 32 0 0 = some 144) ∧ (ρ 3 0 0 2 = some (33, 0, 0)) ∧ (ν 33 0 0 = some 144) ∧ (ρ 3 0 0 3 = some (34, 0, 0)) ∧ (ν 34 0 0 = some 144) ∧ (∀ k, k < 144 → ν 1 k 0 = some 8 ∧ ρ 32 0 0 k = some (1, k, 0)) ∧ (ν 4 0 0 = some 2) ∧ (ρ 4 0 0 0 = some (25, 0, 0)) ∧ (ν 25 0 0 = some 1303)
theorem OS.n9 {ν : Nu} {ρ : Ro} (h : OS ν ρ) : ν 9 0 0 = some 4 := h.1
theorem OS.r90 {ν : Nu} {ρ : Ro} (h : OS ν ρ) : ρ 9 0 0 0 = some (20, 0, 0) := h.2.1
theorem OS.n20 {ν : Nu} {ρ : Ro} (h : OS ν ρ) : ν 20 0 0 = some 12 := h.2.2.1
theorem OS.r92 {ν : Nu} {ρ : Ro} (h : OS ν ρ) : ρ 9 0 0 2 = some (0, 0, 0) := h.2.2.2.1
theorem OS.r93 {ν : Nu} {ρ : Ro} (h : OS ν ρ) : ρ 9 0 0 3 = some (4, 0, 0) := h.2.2.2.2.1
theorem OS.n0 {ν : Nu} {ρ : Ro} (h : OS ν ρ) : ν 0 0 0 = some 18 := h.2.2.2.2.2.1
theorem OS.r00 {ν : Nu} {ρ : Ro} (h : OS ν ρ) : ρ 0 0 0 0 = some (26, 0, 0) := h.2.2.2.2.2.2.1
theorem OS.n26 {ν : Nu} {ρ : Ro} (h : OS ν ρ) : ν 26 0 0 = some 12 := h.2.2.2.2.2.2.2.1
theorem OS.r01 {ν : Nu} {ρ : Ro} (h : OS ν ρ) : ρ 0 0 0 1 = some (27, 0, 0) := h.2.2.2.2.2.2.2.2.1
theorem OS.n27 {ν : Nu} {ρ : Ro} (h : OS ν ρ) : ν 27 0 0 = some 12 := h.2.2.2.2.2.2.2.2.2.1
theorem OS.r03 {ν : Nu} {ρ : Ro} (h : OS ν ρ) : ρ 0 0 0 3 = some (3, 0, 0) := h.2.2.2.2.2.2.2.2.2.2.1
theorem OS.r04 {ν : Nu} {ρ : Ro} (h : OS ν ρ) : ρ 0 0 0 4 = some (28, 0, 0) := h.2.2.2.2.2.2.2.2.2.2.2.1
theorem OS.n28 {ν : Nu} {ρ : Ro} (h : OS ν ρ) : ν 28 0 0 = some 96 := h.2.2.2.2.2.2.2.2.2.2.2.2.1
theorem OS.r05 {ν : Nu} {ρ : Ro} (h : OS ν ρ) : ρ 0 0 0 5 = some (29, 0, 0) := h.2.2.2.2.2.2.2.2.2.2.2.2.2.1
theorem OS.n29 {ν : Nu} {ρ : Ro} (h : OS ν ρ) : ν 29 0 0 = some 96 := h.2.2.2.2.2.2.2.2.2.2.2.2.2.2.1
theorem OS.r07 {ν : Nu} {ρ : Ro} (h : OS ν ρ) : ρ 0 0 0 7 = some (30, 0, 0) := h.2.2.2.2.2.2.2.2.2.2.2.2.2.2.2.1
theorem OS.n30 {ν : Nu} {ρ : Ro} (h : OS ν ρ) : ν 30 0 0 = some 96 := h.2.2.2.2.2.2.2.2.2.2.2.2.2.2.2.2.1
theorem OS.r010 {ν : Nu} {ρ : Ro} (h : OS ν ρ) : ρ 0 0 0 10 = some (31, 0, 0) := h.2.2.2.2.2.2.2.2.2.2.2.2.2.2.2.2.2.1
theorem OS.n31 {ν : Nu} {ρ : Ro} (h : OS ν ρ) : ν 31 0 0 = some 4096 := h.2.2.2.2.2.2.2.2.2.2.2.2.2.2.2.2.2.2.1
theorem OS.n3 {ν : Nu} {ρ : Ro} (h : OS ν ρ) : ν 3 0 0 = some 5 := h.2.2.2.2.2.2.2.2.2.2.2.2.2.2.2.2.2.2.2.1
theorem OS.r30 {ν : Nu} {ρ : Ro} (h : OS ν ρ) : ρ 3 0 0 0 = some (32, 0, 0) := h.2.2.2.2.2.2.2.2.2.2.2.2.2.2.2.2.2.2.2.2.1
theorem OS.n32 {ν : Nu} {ρ : Ro} (h : OS ν ρ) : ν 32 0 0 = some 144 := h.2.2.2.2.2.2.2.2.2.2.2.2.2.2.2.2.2.2.2.2.2.1
theorem OS.r32 {ν : Nu} {ρ : Ro} (h : OS ν ρ) : ρ 3 0 0 2 = some (33, 0, 0) := h.2.2.2.2.2.2.2.2.2.2.2.2.2.2.2.2.2.2.2.2.2.2.1
theorem OS.n33 {ν : Nu} {ρ : Ro} (h : OS ν ρ) : ν 33 0 0 = some 144 := h.2.2.2.2.2.2.2.2.2.2.2.2.2.2.2.2.2.2.2.2.2.2.2.1
theorem OS.r33 {ν : Nu} {ρ : Ro} (h : OS ν ρ) : ρ 3 0 0 3 = some (34, 0, 0) := h.2.2.2.2.2.2.2.2.2.2.2.2.2.2.2.2.2.2.2.2.2.2.2.2.1
theorem OS.n34 {ν : Nu} {ρ : Ro} (h : OS ν ρ) : ν 34 0 0 = some 144 := h.2.2.2.2.2.2.2.2.2.2.2.2.2.2.2.2.2.2.2.2.2.2.2.2.2.1
theorem OS.me {ν : Nu} {ρ : Ro} (h : OS ν ρ) : ∀ k, k < 144 → ν 1 k 0 = some 8 ∧ ρ 32 0 0 k = some (1, k, 0) := h.2.2.2.2.2.2.2.2.2.2.2.2.2.2.2.2.2.2.2.2.2.2.2.2.2.2.1
theorem OS.n4 {ν : Nu} {ρ : Ro} (h : OS ν ρ) : ν 4 0 0 = some 2 := h.2.2.2.2.2.2.2.2.2.2.2.2.2.2.2.2.2.2.2.2.2.2.2.2.2.2.2.1
theorem OS.r40 {ν : Nu} {ρ : Ro} (h : OS ν ρ) : ρ 4 0 0 0 = some (25, 0, 0) := h.2.2.2.2.2.2.2.2.2.2.2.2.2.2.2.2.2.2.2.2.2.2.2.2.2.2.2.2.1
theorem OS.n25 {ν : Nu} {ρ : Ro} (h : OS ν ρ) : ν 25 0 0 = some 1303 := h.2.2.2.2.2.2.2.2.2.2.2.2.2.2.2.2.2.2.2.2.2.2.2.2.2.2.2.2.2
def CVs (ι : Io) (o s : Nat) : Prop := ι 7 o s 0 = ι 43 0 0 (8 * o + s) ∧ ι 7 o s 1 = ι 44 0 0 (8 * o + s) ∧ ι 7 o s 2 = ι 45 0 0 (8 * o + s) ∧ (¬ ι 43 0 0 (8 * o + s) = 3 → ∀ k, k < mn ι 45 (8 * o + s) → ι 24 o s k = ι 46 0 0 (128 * (8 * o + s) + k))
def CVn (ι : Io) (o i : Nat) : Prop := ι 2 o i 0 = ι 48 0 0 (12 * o + i) ∧ ι 2 o i 1 = ι 49 0 0 (12 * o + i) ∧ ι 2 o i 2 = ι 50 0 0 (12 * o + i) ∧ ι 2 o i 3 = ι 51 0 0 (12 * o + i)
def CVr (ι : Io) (o j : Nat) : Prop := ι 6 o j 0 = ι 53 0 0 (16 * o + j) ∧ ι 6 o j 1 = ι 54 0 0 (16 * o + j) ∧ ι 6 o j 2 = ι 55 0 0 (16 * o + j) ∧ ι 6 o j 3 = ι 56 0 0 (16 * o + j) ∧ ι 6 o j 4 = ι 57 0 0 (16 * o + j)
/-- the unit o says what the reference's object o says -/
def CV (ι : Io) (o : Nat) : Prop := (∀ s, s < mn ι 42 o → CVs ι o s) ∧ (∀ i, i < mn ι 47 o → CVn ι o i) ∧ (∀ j, j < mn ι 52 o → CVr ι o j)
def DO (ι : Io) (o : Nat) : Prop := (∀ i, i < mn ι 47 o → ι 49 0 0 (12 * o + i) ≠ 2 → ι 49 0 0 (12 * o + i) ≠ 3 → mn ι 50 (12 * o + i) < mn ι 42 o) ∧ (∀ j, j < mn ι 52 o → mn ι 53 (16 * o + j) < mn ι 42 o ∧ mn ι 56 (16 * o + j) < mn ι 47 o)
def FU (ν : Nu) (o : Nat) : Prop := ν 8 o 0 = none ∧ ν 21 o 0 = none ∧ ν 22 o 0 = none ∧ ν 23 o 0 = none ∧ ∀ s, ν 7 o s = none ∧ ν 24 o s = none ∧ ν 2 o s = none ∧ ν 6 o s = none
def BM (ι : Io) : Prop := BD ι ∧ bd ι 78 1400 255 ∧ bd ι 59 12 11
abbrev UM (ν : Nu) (ι : Io) (ρ : Ro) (o : Nat) : Prop := UI ν ι ρ o (mn ι 42 o) (mn ι 47 o) (mn ι 52 o)
def IU (ν : Nu) (ι : Io) (ρ : Ro) (N : Nat) : Prop := ι 9 0 0 1 = nI N ∧ ι 10 0 0 1 = nI N ∧ N ≤ 12 ∧ (∀ o, o < N → ρ 20 0 0 o = some (8, o, 0) ∧ UM ν ι ρ o ∧ CV ι o ∧ DO ι o) ∧ (∀ o, N ≤ o → FU ν o)
def IC (ι : Io) (ρ : Ro) (N c : Nat) : Prop := ι 0 0 0 2 = nI c ∧ ι 10 0 0 18 = nI c ∧ c ≤ 12 ∧ (∀ k, k < c → ι 27 0 0 k = ι 59 0 0 k ∧ mn ι 59 k < N ∧ ρ 26 0 0 (mn ι 59 k) = some (8, mn ι 59 k, 0)) ∧ (∀ k k', k < c → k' < c → mn ι 59 k = mn ι 59 k' → k = k')
def IO (ι : Io) (w : Nat) : Prop := ι 4 0 0 1 = nI w ∧ ι 10 0 0 37 = nI w ∧ w ≤ 1303 ∧ (∀ k, k < w → ι 25 0 0 k = ι 78 0 0 k)
def IF (ι : Io) : Prop := ι 0 0 0 15 = ι 10 0 0 25 ∧ ι 0 0 0 16 = ι 10 0 0 26 ∧ ι 0 0 0 17 = ι 10 0 0 27
def IG (ι : Io) (n : Nat) : Prop := ι 0 0 0 11 = nI n ∧ ι 10 0 0 29 = nI n ∧ n ≤ 4096 ∧ ι 0 0 0 12 = ι 10 0 0 30 ∧ ι 0 0 0 13 = ι 10 0 0 32 ∧ ι 0 0 0 14 = ι 10 0 0 31 ∧ (∀ k, k < n → ι 31 0 0 k = ι 73 0 0 k)
def plC (ι : Io) (s : Nat) : Int32 := if ι 0 0 0 8 ≠ 0 ∧ ι 28 0 0 s ≠ 0 then ι 30 0 0 s - ι 0 0 0 9 else -1
def plM (ι : Io) (s : Nat) : Int32 := if ι 64 0 0 s < 0 then -1 else ι 64 0 0 s - ι 10 0 0 20
def IP (ι : Io) : Prop := ∀ s, s < 96 → plC ι s = plM ι s
def adC (ι : Io) (k : Nat) : Int32 := if ι 1 k 0 1 = 3 then -1 else if ι 1 k 0 1 = 2 then ι 1 k 0 7 else (if ι 28 0 0 (cl (ι 1 k 0 2)) = 0 then -1 else ι 30 0 0 (cl (ι 1 k 0 2)) + ι 1 k 0 3)
def naC (ι : Io) (x : Int32) (z : Nat) : Int32 := if ι 0 0 0 8 = 0 then -1 else match (List.range z).find? (fun k => ι 1 k 0 0 == x) with
  | some k => adC ι k
  | none => -1
def IN (ι : Io) (z kn : Nat) : Prop := ι 3 0 0 1 = nI z ∧ z ≤ 144 ∧ (∀ k, k < z → ι 1 k 0 1 = 3 ∨ ι 1 k 0 1 = 2 ∨ ∃ s, s < 96 ∧ ι 1 k 0 2 = nI s) ∧ ι 10 0 0 34 = nI kn ∧ kn ≤ 144 ∧ (∀ x, naC ι x z = naM ι x kn)
def IR (ν : Nu) (g : Nat) : Prop := ∀ g', g ≤ g' → ν 5 g' 0 = none
def IV (ν : Nu) (ι : Io) (ρ : Ro) (N c w n z kn g : Nat) : Prop := OS ν ρ ∧ MoS ν ρ ∧ BM ι ∧ IU ν ι ρ N ∧ IC ι ρ N c ∧ IO ι w ∧ IF ι ∧ IG ι n ∧ IP ι ∧ IN ι z kn ∧ IR ν g
section Iv
variable {ν : Nu} {ι : Io} {ρ : Ro} {N c w n z kn g : Nat}
theorem IV.os (h : IV ν ι ρ N c w n z kn g) : OS ν ρ := h.1
theorem IV.mo (h : IV ν ι ρ N c w n z kn g) : MoS ν ρ := h.2.1
theorem IV.bm (h : IV ν ι ρ N c w n z kn g) : BM ι := h.2.2.1
theorem IV.iu (h : IV ν ι ρ N c w n z kn g) : IU ν ι ρ N := h.2.2.2.1
theorem IV.ic (h : IV ν ι ρ N c w n z kn g) : IC ι ρ N c := h.2.2.2.2.1
theorem IV.io (h : IV ν ι ρ N c w n z kn g) : IO ι w := h.2.2.2.2.2.1
theorem IV.jf (h : IV ν ι ρ N c w n z kn g) : IF ι := h.2.2.2.2.2.2.1
theorem IV.ig (h : IV ν ι ρ N c w n z kn g) : IG ι n := h.2.2.2.2.2.2.2.1
theorem IV.ip (h : IV ν ι ρ N c w n z kn g) : IP ι := h.2.2.2.2.2.2.2.2.1
theorem IV.jn (h : IV ν ι ρ N c w n z kn g) : IN ι z kn := h.2.2.2.2.2.2.2.2.2.1
theorem IV.ir (h : IV ν ι ρ N c w n z kn g) : IR ν g := h.2.2.2.2.2.2.2.2.2.2
theorem IV.bd (h : IV ν ι ρ N c w n z kn g) : BD ι := h.bm.1
theorem IV.t0 {x : Int32} (h : IV ν ι ρ N c w n z kn g) : IV ν (up4 ι 10 0 0 0 x) ρ N c w n z kn g := h
theorem IV.N12 (h : IV ν ι ρ N c w n z kn g) : N ≤ 12 := h.iu.2.2.1
theorem IV.ob (h : IV ν ι ρ N c w n z kn g) {o : Nat} (ho : o < N) : ρ 20 0 0 o = some (8, o, 0) := (h.iu.2.2.2.1 o ho).1
theorem IV.um (h : IV ν ι ρ N c w n z kn g) {o : Nat} (ho : o < N) : UM ν ι ρ o := (h.iu.2.2.2.1 o ho).2.1
theorem IV.cv (h : IV ν ι ρ N c w n z kn g) {o : Nat} (ho : o < N) : CV ι o := (h.iu.2.2.2.1 o ho).2.2.1
theorem IV.dd (h : IV ν ι ρ N c w n z kn g) {o : Nat} (ho : o < N) : DO ι o := (h.iu.2.2.2.1 o ho).2.2.2
end Iv
def INV (ν : Nu) (ι : Io) (ρ : Ro) : Prop := ∃ N c w n z kn g, IV ν ι ρ N c w n z kn g
/-- refs of live cells lead to live cells -/
def Clo (ν : Nu) (ρ : Ro) : Prop := ∀ r i j n k q, ν r i j = some n → k < n → kd (slt r k) = 1 → ρ r i j k = some q → alv ν q
/-- νd is what is left of ν2 when garbage is forgotten -/
def Dr (ν0 : Nu) (ρ0 : Ro) (ν2 : Nu) (ρ2 : Ro) (νd : Nu) : Prop := (∀ r i j, νd r i j = ν2 r i j ∨ νd r i j = none) ∧ (Clo ν0 ρ0 → Clo ν2 ρ2 → Clo νd ρ2) ∧ (∀ r i j, ν0 r i j ≠ none → νd r i j ≠ none)
def gm (ν0 ν2 : Nu) : Prop := ∀ r i j, ν0 r i j ≠ none → ν2 r i j ≠ none
theorem Dr.rf {ν0 : Nu} {ρ0 : Ro} {ν2 : Nu} {ρ2 : Ro} (h : gm ν0 ν2) : Dr ν0 ρ0 ν2 ρ2 ν2 := ⟨fun _ _ _ => Or.inl rfl, fun _ h => h, h⟩
theorem gm.rf {ν : Nu} : gm ν ν := fun _ _ _ h => h
theorem gm.up {ν0 ν : Nu} {r i j n : Nat} (h : gm ν0 ν) : gm ν0 (up3 ν r i j (some n)) := by
  intro a b d hh
  unfold up3
  split
  · exact fun z => by cases z
  · exact h a b d hh
def MP (k b : Int32) (ν0 : Nu) (ρ0 : Ro) (ℓ9 : Lo) : PoT := fun v ν2 ι2 ρ2 ℓ2 => ℓ2 = ℓ9 ∧ (∃ b', v = some (sI b') ∧ (k = 0 → b' = b)) ∧ ι2 10 0 0 0 = k ∧ ∃ νd, INV νd ι2 ρ2 ∧ Dr ν0 ρ0 ν2 ρ2 νd
def MC (y : MethodName) (ws : List Cond) (rm : Room) (as : List SV) (k b : Int32) (ν0 : Nu) (ρ0 : Ro) (ν1 : Nu) (ι1 : Io) (ρ1 : Ro) : Prop := ∀ ℓ9, ∃ Po2, Ct y ws rm as ν1 ι1 ρ1 ℓ9 Po2 noX ∧ ∀ v ν2 ι2 ρ2 ℓ2, Po2 v ν2 ι2 ρ2 ℓ2 → MP k b ν0 ρ0 ℓ9 v ν2 ι2 ρ2 ℓ2 ∧ ν2 = ν1
theorem MC.eq {y : MethodName} {ws : List Cond} {rm : Room} {as : List SV} {k b b' : Int32} {ν0 : Nu} {ρ0 : Ro} {ν1 : Nu} {ι1 ι2 : Io} {ρ1 : Ro} (h : ∀ ℓ9, Ct y ws rm as ν1 ι1 ρ1 ℓ9 (pEq (some (sI b')) ν1 ι2 ρ1 ℓ9) noX) (hb : k = 0 → b' = b) (ht : ι2 10 0 0 0 = k) (hg : gm ν0 ν1) (hI : INV ν1 ι2 ρ1) : MC y ws rm as k b ν0 ρ0 ν1 ι1 ρ1 :=
  fun ℓ9 => ⟨_, h ℓ9, by rintro _ _ _ _ _ ⟨rfl, rfl, rfl, rfl, rfl⟩; exact ⟨⟨rfl, ⟨b', rfl, hb⟩, ht, ν1, hI, Dr.rf hg⟩, rfl⟩⟩
/-- the cells of the unit o -/
def isU (r : Nat) : Prop := r = 2 ∨ r = 6 ∨ r = 7 ∨ r = 8 ∨ r = 21 ∨ r = 22 ∨ r = 23 ∨ r = 24
theorem UI.cg {ν ν' : Nu} {ι ι' : Io} {ρ ρ' : Ro} {o c n r : Nat} (h : UI ν ι ρ o c n r) (hν : ∀ r j, isU r → ν' r o j = ν r o j) (hι : ∀ r j k, isU r → ι' r o j k = ι r o j k) (hρ : ∀ r j k, isU r → ρ' r o j k = ρ r o j k) : UI ν' ι' ρ' o c n r := by
  obtain ⟨⟨a1, a2, a3, a4, a5, a6, a7⟩, b1, b2, b3, b4, b5, b6, b7, b8, b9⟩ := h
  have u2 : isU 2 := by unfold isU; omega
  have u6 : isU 6 := by unfold isU; omega
  have u7 : isU 7 := by unfold isU; omega
  have u8 : isU 8 := by unfold isU; omega
  have u21 : isU 21 := by unfold isU; omega
  have u22 : isU 22 := by unfold isU; omega
  have u23 : isU 23 := by unfold isU; omega
  have u24 : isU 24 := by unfold isU; omega
  unfold UI UnS SeS NaS RfS
  simp only [hν _ _ u2, hν _ _ u6, hν _ _ u7, hν _ _ u8, hν _ _ u21, hν _ _ u22, hν _ _ u23, hν _ _ u24, hι _ _ _ u2, hι _ _ _ u6, hι _ _ _ u7, hι _ _ _ u8, hρ _ _ _ u7, hρ _ _ _ u8, hρ _ _ _ u21, hρ _ _ _ u22, hρ _ _ _ u23]
  exact ⟨⟨a1, a2, a3, a4, a5, a6, a7⟩, b1, b2, b3, b4, b5, b6, b7, b8, b9⟩
theorem CV.cg {ι ι' : Io} {o : Nat} (h : CV ι o) (hB : BD ι) (ho : o < 13) (hι : ∀ r j k, isU r → ι' r o j k = ι r o j k) (hm : ∀ r k, inO o r k → ι' r 0 0 k = ι r 0 0 k) : CV ι' o := by
  have u2 : isU 2 := by unfold isU; omega
  have u6 : isU 6 := by unfold isU; omega
  have u7 : isU 7 := by unfold isU; omega
  have u24 : isU 24 := by unfold isU; omega
  have c42 : mn ι' 42 o = mn ι 42 o := by unfold mn; rw [hm 42 o (by unfold inO; omega)]
  have c47 : mn ι' 47 o = mn ι 47 o := by unfold mn; rw [hm 47 o (by unfold inO; omega)]
  have c52 : mn ι' 52 o = mn ι 52 o := by unfold mn; rw [hm 52 o (by unfold inO; omega)]
  have l42 := hB.b42.le (t := o) ho
  have l47 := hB.b47.le (t := o) ho
  have l52 := hB.b52.le (t := o) ho
  refine ⟨fun s hs => ?_, fun i hi => ?_, fun j hj => ?_⟩
  · rw [c42] at hs
    obtain ⟨h1, h2, h3, h4⟩ := h.1 s hs
    have l45 := hB.b45.le (t := 8 * o + s) (by omega)
    have c45 : mn ι' 45 (8 * o + s) = mn ι 45 (8 * o + s) := by unfold mn; rw [hm 45 _ (by unfold inO; omega)]
    unfold CVs
    rw [hι _ _ _ u7, hι _ _ _ u7, hι _ _ _ u7, hm 43 _ (by unfold inO; omega), hm 44 _ (by unfold inO; omega), hm 45 _ (by unfold inO; omega), c45]
    refine ⟨h1, h2, h3, fun hn k hk => ?_⟩
    rw [hι _ _ _ u24, hm 46 _ (by unfold inO; omega)]
    exact h4 hn k hk
  · rw [c47] at hi
    unfold CVn
    rw [hι _ _ _ u2, hι _ _ _ u2, hι _ _ _ u2, hι _ _ _ u2, hm 48 _ (by unfold inO; omega), hm 49 _ (by unfold inO; omega), hm 50 _ (by unfold inO; omega), hm 51 _ (by unfold inO; omega)]
    exact h.2.1 i hi
  · rw [c52] at hj
    unfold CVr
    rw [hι _ _ _ u6, hι _ _ _ u6, hι _ _ _ u6, hι _ _ _ u6, hι _ _ _ u6, hm 53 _ (by unfold inO; omega), hm 54 _ (by unfold inO; omega), hm 55 _ (by unfold inO; omega), hm 56 _ (by unfold inO; omega), hm 57 _ (by unfold inO; omega)]
    exact h.2.2 j hj
theorem mn_c {ι ι' : Io} {r t : Nat} (h : ι' r 0 0 t = ι r 0 0 t) : mn ι' r t = mn ι r t := by unfold mn; rw [h]
theorem DO.cg {ι ι' : Io} {o : Nat} (h : DO ι o) (hB : BD ι) (ho : o < 13) (hm : ∀ r k, inO o r k → ι' r 0 0 k = ι r 0 0 k) : DO ι' o := by
  have c42 : mn ι' 42 o = mn ι 42 o := mn_c (hm 42 o (by unfold inO; omega))
  have c47 : mn ι' 47 o = mn ι 47 o := mn_c (hm 47 o (by unfold inO; omega))
  have c52 : mn ι' 52 o = mn ι 52 o := mn_c (hm 52 o (by unfold inO; omega))
  have l47 := hB.b47.le (t := o) ho
  have l52 := hB.b52.le (t := o) ho
  refine ⟨fun i hi h2 h3 => ?_, fun j hj => ?_⟩
  · rw [c47] at hi
    rw [hm 49 _ (by unfold inO; omega)] at h2 h3
    rw [c42, mn_c (hm 50 _ (by unfold inO; omega))]
    exact h.1 i hi h2 h3
  · rw [c52] at hj
    rw [c42, c47, mn_c (hm 53 _ (by unfold inO; omega)), mn_c (hm 56 _ (by unfold inO; omega))]
    exact h.2 j hj
/-- a unit that nothing touched -/
theorem IU.ot {ν ν' : Nu} {ι ι' : Io} {ρ ρ' : Ro} {o : Nat} (h : ρ 20 0 0 o = some (8, o, 0) ∧ UM ν ι ρ o ∧ CV ι o ∧ DO ι o) (hB : BD ι) (ho : o < 13) (hp : ρ' 20 0 0 o = ρ 20 0 0 o) (hν : ∀ r j, isU r → ν' r o j = ν r o j) (hι : ∀ r j k, isU r → ι' r o j k = ι r o j k) (hρ : ∀ r j k, isU r → ρ' r o j k = ρ r o j k) (hm : ∀ r k, inO o r k → ι' r 0 0 k = ι r 0 0 k) : ρ' 20 0 0 o = some (8, o, 0) ∧ UM ν' ι' ρ' o ∧ CV ι' o ∧ DO ι' o := by
  refine ⟨hp.trans h.1, ?_, h.2.2.1.cg hB ho hι hm, h.2.2.2.cg hB ho hm⟩
  unfold UM
  rw [mn_c (hm 42 o (by unfold inO; omega)), mn_c (hm 47 o (by unfold inO; omega)), mn_c (hm 52 o (by unfold inO; omega))]
  exact h.2.1.cg hν hι hρ
