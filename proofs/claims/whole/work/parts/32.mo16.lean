def MSd (ι1 : Io) (o : Nat) (f : Nat → Int32) (i n : Nat) : Prop := ι1 42 0 0 o = nI (i + 1) ∧ (∀ j, j < i → ι1 43 0 0 (8 * o + j) = sK f j ∧ ι1 44 0 0 (8 * o + j) = sP f j ∧ ι1 45 0 0 (8 * o + j) = sZ f j ∧ (¬ sK f j = 3 → ∀ k, k < cl (sZ f j) → ι1 46 0 0 (128 * (8 * o + j) + k) = sD f j k)) ∧ ι1 43 0 0 (8 * o + i) = sK f i ∧ ι1 44 0 0 (8 * o + i) = sP f i ∧ ι1 45 0 0 (8 * o + i) = sZ f i ∧ ∀ k, k < n → ι1 46 0 0 (128 * (8 * o + i) + k) = sD f i k
theorem MSoM {ι1 : Io} {o i : Nat} {f : Nat → Int32} (h : MSo ι1 o f i) (hi : i < 2147483648) : mn ι1 42 o = i := by
  unfold mn
  rw [h.1, nI_clamp hi]
theorem sc_z {k q n : Int32} (h : isSc k q n) : ∃ a, a ≤ 128 ∧ n = nI a := rgN (M := 128) (by decide) h.2.2
theorem MSo.sec {ι1 : Io} {o i : Nat} {f : Nat → Int32} (h : MSo ι1 o f i) (hi : i < 8) (hz : ∀ j, j < i → cl (sZ f j) ≤ 128) : MSd (mAddSec ι1 o (sK f i) (sP f i) (sZ f i)) o f i 0 := by
  have h0 := MSoM h (by omega)
  unfold mAddSec
  rw [h0]
  refine ⟨?_, fun j hj => ?_, ?_, ?_, ?_, fun k hk => absurd hk (Nat.not_lt_zero k)⟩
  · rw [up4_s, h.1]; exact nI_1 i
  · obtain ⟨h1, h2, h3, h4⟩ := h.2 j hj
    refine ⟨?_, ?_, ?_, fun hn k hk => ?_⟩
    · rw [up4_ne (by omega)]; unfold fil; rw [if_neg (by omega), up4_ne (by omega), up4_ne (by omega), up4_ne (by omega)]; exact h1
    · rw [up4_ne (by omega)]; unfold fil; rw [if_neg (by omega), up4_ne (by omega), up4_ne (by omega), up4_ne (by omega)]; exact h2
    · rw [up4_ne (by omega)]; unfold fil; rw [if_neg (by omega), up4_ne (by omega), up4_ne (by omega), up4_ne (by omega)]; exact h3
    · have := hz j hj
      rw [up4_ne (by omega)]; unfold fil; rw [if_neg (by omega), up4_ne (by omega), up4_ne (by omega), up4_ne (by omega)]; exact h4 hn k hk
  · rw [up4_ne (by omega)]; unfold fil; rw [if_neg (by omega), up4_ne (by omega), up4_ne (by omega), up4_s]
  · rw [up4_ne (by omega)]; unfold fil; rw [if_neg (by omega), up4_ne (by omega), up4_s]
  · rw [up4_ne (by omega)]; unfold fil; rw [if_neg (by omega), up4_s]
theorem MSd.dat {ι1 : Io} {o i n : Nat} {f : Nat → Int32} (h : MSd ι1 o f i n) (hi : i < 8) (hn : n < 128) (hz : ∀ j, j < i → cl (sZ f j) ≤ 128) : MSd (up4 ι1 46 0 0 (128 * (8 * o + i) + n) (sD f i n)) o f i (n + 1) := by
  obtain ⟨h1, h2, h3, h4, h5, h6⟩ := h
  refine ⟨h1, fun j hj => ?_, h3, h4, h5, fun k hk => ?_⟩
  · obtain ⟨g1, g2, g3, g4⟩ := h2 j hj
    refine ⟨g1, g2, g3, fun hn k hk => ?_⟩
    have := hz j hj
    rw [up4_ne (by omega)]
    exact g4 hn k hk
  · by_cases hq : k = n
    · subst hq; exact up4_s
    · rw [up4_ne (by omega)]
      exact h6 k (by omega)
theorem MSd.en {ι1 : Io} {o i n : Nat} {f : Nat → Int32} (h : MSd ι1 o f i n) (he : sK f i = 3 ∨ n = cl (sZ f i)) : MSo ι1 o f (i + 1) := by
  obtain ⟨h1, h2, h3, h4, h5, h6⟩ := h
  refine ⟨h1, fun j hj => ?_⟩
  by_cases hq : j = i
  · subst hq
    refine ⟨h3, h4, h5, fun hn k hk => h6 k ?_⟩
    rcases he with he | he
    · exact absurd he hn
    · omega
  · exact h2 j (by omega)
theorem MNoM {ι1 : Io} {o i : Nat} {f : Nat → Int32} (h : MNo ι1 o f i) (hi : i < 2147483648) : mn ι1 47 o = i := by
  unfold mn
  rw [h.1, nI_clamp hi]
theorem MRoM {ι1 : Io} {o i : Nat} {f : Nat → Int32} (h : MRo ι1 o f i) (hi : i < 2147483648) : mn ι1 52 o = i := by
  unfold mn
  rw [h.1, nI_clamp hi]
theorem MNo.nam {ι1 : Io} {o i : Nat} {f : Nat → Int32} (h : MNo ι1 o f i) (hi : i < 12) : MNo (mAddName ι1 o (nA f i) (nS f i) (nW f i) (nP f i)) o f (i + 1) := by
  have h0 := MNoM h (by omega)
  unfold mAddName
  rw [h0]
  refine ⟨?_, fun j hj => ?_⟩
  · rw [up4_s, h.1]; exact nI_1 i
  · by_cases hq : j = i
    · subst hq
      refine ⟨?_, ?_, ?_, ?_⟩
      · rw [up4_ne (by omega), up4_ne (by omega), up4_ne (by omega), up4_ne (by omega), up4_s]
      · rw [up4_ne (by omega), up4_ne (by omega), up4_ne (by omega), up4_s]
      · rw [up4_ne (by omega), up4_ne (by omega), up4_s]
      · rw [up4_ne (by omega), up4_s]
    · obtain ⟨h1, h2, h3, h4⟩ := h.2 j (by omega)
      refine ⟨?_, ?_, ?_, ?_⟩ <;> rw [up4_ne (by omega), up4_ne (by omega), up4_ne (by omega), up4_ne (by omega), up4_ne (by omega)]
      · exact h1
      · exact h2
      · exact h3
      · exact h4
theorem MRo.ref {ι1 : Io} {o i : Nat} {f : Nat → Int32} (h : MRo ι1 o f i) (hi : i < 16) : MRo (mAddRef ι1 o (qS f i) (qP f i) (qW f i) (qN f i) (qA f i)) o f (i + 1) := by
  have h0 := MRoM h (by omega)
  unfold mAddRef
  rw [h0]
  refine ⟨?_, fun j hj => ?_⟩
  · rw [up4_s, h.1]; exact nI_1 i
  · by_cases hq : j = i
    · subst hq
      refine ⟨?_, ?_, ?_, ?_, ?_⟩
      · rw [up4_ne (by omega), up4_ne (by omega), up4_ne (by omega), up4_ne (by omega), up4_ne (by omega), up4_s]
      · rw [up4_ne (by omega), up4_ne (by omega), up4_ne (by omega), up4_ne (by omega), up4_s]
      · rw [up4_ne (by omega), up4_ne (by omega), up4_ne (by omega), up4_s]
      · rw [up4_ne (by omega), up4_ne (by omega), up4_s]
      · rw [up4_ne (by omega), up4_s]
    · obtain ⟨h1, h2, h3, h4, h5⟩ := h.2 j (by omega)
      refine ⟨?_, ?_, ?_, ?_, ?_⟩ <;> rw [up4_ne (by omega), up4_ne (by omega), up4_ne (by omega), up4_ne (by omega), up4_ne (by omega), up4_ne (by omega)]
      · exact h1
      · exact h2
      · exact h3
      · exact h4
      · exact h5
theorem sec_eq {ι1 : Io} {o c : Nat} {f : Nat → Int32} {x q : Int32} (h : MSo ι1 o f c) (hc : c ≤ 8) (P : Nat → Prop) : ((0 ≤ x ∧ x ≤ ι1 42 0 0 o - 1) ∧ P (cl x) ∧ (0 ≤ q ∧ q ≤ ι1 45 0 0 (8 * o + cl x))) ↔ ∃ s, s < c ∧ x = nI s ∧ P s ∧ 0 ≤ q ∧ q ≤ sZ f s := by
  rw [h.1]
  constructor
  · rintro ⟨h1, h2, h3⟩
    obtain ⟨j, hj, rfl⟩ := rng_of (by omega) h1
    rw [show cl (nI j) = j from nI_clamp (by omega)] at h2 h3
    rw [(h.2 j hj).2.2.1] at h3
    exact ⟨j, hj, rfl, h2, h3⟩
  · rintro ⟨s, h1, rfl, h2, h3⟩
    rw [show cl (nI s) = s from nI_clamp (by omega), (h.2 s h1).2.2.1]
    exact ⟨rng_to (by omega) h1, h2, h3⟩
theorem nm_eq {ι1 : Io} {o i : Nat} {f : Nat → Int32} (h : MSo ι1 o f (cS f)) (h8 : cS f ≤ 8) (hn : MNo ι1 o f i) (hi : i ≤ 12) : isNm ι1 o (nA f i) (nS f i) (nW f i) (nP f i) ↔ nmOK f i := by
  have h1 : hasNk ι1 o (nA f i) (mn ι1 47 o) = false ↔ ∀ j, j < i → nA f j ≠ nA f i := by
    rw [MNoM hn (by omega)]
    unfold hasNk
    rw [List.any_eq_false]
    constructor
    · intro g j hj z
      exact g j (List.mem_range.mpr hj) (by rw [(hn.2 j hj).1, z]; simp)
    · intro g j hj z
      have hj := List.mem_range.mp hj
      rw [(hn.2 j hj).1] at z
      exact g j hj (by simpa using z)
  have h2 := sec_eq (x := nW f i) (q := nP f i) h h8 (fun _ => True)
  unfold nmOK isNm
  rw [h1]
  refine and_congr Iff.rfl (and_congr Iff.rfl (or_congr Iff.rfl (or_congr Iff.rfl (and_congr Iff.rfl (and_congr Iff.rfl ?_)))))
  constructor
  · rintro ⟨g1, g2⟩
    obtain ⟨s, g3, g4, _, g5⟩ := h2.mp ⟨g1, trivial, g2⟩
    exact ⟨s, g3, g4, g5⟩
  · rintro ⟨s, g3, g4, g5⟩
    obtain ⟨g6, _, g7⟩ := h2.mpr ⟨s, g3, g4, trivial, g5⟩
    exact ⟨g6, g7⟩
theorem rf_eq {ι1 : Io} {o i : Nat} {f : Nat → Int32} (h : MSo ι1 o f (cS f)) (h8 : cS f ≤ 8) (hn : MNo ι1 o f (cN f)) : isRf ι1 o (qS f i) (qP f i) (qW f i) (qN f i) ↔ rfOK f i := by
  have h2 := sec_eq (x := qS f i) (q := qP f i) h h8 (fun s => ¬ ι1 43 0 0 (8 * o + s) = 3)
  unfold rfOK isRf
  rw [hn.1]
  constructor
  · rintro ⟨g1, g2, g3, g4⟩
    obtain ⟨s, g5, g6, g7, g8⟩ := h2.mp ⟨g1, g2, g3⟩
    rw [(h.2 s g5).1] at g7
    exact ⟨⟨s, g5, g6, g7, g8⟩, g4⟩
  · rintro ⟨⟨s, g5, g6, g7, g8⟩, g4⟩
    rw [← (h.2 s g5).1] at g7
    obtain ⟨g1, g2, g3⟩ := h2.mpr ⟨s, g5, g6, g7, g8⟩
    exact ⟨g1, g2, g3, g4⟩
theorem FO.f78 {o : Nat} {ι ι1 : Io} (h : FO o ι ι1) : ι1 78 0 0 = ι 78 0 0 := by
  funext k
  exact h 78 0 0 k (by unfold inO; omega)
theorem beV1 {f : Nat → Int32} {a : Nat} : beV f a 1 = f a := by
  show ((0 : Int32) <<< ((8 : Int32) &&& 31)) ||| f (a + 0) = f a
  rw [show (0 : Int32) <<< ((8 : Int32) &&& 31) = 0 by decide, Int32.zero_or]
  rfl
theorem tk_bad3 {a T : Nat} {g : Int32} (h : ¬ a + 4 ≤ T) : tkG (tkG (tkG g a 1 T) (tkA a 1 T) 1 T) (tkA (tkA a 1 T) 1 T) 2 T = 0 := by
  unfold tkG tkA
  by_cases h1 : a + 1 ≤ T
  · by_cases h2 : a + 1 + 1 ≤ T
    · simp only [if_pos h1, if_pos h2]
      exact if_neg (by omega)
    · simp only [if_pos h1, if_neg h2]
      split <;> rfl
  · simp only [if_neg h1]
    split
    · split <;> rfl
    · split <;> rfl
theorem tkG0 {a w T : Nat} : tkG 0 a w T = 0 := by
  unfold tkG
  split <;> rfl
theorem tk_no {a w T : Nat} {g : Int32} (h : ¬ a + w ≤ T) : tkG g a w T = 0 := if_neg h
theorem tk_bad4 {a T : Nat} {g : Int32} (h : ¬ a + 8 ≤ T) : tkG (tkG (tkG (tkG g a 4 T) (tkA a 4 T) 1 T) (tkA (tkA a 4 T) 1 T) 1 T) (tkA (tkA (tkA a 4 T) 1 T) 1 T) 2 T = 0 := by
  by_cases h1 : a + 4 ≤ T
  · rw [show tkA a 4 T = a + 4 from if_pos h1]
    exact tk_bad3 (by omega)
  · rw [tk_no h1, tkG0, tkG0, tkG0]
theorem tk_bad5 {a T : Nat} {g : Int32} (h : ¬ a + 9 ≤ T) : tkG (tkG (tkG (tkG (tkG g a 1 T) (tkA a 1 T) 2 T) (tkA (tkA a 1 T) 2 T) 1 T) (tkA (tkA (tkA a 1 T) 2 T) 1 T) 1 T) (tkA (tkA (tkA (tkA a 1 T) 2 T) 1 T) 1 T) 4 T = 0 := by
  by_cases h1 : a + 1 ≤ T
  · rw [show tkA a 1 T = a + 1 from if_pos h1]
    by_cases h2 : a + 1 + 2 ≤ T
    · rw [show tkA (a + 1) 2 T = a + 1 + 2 from if_pos h2]
      by_cases h3 : a + 1 + 2 + 1 ≤ T
      · rw [show tkA (a + 1 + 2) 1 T = a + 1 + 2 + 1 from if_pos h3]
        by_cases h4 : a + 1 + 2 + 1 + 1 ≤ T
        · rw [show tkA (a + 1 + 2 + 1) 1 T = a + 1 + 2 + 1 + 1 from if_pos h4]
          exact tk_no (by omega)
        · rw [tk_no h4, tkG0]
      · rw [tk_no h3, tkG0, tkG0]
    · rw [tk_no h2, tkG0, tkG0, tkG0]
  · rw [tk_no h1, tkG0, tkG0, tkG0, tkG0]
theorem so_s {f : Nat → Int32} {i : Nat} : so f (i + 1) = so f i + 4 + (if sK f i = 3 then 0 else cl (sZ f i)) := rfl
theorem by_nI {f : Nat → Int32} {a : Nat} (h : ∃ x, x ≤ 255 ∧ f a = nI x) : beV f a 1 = nI (cl (beV f a 1)) ∧ cl (beV f a 1) ≤ 255 := by
  obtain ⟨x, h1, h2⟩ := h
  rw [beV1, h2, show cl (nI x) = x from nI_clamp (by omega)]
  exact ⟨rfl, h1⟩
theorem k_takeO {ν : Nu} {ι : Io} {ρ : Ro} {ℓ : Lo} (hM : MoS ν ρ) {a w T : Nat} {g : Int32} {f : Nat → Int32} (hf : ι 78 0 0 = f) (hw : w ≤ 4) (hw0 : 0 < w) (hT : T ≤ 1400) (hfit : a + w ≤ T) : Ct y_Mo_take (Cond.code y_Mo_take b_Mo_take 5 (some .int) :: tb_) { frames := 0, cells := 0, slots := 0, locals := 0 } [sR 10 0 0, sI (nI w), sI (nI T)] ν (tS ι a g) ρ ℓ (pEq (some (sI (beV f a w))) ν (tS ι (a + w) g) ρ ℓ) (noX) := by
  have h := k_take (ι := ι) (ℓ := ℓ) (g := g) hM hw hw0 (show a ≤ 1400 by omega) hT
  unfold tkV tkA tkG at h
  rw [if_pos hfit, if_pos hfit, if_pos hfit, hf] at h
  exact h
theorem k_isReference {ν : Nu} {ι : Io} {ρ : Ro} {ℓ : Lo} (hM : MoS ν ρ) {t : Nat} (ht : t < 13) {a : Nat} {g : Int32} (hs : bd ι 42 13 8) {s9 q w n : Int32} : Ct y_Mo_isReference (Cond.code y_Mo_isReference b_Mo_isReference 6 (some .boolean) :: tb_) { frames := 2, cells := 0, slots := 0, locals := 44 } [sR 10 0 0, sI (nI t), sI s9, sI q, sI w, sI n] ν (tS ι a g) ρ ℓ (pEq (some (sI (b2 (isRf ι t s9 q w n)))) ν (tS ι a g) ρ ℓ) (noX) := by
  exact c_Mo_isReference (ι := tS ι a g) hM ht hs
theorem k_isName {ν : Nu} {ι : Io} {ρ : Ro} {ℓ : Lo} (hM : MoS ν ρ) {t : Nat} (ht : t < 13) {a : Nat} {g : Int32} (hb : bd ι 47 13 12) (hs : bd ι 42 13 8) {n k s9 q : Int32} : Ct y_Mo_isName (Cond.code y_Mo_isName b_Mo_isName 6 (some .boolean) :: tb_) { frames := 2, cells := 0, slots := 0, locals := 44 } [sR 10 0 0, sI (nI t), sI n, sI k, sI s9, sI q] ν (tS ι a g) ρ ℓ (pEq (some (sI (b2 (isNm ι t n k s9 q)))) ν (tS ι a g) ρ ℓ) (noX) := by
  exact c_Mo_isName (ι := tS ι a g) hM ht hb hs
theorem k_addSection {ν : Nu} {ι : Io} {ρ : Ro} {ℓ : Lo} (hM : MoS ν ρ) {t : Nat} (ht : t < 13) {a : Nat} {g : Int32} (hb : bd ι 42 13 8) (h7 : mn ι 42 t < 8) {k q n : Int32} : Ct y_Mo_addSection (Cond.code y_Mo_addSection b_Mo_addSection 7 none :: tb_) { frames := 0, cells := 0, slots := 0, locals := 0 } [sR 10 0 0, sI (nI t), sI k, sI q, sI n] ν (tS ι a g) ρ ℓ (pEq none ν (tS (mAddSec ι t k q n) a g) ρ ℓ) (noX) := by
  rw [← tS_sec]
  exact c_Mo_addSection (ι := tS ι a g) hM hb ht h7
theorem k_addName {ν : Nu} {ι : Io} {ρ : Ro} {ℓ : Lo} (hM : MoS ν ρ) {t : Nat} (ht : t < 13) {a : Nat} {g : Int32} (hb : bd ι 47 13 12) (h7 : mn ι 47 t < 12) {n k s9 q : Int32} : Ct y_Mo_addName (Cond.code y_Mo_addName b_Mo_addName 7 none :: tb_) { frames := 0, cells := 0, slots := 0, locals := 0 } [sR 10 0 0, sI (nI t), sI n, sI k, sI s9, sI q] ν (tS ι a g) ρ ℓ (pEq none ν (tS (mAddName ι t n k s9 q) a g) ρ ℓ) (noX) := by
  rw [← tS_nam]
  exact c_Mo_addName (ι := tS ι a g) hM hb ht h7
theorem k_addReference {ν : Nu} {ι : Io} {ρ : Ro} {ℓ : Lo} (hM : MoS ν ρ) {t : Nat} (ht : t < 13) {a : Nat} {g : Int32} (hb : bd ι 52 13 16) (h7 : mn ι 52 t < 16) {s9 q w n d : Int32} : Ct y_Mo_addReference (Cond.code y_Mo_addReference b_Mo_addReference 8 none :: tb_) { frames := 0, cells := 0, slots := 0, locals := 0 } [sR 10 0 0, sI (nI t), sI s9, sI q, sI w, sI n, sI d] ν (tS ι a g) ρ ℓ (pEq none ν (tS (mAddRef ι t s9 q w n d) a g) ρ ℓ) (noX) := by
  rw [← tS_ref]
  exact c_Mo_addReference (ι := tS ι a g) hM hb ht h7
theorem hd_le {f : Nat → Int32} (h : HD f) (hb : ∀ k, k < 1400 → ∃ x, x ≤ 255 ∧ f k = nI x) : cS f ≤ 8 ∧ cN f ≤ 12 ∧ cR f ≤ 16 := by
  have h2 := by_nI (hb 2 (by omega))
  have h3 := by_nI (hb 3 (by omega))
  have h4 := by_nI (hb 4 (by omega))
  obtain ⟨_, _, g1, g2, g3⟩ := h
  rw [h2.1] at g1
  rw [h3.1] at g2
  rw [h4.1] at g3
  show cl (beV f 2 1) ≤ 8 ∧ cl (beV f 3 1) ≤ 12 ∧ cl (beV f 4 1) ≤ 16
  exact ⟨(nI_leI (b := 8) (by omega) (by decide)).mp g1, (nI_leI (b := 12) (by omega) (by decide)).mp g2, (nI_leI (b := 16) (by omega) (by decide)).mp g3⟩
set_option maxHeartbeats 1000000 in
set_option maxRecDepth 10000 in
theorem c_Mo_fill {ν : Nu} {ι : Io} {ρ : Ro} {ℓ : Lo} (hM : MoS ν ρ) {o T : Nat} (ho : o < 13) (hT : T ≤ 1400) (hT5 : 5 ≤ T) (hB : BD ι) (hby : bd ι 78 1400 255) : Ct y_Mo_fill (Cond.code y_Mo_fill b_Mo_fill 12 none :: tb_) { frames := 3, cells := 0, slots := 0, locals := 69 } [sR 10 0 0, sI (nI o), sI (nI T)] ν ι ρ ℓ (fun v ν1 ι2 ρ1 ℓ1 => none = v ∧ ν = ν1 ∧ ρ = ρ1 ∧ ℓ = ℓ1 ∧ ∃ ι1 a g, ι2 = tS ι1 a g ∧ FO o ι ι1 ∧ BD ι1 ∧ ((g = 0 ∧ ¬ GOOD (ι 78 0 0) T) ∨ (g = 1 ∧ GOOD (ι 78 0 0) T ∧ MSo ι1 o (ι 78 0 0) (cS (ι 78 0 0)) ∧ MNo ι1 o (ι 78 0 0) (cN (ι 78 0 0)) ∧ MRo ι1 o (ι 78 0 0) (cR (ι 78 0 0))))) (noX) := by
  refine Ct.ofV (by decide) (Nat.le_of_ble_eq_true rfl) rfl ?_
  intro p l e s m args below meth c D B tW α0 Q C hQ
  have hF0 : FO o ι (mEmpty ι o) := FO.rf.emp
  have hB0 : BD (mEmpty ι o) := hB.emp
  have hf0 : (mEmpty ι o) 78 0 0 = ι 78 0 0 := rfl
  have hc255 := (by_nI (hby 2 (by omega))).2
  have hn255 := (by_nI (hby 3 (by omega))).2
  have hr255 := (by_nI (hby 4 (by omega))).2
  change cS (ι 78 0 0) ≤ 255 at hc255
  change cN (ι 78 0 0) ≤ 255 at hn255
  change cR (ι 78 0 0) ≤ 255 at hr255
  have je : ∀ (x6 : Int32) (ι1 : Io) (a : Nat) (g : Int32), FO o ι ι1 → BD ι1 → a ≤ 1400 → ((g = 0 ∧ ¬ GOOD (ι 78 0 0) T) ∨ (g = 1 ∧ HD (ι 78 0 0) ∧ (∀ i, i < cS (ι 78 0 0) → OKs (ι 78 0 0) T i) ∧ (∀ i, i < cN (ι 78 0 0) → OKn (ι 78 0 0) T i) ∧ (∀ i, i < (cR (ι 78 0 0)) → OKr (ι 78 0 0) T i) ∧ a = rb (ι 78 0 0) + 9 * (cR (ι 78 0 0)) ∧ MSo ι1 o (ι 78 0 0) (cS (ι 78 0 0)) ∧ MNo ι1 o (ι 78 0 0) (cN (ι 78 0 0)) ∧ MRo ι1 o (ι 78 0 0) (cR (ι 78 0 0)))) → V p l e { frames := 3, cells := 0, slots := 0, locals := 69 } s m args below meth c D B α0 ν 12 Q 0 0 ν (tS ι1 a g) ρ ℓ 432 [(6, sI x6), (0, sR 10 0 0), (1, sI (nI o)), (2, sI (nI T)), (3, sI (nI (cS (ι 78 0 0)))), (4, sI (nI (cN (ι 78 0 0)))), (5, sI (nI (cR (ι 78 0 0))))] [] := by
    intro x6 ι1 a g hFO hBD ha hst
    skip
    refine V_aload_n C d_Mo_fill_432 rfl ?_
    refine V_aload_n C d_Mo_fill_433 rfl ?_
    refine V_getI (kx := 39) C d_Mo_fill_434 cf_Mo (by decide) k_Mo_262 hM.al rfl ?_
    refine V_iload_n C d_Mo_fill_437 rfl ?_
    refine V_icmp_ne (tgt := 445) C d_Mo_fill_438 (by decide) (fun h438 => ?_) (fun h438 => ?_)
    · have hne : a ≠ T := fun z => h438 (by rw [z]; rfl)
      have hfin : (b2 (¬ g = 0 ∧ ¬ (0 : Int32) = 0) = 0 ∧ ¬ GOOD (ι 78 0 0) T) ∨ (b2 (¬ g = 0 ∧ ¬ (0 : Int32) = 0) = 1 ∧ GOOD (ι 78 0 0) T ∧ MSo ι1 o (ι 78 0 0) (cS (ι 78 0 0)) ∧ MNo ι1 o (ι 78 0 0) (cN (ι 78 0 0)) ∧ MRo ι1 o (ι 78 0 0) (cR (ι 78 0 0))) := by
        refine Or.inl ⟨b2_f (fun z => z.2 rfl), fun z => ?_⟩
        rcases hst with h | ⟨_, h1, h2, h3, h4, h5, _⟩
        · exact h.2 z
        · exact hne (h5.trans z.2.2.2.2)
      refine V_iconst (v := 0) C d_Mo_fill_445 (by decide) ?_
      refine V_callV (as := [_]) C d_Mo_fill_446 (k_need hM) m_Mo_need cf_Mo k_Mo_271 hM.al ⟨by decide, by decide⟩ (Nat.le_of_ble_eq_true rfl) ⟨by decide, by decide⟩ rfl ?_
      rintro _ _ _ _ _ ⟨rfl, rfl, rfl, rfl, rfl⟩
      dsimp only [Option.toList, List.cons_append, List.nil_append]
      refine V_vret C hQ (by decide) (by decide) d_Mo_fill_449 rfl ?_
      refine ⟨rfl, rfl, rfl, rfl, ι1, a, _, rfl, hFO, hBD, ?_⟩
      exact hfin
    · have heq : a = T := (nI_eq (by omega) (by omega)).mp h438
      have hfin : (b2 (¬ g = 0 ∧ ¬ (1 : Int32) = 0) = 0 ∧ ¬ GOOD (ι 78 0 0) T) ∨ (b2 (¬ g = 0 ∧ ¬ (1 : Int32) = 0) = 1 ∧ GOOD (ι 78 0 0) T ∧ MSo ι1 o (ι 78 0 0) (cS (ι 78 0 0)) ∧ MNo ι1 o (ι 78 0 0) (cN (ι 78 0 0)) ∧ MRo ι1 o (ι 78 0 0) (cR (ι 78 0 0))) := by
        rcases hst with ⟨h, h1⟩ | ⟨h, h1, h2, h3, h4, h5, h6⟩
        · exact Or.inl ⟨b2_f (fun z => z.1 h), h1⟩
        · exact Or.inr ⟨b2_t ⟨by rw [h]; decide, by decide⟩, ⟨h1, h2, h3, h4, h5.symm.trans heq⟩, h6⟩
      refine V_iconst (v := 1) C d_Mo_fill_441 (by decide) ?_
      refine V_goto (tgt := 446) C d_Mo_fill_442 (by decide) ?_
      refine V_callV (as := [_]) C d_Mo_fill_446 (k_need hM) m_Mo_need cf_Mo k_Mo_271 hM.al ⟨by decide, by decide⟩ (Nat.le_of_ble_eq_true rfl) ⟨by decide, by decide⟩ rfl ?_
      rintro _ _ _ _ _ ⟨rfl, rfl, rfl, rfl, rfl⟩
      dsimp only [Option.toList, List.cons_append, List.nil_append]
      refine V_vret C hQ (by decide) (by decide) d_Mo_fill_449 rfl ?_
      refine ⟨rfl, rfl, rfl, rfl, ι1, a, _, rfl, hFO, hBD, ?_⟩
      exact hfin
  have refs : ∀ (f : Nat) (k : Nat) (ι1 : Io) (a : Nat) (g : Int32), cR (ι 78 0 0) - k < f → (k ≤ cR (ι 78 0 0)) → (FO o ι ι1) → (BD ι1) → (a ≤ 1400) → (((g = 0 ∧ ¬ GOOD (ι 78 0 0) T) ∨ (g = 1 ∧ HD (ι 78 0 0) ∧ (∀ i, i < cS (ι 78 0 0) → OKs (ι 78 0 0) T i) ∧ (∀ i, i < cN (ι 78 0 0) → OKn (ι 78 0 0) T i) ∧ (∀ i, i < k → OKr (ι 78 0 0) T i) ∧ a = rb (ι 78 0 0) + 9 * k ∧ MSo ι1 o (ι 78 0 0) (cS (ι 78 0 0)) ∧ MNo ι1 o (ι 78 0 0) (cN (ι 78 0 0)) ∧ MRo ι1 o (ι 78 0 0) k))) → V p l e { frames := 3, cells := 0, slots := 0, locals := 69 } s m args below meth c D B α0 ν 12 Q 0 0 ν (tS ι1 a g) ρ ℓ 333 [(6, sI (nI k)), (0, sR 10 0 0), (1, sI (nI o)), (2, sI (nI T)), (3, sI (nI (cS (ι 78 0 0)))), (4, sI (nI (cN (ι 78 0 0)))), (5, sI (nI (cR (ι 78 0 0))))] [] := by
    intro f
    induction f with
    | zero => intros; omega
    | succ f ih =>
      intro k ι1 a g hf9_ hk0 hFO hBD ha hst
      refine V_iload C d_Mo_fill_333 rfl ?_
      refine V_iload C d_Mo_fill_335 rfl ?_
      refine V_icmp_ge (tgt := 432) C d_Mo_fill_337 (by decide) (fun h337 => ?_) (fun h337 => ?_)
      · have hk : k = cR (ι 78 0 0) := by have := (nI_leI (by omega) (by omega)).mp h337; omega
        subst hk
        have hnx : ((g = 0 ∧ ¬ GOOD (ι 78 0 0) T) ∨ (g = 1 ∧ HD (ι 78 0 0) ∧ (∀ i, i < cS (ι 78 0 0) → OKs (ι 78 0 0) T i) ∧ (∀ i, i < cN (ι 78 0 0) → OKn (ι 78 0 0) T i) ∧ (∀ i, i < (cR (ι 78 0 0)) → OKr (ι 78 0 0) T i) ∧ a = rb (ι 78 0 0) + 9 * (cR (ι 78 0 0)) ∧ MSo ι1 o (ι 78 0 0) (cS (ι 78 0 0)) ∧ MNo ι1 o (ι 78 0 0) (cN (ι 78 0 0)) ∧ MRo ι1 o (ι 78 0 0) (cR (ι 78 0 0)))) := hst
        refine V_pick [0, 1, 2, 3, 4, 5, 6] rfl ?_
        exact je _ ι1 a g hFO hBD ha hnx
      · have hk : k < cR (ι 78 0 0) := Nat.lt_of_not_le fun z => h337 ((nI_leI (by omega) (by omega)).mpr z)
        refine V_aload_n C d_Mo_fill_340 rfl ?_
        refine V_getI (kx := 40) C d_Mo_fill_341 cf_Mo (by decide) k_Mo_265 hM.al rfl ?_
        refine V_if_eq (tgt := 432) C d_Mo_fill_344 (by decide) (fun h344 => ?_) (fun h344 => ?_)
        · have hg0 : g = 0 := h344
          have hnx : ((g = 0 ∧ ¬ GOOD (ι 78 0 0) T) ∨ (g = 1 ∧ HD (ι 78 0 0) ∧ (∀ i, i < cS (ι 78 0 0) → OKs (ι 78 0 0) T i) ∧ (∀ i, i < cN (ι 78 0 0) → OKn (ι 78 0 0) T i) ∧ (∀ i, i < (cR (ι 78 0 0)) → OKr (ι 78 0 0) T i) ∧ a = rb (ι 78 0 0) + 9 * (cR (ι 78 0 0)) ∧ MSo ι1 o (ι 78 0 0) (cS (ι 78 0 0)) ∧ MNo ι1 o (ι 78 0 0) (cN (ι 78 0 0)) ∧ MRo ι1 o (ι 78 0 0) (cR (ι 78 0 0)))) := Or.inl ⟨hg0, (hst.resolve_right (fun z => absurd hg0 (by rw [z.1]; decide))).2⟩
          refine V_pick [0, 1, 2, 3, 4, 5, 6] rfl ?_
          exact je _ ι1 a g hFO hBD ha hnx
        · have hg1 : ¬ g = 0 := h344
          obtain ⟨hg9, hst1⟩ := hst.resolve_left (fun z => hg1 z.1)
          subst hg9
          obtain ⟨hh1, hS, hN, hR, hak, hMS, hMN, hMR⟩ := hst1
          have hcl := hd_le hh1
          obtain ⟨hcl1, hcl2, hcl3⟩ := hcl hby
          have hf9 : ι1 78 0 0 = ι 78 0 0 := hFO.f78
          have jbad : ∀ (ι2 : Io) (a2 : Nat) (y7 : Int32) (y8 : Int32) (y9 : Int32) (y10 : Int32) (y11 : Int32), FO o ι ι2 → BD ι2 → a2 ≤ 1400 → ¬ GOOD (ι 78 0 0) T → V p l e { frames := 3, cells := 0, slots := 0, locals := 69 } s m args below meth c D B α0 ν 12 Q 0 0 ν (tS ι2 a2 0) ρ ℓ 404 [(11, sI y11), (10, sI y10), (9, sI y9), (8, sI y8), (7, sI y7), (6, sI (nI k)), (0, sR 10 0 0), (1, sI (nI o)), (2, sI (nI T)), (3, sI (nI (cS (ι 78 0 0)))), (4, sI (nI (cN (ι 78 0 0)))), (5, sI (nI (cR (ι 78 0 0))))] [] := by
            intro ι2 a2 y7 y8 y9 y10 y11 hFO2 hBD2 ha2 hng
            refine V_aload_n C d_Mo_fill_404 rfl ?_
            refine V_getI (kx := 40) C d_Mo_fill_405 cf_Mo (by decide) k_Mo_265 hM.al rfl ?_
            refine V_if_eq (tgt := 426) C d_Mo_fill_408 (by decide) (fun h408 => ?_) (fun h408 => absurd rfl h408)
            refine V_iinc (v := nI (k + 1)) (lv' := [(6, _), (11, _), (10, _), (9, _), (8, _), (7, _), (0, _), (1, _), (2, _), (3, _), (4, _), (5, _)]) C d_Mo_fill_426 rfl (nI_1 k) (by decide) rfl ?_
            refine V_goto (tgt := 333) C d_Mo_fill_429 (by decide) ?_
            refine V_pick [0, 6, 7, 8, 9, 10, 11] rfl ?_
            exact ih (k + 1) ι2 a2 0 (by omega) (by omega) hFO2 hBD2 ha2 (Or.inl ⟨rfl, hng⟩)
          refine V_pick [0, 1, 2, 3, 4, 5, 6] rfl ?_
          by_cases hfit : a + 9 ≤ T
          · skip
            refine V_aload_n C d_Mo_fill_347 rfl ?_
            refine V_iconst (v := 1) C d_Mo_fill_348 (by decide) ?_
            refine V_iload_n C d_Mo_fill_349 rfl ?_
            refine V_callV (as := [_, _]) C d_Mo_fill_350 (k_takeO hM hf9 (w := 1) (by omega) (by omega) hT (by omega)) m_Mo_take cf_Mo k_Mo_268 hM.al ⟨by decide, by decide⟩ (Nat.le_of_ble_eq_true rfl) ⟨by decide, by decide⟩ rfl ?_
            rintro _ _ _ _ _ ⟨rfl, rfl, rfl, rfl, rfl⟩
            dsimp only [Option.toList, List.cons_append, List.nil_append]
            refine V_eqi (y := qS (ι 78 0 0) k) (by subst hak; rfl) ?_
            refine V_istore (lv' := [(7, _), (6, _), (0, _), (1, _), (2, _), (3, _), (4, _), (5, _)]) C d_Mo_fill_353 (by decide) rfl ?_
            refine V_aload_n C d_Mo_fill_355 rfl ?_
            refine V_iconst (v := 2) C d_Mo_fill_356 (by decide) ?_
            refine V_iload_n C d_Mo_fill_357 rfl ?_
            refine V_callV (as := [_, _]) C d_Mo_fill_358 (k_takeO hM hf9 (w := 2) (by omega) (by omega) hT (by omega)) m_Mo_take cf_Mo k_Mo_268 hM.al ⟨by decide, by decide⟩ (Nat.le_of_ble_eq_true rfl) ⟨by decide, by decide⟩ rfl ?_
            rintro _ _ _ _ _ ⟨rfl, rfl, rfl, rfl, rfl⟩
            dsimp only [Option.toList, List.cons_append, List.nil_append]
            refine V_eqi (y := qP (ι 78 0 0) k) (by subst hak; rfl) ?_
            refine V_istore (lv' := [(8, _), (7, _), (6, _), (0, _), (1, _), (2, _), (3, _), (4, _), (5, _)]) C d_Mo_fill_361 (by decide) rfl ?_
            refine V_aload_n C d_Mo_fill_363 rfl ?_
            refine V_iconst (v := 1) C d_Mo_fill_364 (by decide) ?_
            refine V_iload_n C d_Mo_fill_365 rfl ?_
            refine V_callV (as := [_, _]) C d_Mo_fill_366 (k_takeO hM hf9 (w := 1) (by omega) (by omega) hT (by omega)) m_Mo_take cf_Mo k_Mo_268 hM.al ⟨by decide, by decide⟩ (Nat.le_of_ble_eq_true rfl) ⟨by decide, by decide⟩ rfl ?_
            rintro _ _ _ _ _ ⟨rfl, rfl, rfl, rfl, rfl⟩
            dsimp only [Option.toList, List.cons_append, List.nil_append]
            refine V_eqi (y := qW (ι 78 0 0) k) (by subst hak; rfl) ?_
            refine V_istore (lv' := [(9, _), (8, _), (7, _), (6, _), (0, _), (1, _), (2, _), (3, _), (4, _), (5, _)]) C d_Mo_fill_369 (by decide) rfl ?_
            refine V_aload_n C d_Mo_fill_371 rfl ?_
            refine V_iconst (v := 1) C d_Mo_fill_372 (by decide) ?_
            refine V_iload_n C d_Mo_fill_373 rfl ?_
            refine V_callV (as := [_, _]) C d_Mo_fill_374 (k_takeO hM hf9 (w := 1) (by omega) (by omega) hT (by omega)) m_Mo_take cf_Mo k_Mo_268 hM.al ⟨by decide, by decide⟩ (Nat.le_of_ble_eq_true rfl) ⟨by decide, by decide⟩ rfl ?_
            rintro _ _ _ _ _ ⟨rfl, rfl, rfl, rfl, rfl⟩
            dsimp only [Option.toList, List.cons_append, List.nil_append]
            refine V_eqi (y := qN (ι 78 0 0) k) (by subst hak; rfl) ?_
            refine V_istore (lv' := [(10, _), (9, _), (8, _), (7, _), (6, _), (0, _), (1, _), (2, _), (3, _), (4, _), (5, _)]) C d_Mo_fill_377 (by decide) rfl ?_
            refine V_aload_n C d_Mo_fill_379 rfl ?_
            refine V_iconst (v := 4) C d_Mo_fill_380 (by decide) ?_
            refine V_iload_n C d_Mo_fill_381 rfl ?_
            refine V_callV (as := [_, _]) C d_Mo_fill_382 (k_takeO hM hf9 (w := 4) (by omega) (by omega) hT (by omega)) m_Mo_take cf_Mo k_Mo_268 hM.al ⟨by decide, by decide⟩ (Nat.le_of_ble_eq_true rfl) ⟨by decide, by decide⟩ rfl ?_
            rintro _ _ _ _ _ ⟨rfl, rfl, rfl, rfl, rfl⟩
            dsimp only [Option.toList, List.cons_append, List.nil_append]
            refine V_eqi (y := qA (ι 78 0 0) k) (by subst hak; rfl) ?_
            refine V_istore (lv' := [(11, _), (10, _), (9, _), (8, _), (7, _), (6, _), (0, _), (1, _), (2, _), (3, _), (4, _), (5, _)]) C d_Mo_fill_385 (by decide) rfl ?_
            refine V_aload_n C d_Mo_fill_387 rfl ?_
            refine V_aload_n C d_Mo_fill_388 rfl ?_
            refine V_iload_n C d_Mo_fill_389 rfl ?_
            refine V_iload C d_Mo_fill_390 rfl ?_
            refine V_iload C d_Mo_fill_392 rfl ?_
            refine V_iload C d_Mo_fill_394 rfl ?_
            refine V_iload C d_Mo_fill_396 rfl ?_
            refine V_callV (as := [_, _, _, _, _]) C d_Mo_fill_398 (k_isReference hM ho hBD.b42) m_Mo_isReference cf_Mo k_Mo_137 hM.al ⟨by decide, by decide⟩ (Nat.le_of_ble_eq_true rfl) ⟨by decide, by decide⟩ rfl ?_
            rintro _ _ _ _ _ ⟨rfl, rfl, rfl, rfl, rfl⟩
            dsimp only [Option.toList, List.cons_append, List.nil_append]
            refine V_callV (as := [_]) C d_Mo_fill_401 (k_need hM) m_Mo_need cf_Mo k_Mo_271 hM.al ⟨by decide, by decide⟩ (Nat.le_of_ble_eq_true rfl) ⟨by decide, by decide⟩ rfl ?_
            rintro _ _ _ _ _ ⟨rfl, rfl, rfl, rfl, rfl⟩
            dsimp only [Option.toList, List.cons_append, List.nil_append]
            refine V_pick [0, 1, 2, 3, 4, 5, 6, 7, 8, 9, 10, 11] rfl ?_
            by_cases hok : isRf ι1 o (qS (ι 78 0 0) k) (qP (ι 78 0 0) k) (qW (ι 78 0 0) k) (qN (ι 78 0 0) k)
            · refine V_io (show _ = tS ι1 (a + 9) 1 by rw [b2_t ⟨by decide, by rw [b2_t hok]; decide⟩]) ?_
              refine V_aload_n C d_Mo_fill_404 rfl ?_
              refine V_getI (kx := 40) C d_Mo_fill_405 cf_Mo (by decide) k_Mo_265 hM.al rfl ?_
              refine V_if_eq (tgt := 426) C d_Mo_fill_408 (by decide) (fun h408 => absurd (show (1 : Int32) = 0 from h408) (by decide)) (fun h408 => ?_)
              refine V_aload_n C d_Mo_fill_411 rfl ?_
              refine V_iload_n C d_Mo_fill_412 rfl ?_
              refine V_iload C d_Mo_fill_413 rfl ?_
              refine V_iload C d_Mo_fill_415 rfl ?_
              refine V_iload C d_Mo_fill_417 rfl ?_
              refine V_iload C d_Mo_fill_419 rfl ?_
              refine V_iload C d_Mo_fill_421 rfl ?_
              refine V_callV (as := [_, _, _, _, _, _]) C d_Mo_fill_423 (k_addReference hM ho hBD.b52 (by rw [MRoM hMR (by omega)]; omega)) m_Mo_addReference cf_Mo k_Mo_140 hM.al ⟨by decide, by decide⟩ (Nat.le_of_ble_eq_true rfl) ⟨by decide, by decide⟩ rfl ?_
              rintro _ _ _ _ _ ⟨rfl, rfl, rfl, rfl, rfl⟩
              dsimp only [Option.toList, List.cons_append, List.nil_append]
              refine V_iinc (v := nI (k + 1)) (lv' := [(6, _), (11, _), (10, _), (9, _), (8, _), (7, _), (0, _), (1, _), (2, _), (3, _), (4, _), (5, _)]) C d_Mo_fill_426 rfl (nI_1 k) (by decide) rfl ?_
              refine V_goto (tgt := 333) C d_Mo_fill_429 (by decide) ?_
              refine V_pick [0, 6, 7, 8, 9, 10, 11] rfl ?_
              have hk2 : mn ι1 52 o < 16 := by rw [MRoM hMR (by omega)]; omega
              exact ih (k + 1) _ (a + 9) 1 (by omega) (by omega) (hFO.ref hk2) (hBD.ref (by omega) hk2 hok) (by omega) (Or.inr ⟨rfl, hh1, hS, hN, fun i hi => by
                by_cases hq : i = k
                · subst hq; exact ⟨by omega, (rf_eq hMS (hcl hby).1 hMN).mp hok⟩
                · exact hR i (by omega), by omega, hMS, hMN, hMR.ref (by omega)⟩)
            · refine V_io (show _ = tS ι1 (a + 9) 0 by rw [b2_f (fun z => z.2 (b2_f hok))]) ?_
              exact jbad ι1 (a + 9) _ _ _ _ _ hFO hBD (by omega) (fun z => hok ((rf_eq hMS (hcl hby).1 hMN).mpr (z.2.2.2.1 k hk).2))
          · skip
            refine V_aload_n C d_Mo_fill_347 rfl ?_
            refine V_iconst (v := 1) C d_Mo_fill_348 (by decide) ?_
            refine V_iload_n C d_Mo_fill_349 rfl ?_
            refine V_callV (as := [_, _]) C d_Mo_fill_350 (k_take hM (w := 1) (by omega) (by omega) (by first | assumption | exact tkA_le (by first | assumption | exact tkA_le (by first | assumption | exact tkA_le (by first | assumption | exact tkA_le (by assumption) hT) hT) hT) hT) hT) m_Mo_take cf_Mo k_Mo_268 hM.al ⟨by decide, by decide⟩ (Nat.le_of_ble_eq_true rfl) ⟨by decide, by decide⟩ rfl ?_
            rintro _ _ _ _ _ ⟨rfl, rfl, rfl, rfl, rfl⟩
            dsimp only [Option.toList, List.cons_append, List.nil_append]
            refine V_istore (lv' := [(7, _), (6, _), (0, _), (1, _), (2, _), (3, _), (4, _), (5, _)]) C d_Mo_fill_353 (by decide) rfl ?_
            refine V_aload_n C d_Mo_fill_355 rfl ?_
            refine V_iconst (v := 2) C d_Mo_fill_356 (by decide) ?_
            refine V_iload_n C d_Mo_fill_357 rfl ?_
            refine V_callV (as := [_, _]) C d_Mo_fill_358 (k_take hM (w := 2) (by omega) (by omega) (by first | assumption | exact tkA_le (by first | assumption | exact tkA_le (by first | assumption | exact tkA_le (by first | assumption | exact tkA_le (by assumption) hT) hT) hT) hT) hT) m_Mo_take cf_Mo k_Mo_268 hM.al ⟨by decide, by decide⟩ (Nat.le_of_ble_eq_true rfl) ⟨by decide, by decide⟩ rfl ?_
            rintro _ _ _ _ _ ⟨rfl, rfl, rfl, rfl, rfl⟩
            dsimp only [Option.toList, List.cons_append, List.nil_append]
            refine V_istore (lv' := [(8, _), (7, _), (6, _), (0, _), (1, _), (2, _), (3, _), (4, _), (5, _)]) C d_Mo_fill_361 (by decide) rfl ?_
            refine V_aload_n C d_Mo_fill_363 rfl ?_
            refine V_iconst (v := 1) C d_Mo_fill_364 (by decide) ?_
            refine V_iload_n C d_Mo_fill_365 rfl ?_
            refine V_callV (as := [_, _]) C d_Mo_fill_366 (k_take hM (w := 1) (by omega) (by omega) (by first | assumption | exact tkA_le (by first | assumption | exact tkA_le (by first | assumption | exact tkA_le (by first | assumption | exact tkA_le (by assumption) hT) hT) hT) hT) hT) m_Mo_take cf_Mo k_Mo_268 hM.al ⟨by decide, by decide⟩ (Nat.le_of_ble_eq_true rfl) ⟨by decide, by decide⟩ rfl ?_
            rintro _ _ _ _ _ ⟨rfl, rfl, rfl, rfl, rfl⟩
            dsimp only [Option.toList, List.cons_append, List.nil_append]
            refine V_istore (lv' := [(9, _), (8, _), (7, _), (6, _), (0, _), (1, _), (2, _), (3, _), (4, _), (5, _)]) C d_Mo_fill_369 (by decide) rfl ?_
            refine V_aload_n C d_Mo_fill_371 rfl ?_
            refine V_iconst (v := 1) C d_Mo_fill_372 (by decide) ?_
            refine V_iload_n C d_Mo_fill_373 rfl ?_
            refine V_callV (as := [_, _]) C d_Mo_fill_374 (k_take hM (w := 1) (by omega) (by omega) (by first | assumption | exact tkA_le (by first | assumption | exact tkA_le (by first | assumption | exact tkA_le (by first | assumption | exact tkA_le (by assumption) hT) hT) hT) hT) hT) m_Mo_take cf_Mo k_Mo_268 hM.al ⟨by decide, by decide⟩ (Nat.le_of_ble_eq_true rfl) ⟨by decide, by decide⟩ rfl ?_
            rintro _ _ _ _ _ ⟨rfl, rfl, rfl, rfl, rfl⟩
            dsimp only [Option.toList, List.cons_append, List.nil_append]
            refine V_istore (lv' := [(10, _), (9, _), (8, _), (7, _), (6, _), (0, _), (1, _), (2, _), (3, _), (4, _), (5, _)]) C d_Mo_fill_377 (by decide) rfl ?_
            refine V_aload_n C d_Mo_fill_379 rfl ?_
            refine V_iconst (v := 4) C d_Mo_fill_380 (by decide) ?_
            refine V_iload_n C d_Mo_fill_381 rfl ?_
            refine V_callV (as := [_, _]) C d_Mo_fill_382 (k_take hM (w := 4) (by omega) (by omega) (by first | assumption | exact tkA_le (by first | assumption | exact tkA_le (by first | assumption | exact tkA_le (by first | assumption | exact tkA_le (by assumption) hT) hT) hT) hT) hT) m_Mo_take cf_Mo k_Mo_268 hM.al ⟨by decide, by decide⟩ (Nat.le_of_ble_eq_true rfl) ⟨by decide, by decide⟩ rfl ?_
            rintro _ _ _ _ _ ⟨rfl, rfl, rfl, rfl, rfl⟩
            dsimp only [Option.toList, List.cons_append, List.nil_append]
            refine V_istore (lv' := [(11, _), (10, _), (9, _), (8, _), (7, _), (6, _), (0, _), (1, _), (2, _), (3, _), (4, _), (5, _)]) C d_Mo_fill_385 (by decide) rfl ?_
            refine V_aload_n C d_Mo_fill_387 rfl ?_
            refine V_aload_n C d_Mo_fill_388 rfl ?_
            refine V_iload_n C d_Mo_fill_389 rfl ?_
            refine V_iload C d_Mo_fill_390 rfl ?_
            refine V_iload C d_Mo_fill_392 rfl ?_
            refine V_iload C d_Mo_fill_394 rfl ?_
            refine V_iload C d_Mo_fill_396 rfl ?_
            refine V_callV (as := [_, _, _, _, _]) C d_Mo_fill_398 (k_isReference hM ho hBD.b42) m_Mo_isReference cf_Mo k_Mo_137 hM.al ⟨by decide, by decide⟩ (Nat.le_of_ble_eq_true rfl) ⟨by decide, by decide⟩ rfl ?_
            rintro _ _ _ _ _ ⟨rfl, rfl, rfl, rfl, rfl⟩
            dsimp only [Option.toList, List.cons_append, List.nil_append]
            refine V_callV (as := [_]) C d_Mo_fill_401 (k_need hM) m_Mo_need cf_Mo k_Mo_271 hM.al ⟨by decide, by decide⟩ (Nat.le_of_ble_eq_true rfl) ⟨by decide, by decide⟩ rfl ?_
            rintro _ _ _ _ _ ⟨rfl, rfl, rfl, rfl, rfl⟩
            dsimp only [Option.toList, List.cons_append, List.nil_append]
            refine V_pick [0, 1, 2, 3, 4, 5, 6, 7, 8, 9, 10, 11] rfl ?_
            refine V_io (show _ = tS ι1 _ 0 by rw [b2_f (fun z => z.1 (tk_bad5 hfit))]) ?_
            exact jbad ι1 _ _ _ _ _ _ hFO hBD (by first | assumption | exact tkA_le (by first | assumption | exact tkA_le (by first | assumption | exact tkA_le (by first | assumption | exact tkA_le (by first | assumption | exact tkA_le (by assumption) hT) hT) hT) hT) hT) (fun z => hfit (by have := (z.2.2.2.1 k hk).1; omega))
  have nams : ∀ (f : Nat) (k : Nat) (ι1 : Io) (a : Nat) (g : Int32), cN (ι 78 0 0) - k < f → (k ≤ cN (ι 78 0 0)) → (FO o ι ι1) → (BD ι1) → (a ≤ 1400) → (((g = 0 ∧ ¬ GOOD (ι 78 0 0) T) ∨ (g = 1 ∧ HD (ι 78 0 0) ∧ (∀ i, i < cS (ι 78 0 0) → OKs (ι 78 0 0) T i) ∧ (∀ i, i < k → OKn (ι 78 0 0) T i) ∧ a = nb (ι 78 0 0) + 8 * k ∧ MSo ι1 o (ι 78 0 0) (cS (ι 78 0 0)) ∧ MNo ι1 o (ι 78 0 0) k ∧ MRo ι1 o (ι 78 0 0) 0))) → V p l e { frames := 3, cells := 0, slots := 0, locals := 69 } s m args below meth c D B α0 ν 12 Q 0 0 ν (tS ι1 a g) ρ ℓ 241 [(6, sI (nI k)), (0, sR 10 0 0), (1, sI (nI o)), (2, sI (nI T)), (3, sI (nI (cS (ι 78 0 0)))), (4, sI (nI (cN (ι 78 0 0)))), (5, sI (nI (cR (ι 78 0 0))))] [] := by
    intro f
    induction f with
    | zero => intros; omega
    | succ f ih =>
      intro k ι1 a g hf9_ hk0 hFO hBD ha hst
      refine V_iload C d_Mo_fill_241 rfl ?_
      refine V_iload C d_Mo_fill_243 rfl ?_
      refine V_icmp_ge (tgt := 330) C d_Mo_fill_245 (by decide) (fun h245 => ?_) (fun h245 => ?_)
      · have hk : k = cN (ι 78 0 0) := by have := (nI_leI (by omega) (by omega)).mp h245; omega
        subst hk
        have hnx : ((g = 0 ∧ ¬ GOOD (ι 78 0 0) T) ∨ (g = 1 ∧ HD (ι 78 0 0) ∧ (∀ i, i < cS (ι 78 0 0) → OKs (ι 78 0 0) T i) ∧ (∀ i, i < cN (ι 78 0 0) → OKn (ι 78 0 0) T i) ∧ (∀ i, i < 0 → OKr (ι 78 0 0) T i) ∧ a = rb (ι 78 0 0) + 9 * 0 ∧ MSo ι1 o (ι 78 0 0) (cS (ι 78 0 0)) ∧ MNo ι1 o (ι 78 0 0) (cN (ι 78 0 0)) ∧ MRo ι1 o (ι 78 0 0) 0)) := hst.imp id (fun h => ⟨h.1, h.2.1, h.2.2.1, h.2.2.2.1, fun i hi => absurd hi (Nat.not_lt_zero i), h.2.2.2.2.1, h.2.2.2.2.2⟩)
        refine V_iconst (v := 0) C d_Mo_fill_330 (by decide) ?_
        refine V_istore (lv' := [(6, _), (0, _), (1, _), (2, _), (3, _), (4, _), (5, _)]) C d_Mo_fill_331 (by decide) rfl ?_
        refine V_pick [0, 1, 2, 3, 4, 5, 6] rfl ?_
        exact refs _ 0 ι1 a g (Nat.lt_succ_self _) (by omega) hFO hBD ha hnx
      · have hk : k < cN (ι 78 0 0) := Nat.lt_of_not_le fun z => h245 ((nI_leI (by omega) (by omega)).mpr z)
        refine V_aload_n C d_Mo_fill_248 rfl ?_
        refine V_getI (kx := 40) C d_Mo_fill_249 cf_Mo (by decide) k_Mo_265 hM.al rfl ?_
        refine V_if_eq (tgt := 330) C d_Mo_fill_252 (by decide) (fun h252 => ?_) (fun h252 => ?_)
        · have hg0 : g = 0 := h252
          have hnx : ((g = 0 ∧ ¬ GOOD (ι 78 0 0) T) ∨ (g = 1 ∧ HD (ι 78 0 0) ∧ (∀ i, i < cS (ι 78 0 0) → OKs (ι 78 0 0) T i) ∧ (∀ i, i < cN (ι 78 0 0) → OKn (ι 78 0 0) T i) ∧ (∀ i, i < 0 → OKr (ι 78 0 0) T i) ∧ a = rb (ι 78 0 0) + 9 * 0 ∧ MSo ι1 o (ι 78 0 0) (cS (ι 78 0 0)) ∧ MNo ι1 o (ι 78 0 0) (cN (ι 78 0 0)) ∧ MRo ι1 o (ι 78 0 0) 0)) := Or.inl ⟨hg0, (hst.resolve_right (fun z => absurd hg0 (by rw [z.1]; decide))).2⟩
          refine V_iconst (v := 0) C d_Mo_fill_330 (by decide) ?_
          refine V_istore (lv' := [(6, _), (0, _), (1, _), (2, _), (3, _), (4, _), (5, _)]) C d_Mo_fill_331 (by decide) rfl ?_
          refine V_pick [0, 1, 2, 3, 4, 5, 6] rfl ?_
          exact refs _ 0 ι1 a g (Nat.lt_succ_self _) (by omega) hFO hBD ha hnx
        · have hg1 : ¬ g = 0 := h252
          obtain ⟨hg9, hst1⟩ := hst.resolve_left (fun z => hg1 z.1)
          subst hg9
          obtain ⟨hh1, hS, hN, hak, hMS, hMN, hMR⟩ := hst1
          have hcl := hd_le hh1
          obtain ⟨hcl1, hcl2, hcl3⟩ := hcl hby
          have hf9 : ι1 78 0 0 = ι 78 0 0 := hFO.f78
          have jbad : ∀ (ι2 : Io) (a2 : Nat) (y7 : Int32) (y8 : Int32) (y9 : Int32) (y10 : Int32), FO o ι ι2 → BD ι2 → a2 ≤ 1400 → ¬ GOOD (ι 78 0 0) T → V p l e { frames := 3, cells := 0, slots := 0, locals := 69 } s m args below meth c D B α0 ν 12 Q 0 0 ν (tS ι2 a2 0) ρ ℓ 304 [(10, sI y10), (9, sI y9), (8, sI y8), (7, sI y7), (6, sI (nI k)), (0, sR 10 0 0), (1, sI (nI o)), (2, sI (nI T)), (3, sI (nI (cS (ι 78 0 0)))), (4, sI (nI (cN (ι 78 0 0)))), (5, sI (nI (cR (ι 78 0 0))))] [] := by
            intro ι2 a2 y7 y8 y9 y10 hFO2 hBD2 ha2 hng
            refine V_aload_n C d_Mo_fill_304 rfl ?_
            refine V_getI (kx := 40) C d_Mo_fill_305 cf_Mo (by decide) k_Mo_265 hM.al rfl ?_
            refine V_if_eq (tgt := 324) C d_Mo_fill_308 (by decide) (fun h308 => ?_) (fun h308 => absurd rfl h308)
            refine V_iinc (v := nI (k + 1)) (lv' := [(6, _), (10, _), (9, _), (8, _), (7, _), (0, _), (1, _), (2, _), (3, _), (4, _), (5, _)]) C d_Mo_fill_324 rfl (nI_1 k) (by decide) rfl ?_
            refine V_goto (tgt := 241) C d_Mo_fill_327 (by decide) ?_
            refine V_pick [0, 5, 6, 7, 8, 9, 10] rfl ?_
            exact ih (k + 1) ι2 a2 0 (by omega) (by omega) hFO2 hBD2 ha2 (Or.inl ⟨rfl, hng⟩)
          refine V_pick [0, 1, 2, 3, 4, 5, 6] rfl ?_
          by_cases hfit : a + 8 ≤ T
          · skip
            refine V_aload_n C d_Mo_fill_255 rfl ?_
            refine V_iconst (v := 4) C d_Mo_fill_256 (by decide) ?_
            refine V_iload_n C d_Mo_fill_257 rfl ?_
            refine V_callV (as := [_, _]) C d_Mo_fill_258 (k_takeO hM hf9 (w := 4) (by omega) (by omega) hT (by omega)) m_Mo_take cf_Mo k_Mo_268 hM.al ⟨by decide, by decide⟩ (Nat.le_of_ble_eq_true rfl) ⟨by decide, by decide⟩ rfl ?_
            rintro _ _ _ _ _ ⟨rfl, rfl, rfl, rfl, rfl⟩
            dsimp only [Option.toList, List.cons_append, List.nil_append]
            refine V_eqi (y := nA (ι 78 0 0) k) (by subst hak; rfl) ?_
            refine V_istore (lv' := [(7, _), (6, _), (0, _), (1, _), (2, _), (3, _), (4, _), (5, _)]) C d_Mo_fill_261 (by decide) rfl ?_
            refine V_aload_n C d_Mo_fill_263 rfl ?_
            refine V_iconst (v := 1) C d_Mo_fill_264 (by decide) ?_
            refine V_iload_n C d_Mo_fill_265 rfl ?_
            refine V_callV (as := [_, _]) C d_Mo_fill_266 (k_takeO hM hf9 (w := 1) (by omega) (by omega) hT (by omega)) m_Mo_take cf_Mo k_Mo_268 hM.al ⟨by decide, by decide⟩ (Nat.le_of_ble_eq_true rfl) ⟨by decide, by decide⟩ rfl ?_
            rintro _ _ _ _ _ ⟨rfl, rfl, rfl, rfl, rfl⟩
            dsimp only [Option.toList, List.cons_append, List.nil_append]
            refine V_eqi (y := nS (ι 78 0 0) k) (by subst hak; rfl) ?_
            refine V_istore (lv' := [(8, _), (7, _), (6, _), (0, _), (1, _), (2, _), (3, _), (4, _), (5, _)]) C d_Mo_fill_269 (by decide) rfl ?_
            refine V_aload_n C d_Mo_fill_271 rfl ?_
            refine V_iconst (v := 1) C d_Mo_fill_272 (by decide) ?_
            refine V_iload_n C d_Mo_fill_273 rfl ?_
            refine V_callV (as := [_, _]) C d_Mo_fill_274 (k_takeO hM hf9 (w := 1) (by omega) (by omega) hT (by omega)) m_Mo_take cf_Mo k_Mo_268 hM.al ⟨by decide, by decide⟩ (Nat.le_of_ble_eq_true rfl) ⟨by decide, by decide⟩ rfl ?_
            rintro _ _ _ _ _ ⟨rfl, rfl, rfl, rfl, rfl⟩
            dsimp only [Option.toList, List.cons_append, List.nil_append]
            refine V_eqi (y := nW (ι 78 0 0) k) (by subst hak; rfl) ?_
            refine V_istore (lv' := [(9, _), (8, _), (7, _), (6, _), (0, _), (1, _), (2, _), (3, _), (4, _), (5, _)]) C d_Mo_fill_277 (by decide) rfl ?_
            refine V_aload_n C d_Mo_fill_279 rfl ?_
            refine V_iconst (v := 2) C d_Mo_fill_280 (by decide) ?_
            refine V_iload_n C d_Mo_fill_281 rfl ?_
            refine V_callV (as := [_, _]) C d_Mo_fill_282 (k_takeO hM hf9 (w := 2) (by omega) (by omega) hT (by omega)) m_Mo_take cf_Mo k_Mo_268 hM.al ⟨by decide, by decide⟩ (Nat.le_of_ble_eq_true rfl) ⟨by decide, by decide⟩ rfl ?_
            rintro _ _ _ _ _ ⟨rfl, rfl, rfl, rfl, rfl⟩
            dsimp only [Option.toList, List.cons_append, List.nil_append]
            refine V_eqi (y := nP (ι 78 0 0) k) (by subst hak; rfl) ?_
            refine V_istore (lv' := [(10, _), (9, _), (8, _), (7, _), (6, _), (0, _), (1, _), (2, _), (3, _), (4, _), (5, _)]) C d_Mo_fill_285 (by decide) rfl ?_
            refine V_aload_n C d_Mo_fill_287 rfl ?_
            refine V_aload_n C d_Mo_fill_288 rfl ?_
            refine V_iload_n C d_Mo_fill_289 rfl ?_
            refine V_iload C d_Mo_fill_290 rfl ?_
            refine V_iload C d_Mo_fill_292 rfl ?_
            refine V_iload C d_Mo_fill_294 rfl ?_
            refine V_iload C d_Mo_fill_296 rfl ?_
            refine V_callV (as := [_, _, _, _, _]) C d_Mo_fill_298 (k_isName hM ho hBD.b47 hBD.b42) m_Mo_isName cf_Mo k_Mo_129 hM.al ⟨by decide, by decide⟩ (Nat.le_of_ble_eq_true rfl) ⟨by decide, by decide⟩ rfl ?_
            rintro _ _ _ _ _ ⟨rfl, rfl, rfl, rfl, rfl⟩
            dsimp only [Option.toList, List.cons_append, List.nil_append]
            refine V_callV (as := [_]) C d_Mo_fill_301 (k_need hM) m_Mo_need cf_Mo k_Mo_271 hM.al ⟨by decide, by decide⟩ (Nat.le_of_ble_eq_true rfl) ⟨by decide, by decide⟩ rfl ?_
            rintro _ _ _ _ _ ⟨rfl, rfl, rfl, rfl, rfl⟩
            dsimp only [Option.toList, List.cons_append, List.nil_append]
            refine V_pick [0, 1, 2, 3, 4, 5, 6, 7, 8, 9, 10] rfl ?_
            by_cases hok : isNm ι1 o (nA (ι 78 0 0) k) (nS (ι 78 0 0) k) (nW (ι 78 0 0) k) (nP (ι 78 0 0) k)
            · refine V_io (show _ = tS ι1 (a + 8) 1 by rw [b2_t ⟨by decide, by rw [b2_t hok]; decide⟩]) ?_
              refine V_aload_n C d_Mo_fill_304 rfl ?_
              refine V_getI (kx := 40) C d_Mo_fill_305 cf_Mo (by decide) k_Mo_265 hM.al rfl ?_
              refine V_if_eq (tgt := 324) C d_Mo_fill_308 (by decide) (fun h308 => absurd (show (1 : Int32) = 0 from h308) (by decide)) (fun h308 => ?_)
              refine V_aload_n C d_Mo_fill_311 rfl ?_
              refine V_iload_n C d_Mo_fill_312 rfl ?_
              refine V_iload C d_Mo_fill_313 rfl ?_
              refine V_iload C d_Mo_fill_315 rfl ?_
              refine V_iload C d_Mo_fill_317 rfl ?_
              refine V_iload C d_Mo_fill_319 rfl ?_
              refine V_callV (as := [_, _, _, _, _]) C d_Mo_fill_321 (k_addName hM ho hBD.b47 (by rw [MNoM hMN (by omega)]; omega)) m_Mo_addName cf_Mo k_Mo_133 hM.al ⟨by decide, by decide⟩ (Nat.le_of_ble_eq_true rfl) ⟨by decide, by decide⟩ rfl ?_
              rintro _ _ _ _ _ ⟨rfl, rfl, rfl, rfl, rfl⟩
              dsimp only [Option.toList, List.cons_append, List.nil_append]
              refine V_iinc (v := nI (k + 1)) (lv' := [(6, _), (10, _), (9, _), (8, _), (7, _), (0, _), (1, _), (2, _), (3, _), (4, _), (5, _)]) C d_Mo_fill_324 rfl (nI_1 k) (by decide) rfl ?_
              refine V_goto (tgt := 241) C d_Mo_fill_327 (by decide) ?_
              refine V_pick [0, 5, 6, 7, 8, 9, 10] rfl ?_
              have hk2 : mn ι1 47 o < 12 := by rw [MNoM hMN (by omega)]; omega
              exact ih (k + 1) _ (a + 8) 1 (by omega) (by omega) (hFO.nam hk2) (hBD.nam (by omega) hk2 hok) (by omega) (Or.inr ⟨rfl, hh1, hS, fun i hi => by
                by_cases hq : i = k
                · subst hq; exact ⟨by omega, (nm_eq hMS (hcl hby).1 hMN (by omega)).mp hok⟩
                · exact hN i (by omega), by omega, hMS, hMN.nam (by omega), hMR⟩)
            · refine V_io (show _ = tS ι1 (a + 8) 0 by rw [b2_f (fun z => z.2 (b2_f hok))]) ?_
              exact jbad ι1 (a + 8) _ _ _ _ hFO hBD (by omega) (fun z => hok ((nm_eq hMS (hcl hby).1 hMN (by omega)).mpr (z.2.2.1 k hk).2))
          · skip
            refine V_aload_n C d_Mo_fill_255 rfl ?_
            refine V_iconst (v := 4) C d_Mo_fill_256 (by decide) ?_
            refine V_iload_n C d_Mo_fill_257 rfl ?_
            refine V_callV (as := [_, _]) C d_Mo_fill_258 (k_take hM (w := 4) (by omega) (by omega) (by first | assumption | exact tkA_le (by first | assumption | exact tkA_le (by first | assumption | exact tkA_le (by first | assumption | exact tkA_le (by assumption) hT) hT) hT) hT) hT) m_Mo_take cf_Mo k_Mo_268 hM.al ⟨by decide, by decide⟩ (Nat.le_of_ble_eq_true rfl) ⟨by decide, by decide⟩ rfl ?_
            rintro _ _ _ _ _ ⟨rfl, rfl, rfl, rfl, rfl⟩
            dsimp only [Option.toList, List.cons_append, List.nil_append]
            refine V_istore (lv' := [(7, _), (6, _), (0, _), (1, _), (2, _), (3, _), (4, _), (5, _)]) C d_Mo_fill_261 (by decide) rfl ?_
            refine V_aload_n C d_Mo_fill_263 rfl ?_
            refine V_iconst (v := 1) C d_Mo_fill_264 (by decide) ?_
            refine V_iload_n C d_Mo_fill_265 rfl ?_
            refine V_callV (as := [_, _]) C d_Mo_fill_266 (k_take hM (w := 1) (by omega) (by omega) (by first | assumption | exact tkA_le (by first | assumption | exact tkA_le (by first | assumption | exact tkA_le (by first | assumption | exact tkA_le (by assumption) hT) hT) hT) hT) hT) m_Mo_take cf_Mo k_Mo_268 hM.al ⟨by decide, by decide⟩ (Nat.le_of_ble_eq_true rfl) ⟨by decide, by decide⟩ rfl ?_
            rintro _ _ _ _ _ ⟨rfl, rfl, rfl, rfl, rfl⟩
            dsimp only [Option.toList, List.cons_append, List.nil_append]
            refine V_istore (lv' := [(8, _), (7, _), (6, _), (0, _), (1, _), (2, _), (3, _), (4, _), (5, _)]) C d_Mo_fill_269 (by decide) rfl ?_
            refine V_aload_n C d_Mo_fill_271 rfl ?_
            refine V_iconst (v := 1) C d_Mo_fill_272 (by decide) ?_
            refine V_iload_n C d_Mo_fill_273 rfl ?_
            refine V_callV (as := [_, _]) C d_Mo_fill_274 (k_take hM (w := 1) (by omega) (by omega) (by first | assumption | exact tkA_le (by first | assumption | exact tkA_le (by first | assumption | exact tkA_le (by first | assumption | exact tkA_le (by assumption) hT) hT) hT) hT) hT) m_Mo_take cf_Mo k_Mo_268 hM.al ⟨by decide, by decide⟩ (Nat.le_of_ble_eq_true rfl) ⟨by decide, by decide⟩ rfl ?_
            rintro _ _ _ _ _ ⟨rfl, rfl, rfl, rfl, rfl⟩
            dsimp only [Option.toList, List.cons_append, List.nil_append]
            refine V_istore (lv' := [(9, _), (8, _), (7, _), (6, _), (0, _), (1, _), (2, _), (3, _), (4, _), (5, _)]) C d_Mo_fill_277 (by decide) rfl ?_
            refine V_aload_n C d_Mo_fill_279 rfl ?_
            refine V_iconst (v := 2) C d_Mo_fill_280 (by decide) ?_
            refine V_iload_n C d_Mo_fill_281 rfl ?_
            refine V_callV (as := [_, _]) C d_Mo_fill_282 (k_take hM (w := 2) (by omega) (by omega) (by first | assumption | exact tkA_le (by first | assumption | exact tkA_le (by first | assumption | exact tkA_le (by first | assumption | exact tkA_le (by assumption) hT) hT) hT) hT) hT) m_Mo_take cf_Mo k_Mo_268 hM.al ⟨by decide, by decide⟩ (Nat.le_of_ble_eq_true rfl) ⟨by decide, by decide⟩ rfl ?_
            rintro _ _ _ _ _ ⟨rfl, rfl, rfl, rfl, rfl⟩
            dsimp only [Option.toList, List.cons_append, List.nil_append]
            refine V_istore (lv' := [(10, _), (9, _), (8, _), (7, _), (6, _), (0, _), (1, _), (2, _), (3, _), (4, _), (5, _)]) C d_Mo_fill_285 (by decide) rfl ?_
            refine V_aload_n C d_Mo_fill_287 rfl ?_
            refine V_aload_n C d_Mo_fill_288 rfl ?_
            refine V_iload_n C d_Mo_fill_289 rfl ?_
            refine V_iload C d_Mo_fill_290 rfl ?_
            refine V_iload C d_Mo_fill_292 rfl ?_
            refine V_iload C d_Mo_fill_294 rfl ?_
            refine V_iload C d_Mo_fill_296 rfl ?_
            refine V_callV (as := [_, _, _, _, _]) C d_Mo_fill_298 (k_isName hM ho hBD.b47 hBD.b42) m_Mo_isName cf_Mo k_Mo_129 hM.al ⟨by decide, by decide⟩ (Nat.le_of_ble_eq_true rfl) ⟨by decide, by decide⟩ rfl ?_
            rintro _ _ _ _ _ ⟨rfl, rfl, rfl, rfl, rfl⟩
            dsimp only [Option.toList, List.cons_append, List.nil_append]
            refine V_callV (as := [_]) C d_Mo_fill_301 (k_need hM) m_Mo_need cf_Mo k_Mo_271 hM.al ⟨by decide, by decide⟩ (Nat.le_of_ble_eq_true rfl) ⟨by decide, by decide⟩ rfl ?_
            rintro _ _ _ _ _ ⟨rfl, rfl, rfl, rfl, rfl⟩
            dsimp only [Option.toList, List.cons_append, List.nil_append]
            refine V_pick [0, 1, 2, 3, 4, 5, 6, 7, 8, 9, 10] rfl ?_
            refine V_io (show _ = tS ι1 _ 0 by rw [b2_f (fun z => z.1 (tk_bad4 hfit))]) ?_
            exact jbad ι1 _ _ _ _ _ hFO hBD (by first | assumption | exact tkA_le (by first | assumption | exact tkA_le (by first | assumption | exact tkA_le (by first | assumption | exact tkA_le (by first | assumption | exact tkA_le (by assumption) hT) hT) hT) hT) hT) (fun z => hfit (by have := (z.2.2.1 k hk).1; omega))
  have secs : ∀ (f : Nat) (k : Nat) (ι1 : Io) (a : Nat) (g : Int32), cS (ι 78 0 0) - k < f → (k ≤ cS (ι 78 0 0)) → (FO o ι ι1) → (BD ι1) → (a ≤ 1400) → (((g = 0 ∧ ¬ GOOD (ι 78 0 0) T) ∨ (g = 1 ∧ HD (ι 78 0 0) ∧ (∀ i, i < k → OKs (ι 78 0 0) T i) ∧ a = so (ι 78 0 0) k ∧ MSo ι1 o (ι 78 0 0) k ∧ MNo ι1 o (ι 78 0 0) 0 ∧ MRo ι1 o (ι 78 0 0) 0))) → V p l e { frames := 3, cells := 0, slots := 0, locals := 69 } s m args below meth c D B α0 ν 12 Q 0 0 ν (tS ι1 a g) ρ ℓ 110 [(6, sI (nI k)), (0, sR 10 0 0), (1, sI (nI o)), (2, sI (nI T)), (3, sI (nI (cS (ι 78 0 0)))), (4, sI (nI (cN (ι 78 0 0)))), (5, sI (nI (cR (ι 78 0 0))))] [] := by
    intro f
    induction f with
    | zero => intros; omega
    | succ f ih =>
      intro k ι1 a g hf9_ hk0 hFO hBD ha hst
      refine V_iload C d_Mo_fill_110 rfl ?_
      refine V_iload_n C d_Mo_fill_112 rfl ?_
      refine V_icmp_ge (tgt := 238) C d_Mo_fill_113 (by decide) (fun h113 => ?_) (fun h113 => ?_)
      · have hk : k = cS (ι 78 0 0) := by have := (nI_leI (by omega) (by omega)).mp h113; omega
        subst hk
        have hnx : ((g = 0 ∧ ¬ GOOD (ι 78 0 0) T) ∨ (g = 1 ∧ HD (ι 78 0 0) ∧ (∀ i, i < cS (ι 78 0 0) → OKs (ι 78 0 0) T i) ∧ (∀ i, i < 0 → OKn (ι 78 0 0) T i) ∧ a = nb (ι 78 0 0) + 8 * 0 ∧ MSo ι1 o (ι 78 0 0) (cS (ι 78 0 0)) ∧ MNo ι1 o (ι 78 0 0) 0 ∧ MRo ι1 o (ι 78 0 0) 0)) := hst.imp id (fun h => ⟨h.1, h.2.1, h.2.2.1, fun i hi => absurd hi (Nat.not_lt_zero i), h.2.2.2.1, h.2.2.2.2⟩)
        refine V_iconst (v := 0) C d_Mo_fill_238 (by decide) ?_
        refine V_istore (lv' := [(6, _), (0, _), (1, _), (2, _), (3, _), (4, _), (5, _)]) C d_Mo_fill_239 (by decide) rfl ?_
        refine V_pick [0, 1, 2, 3, 4, 5, 6] rfl ?_
        exact nams _ 0 ι1 a g (Nat.lt_succ_self _) (by omega) hFO hBD ha hnx
      · have hk : k < cS (ι 78 0 0) := Nat.lt_of_not_le fun z => h113 ((nI_leI (by omega) (by omega)).mpr z)
        refine V_aload_n C d_Mo_fill_116 rfl ?_
        refine V_getI (kx := 40) C d_Mo_fill_117 cf_Mo (by decide) k_Mo_265 hM.al rfl ?_
        refine V_if_eq (tgt := 238) C d_Mo_fill_120 (by decide) (fun h120 => ?_) (fun h120 => ?_)
        · have hg0 : g = 0 := h120
          have hnx : ((g = 0 ∧ ¬ GOOD (ι 78 0 0) T) ∨ (g = 1 ∧ HD (ι 78 0 0) ∧ (∀ i, i < cS (ι 78 0 0) → OKs (ι 78 0 0) T i) ∧ (∀ i, i < 0 → OKn (ι 78 0 0) T i) ∧ a = nb (ι 78 0 0) + 8 * 0 ∧ MSo ι1 o (ι 78 0 0) (cS (ι 78 0 0)) ∧ MNo ι1 o (ι 78 0 0) 0 ∧ MRo ι1 o (ι 78 0 0) 0)) := Or.inl ⟨hg0, (hst.resolve_right (fun z => absurd hg0 (by rw [z.1]; decide))).2⟩
          refine V_iconst (v := 0) C d_Mo_fill_238 (by decide) ?_
          refine V_istore (lv' := [(6, _), (0, _), (1, _), (2, _), (3, _), (4, _), (5, _)]) C d_Mo_fill_239 (by decide) rfl ?_
          refine V_pick [0, 1, 2, 3, 4, 5, 6] rfl ?_
          exact nams _ 0 ι1 a g (Nat.lt_succ_self _) (by omega) hFO hBD ha hnx
        · have hg1 : ¬ g = 0 := h120
          obtain ⟨hg9, hst1⟩ := hst.resolve_left (fun z => hg1 z.1)
          subst hg9
          obtain ⟨hh1, hS, hak, hMS, hMN, hMR⟩ := hst1
          have hcl := hd_le hh1
          obtain ⟨hcl1, hcl2, hcl3⟩ := hcl hby
          have hcl8 := (hcl hby).1
          have hf9 : ι1 78 0 0 = ι 78 0 0 := hFO.f78
          have jbad : ∀ (ι2 : Io) (a2 : Nat) (y7 y8 y9 : Int32), FO o ι ι2 → BD ι2 → a2 ≤ 1400 → ¬ GOOD (ι 78 0 0) T → V p l e { frames := 3, cells := 0, slots := 0, locals := 69 } s m args below meth c D B α0 ν 12 Q 0 0 ν (tS ι2 a2 0) ρ ℓ 160 [(9, sI y9), (8, sI y8), (7, sI y7), (6, sI (nI k)), (0, sR 10 0 0), (1, sI (nI o)), (2, sI (nI T)), (3, sI (nI (cS (ι 78 0 0)))), (4, sI (nI (cN (ι 78 0 0)))), (5, sI (nI (cR (ι 78 0 0))))] [] := by
            intro ι2 a2 y7 y8 y9 hFO2 hBD2 ha2 hng
            refine V_aload_n C d_Mo_fill_160 rfl ?_
            refine V_getI (kx := 40) C d_Mo_fill_161 cf_Mo (by decide) k_Mo_265 hM.al rfl ?_
            refine V_if_eq (tgt := 178) C d_Mo_fill_164 (by decide) (fun h164 => ?_) (fun h164 => absurd rfl h164)
            refine V_iconst (v := 0) C d_Mo_fill_178 (by decide) ?_
            refine V_istore (lv' := [(10, _), (9, _), (8, _), (7, _), (6, _), (0, _), (1, _), (2, _), (3, _), (4, _), (5, _)]) C d_Mo_fill_179 (by decide) rfl ?_
            refine V_iload C d_Mo_fill_181 rfl ?_
            refine V_iload C d_Mo_fill_183 rfl ?_
            refine V_icmp_ge (tgt := 232) C d_Mo_fill_185 (by decide) (fun h185 => ?_) (fun h185 => ?_)
            · refine V_iinc (v := nI (k + 1)) (lv' := [(6, _), (10, _), (9, _), (8, _), (7, _), (0, _), (1, _), (2, _), (3, _), (4, _), (5, _)]) C d_Mo_fill_232 rfl (nI_1 k) (by decide) rfl ?_
              refine V_goto (tgt := 110) C d_Mo_fill_235 (by decide) ?_
              refine V_pick [0, 5, 6, 7, 8, 9, 10] rfl ?_
              exact ih (k + 1) ι2 a2 0 (by omega) (by omega) hFO2 hBD2 ha2 (Or.inl ⟨rfl, hng⟩)
            · refine V_aload_n C d_Mo_fill_188 rfl ?_
              refine V_getI (kx := 40) C d_Mo_fill_189 cf_Mo (by decide) k_Mo_265 hM.al rfl ?_
              refine V_if_eq (tgt := 232) C d_Mo_fill_192 (by decide) (fun h192 => ?_) (fun h192 => absurd rfl h192)
              refine V_iinc (v := nI (k + 1)) (lv' := [(6, _), (10, _), (9, _), (8, _), (7, _), (0, _), (1, _), (2, _), (3, _), (4, _), (5, _)]) C d_Mo_fill_232 rfl (nI_1 k) (by decide) rfl ?_
              refine V_goto (tgt := 110) C d_Mo_fill_235 (by decide) ?_
              refine V_pick [0, 5, 6, 7, 8, 9, 10] rfl ?_
              exact ih (k + 1) ι2 a2 0 (by omega) (by omega) hFO2 hBD2 ha2 (Or.inl ⟨rfl, hng⟩)
          refine V_pick [0, 1, 2, 3, 4, 5, 6] rfl ?_
          by_cases hfit : a + 4 ≤ T
          · skip
            refine V_aload_n C d_Mo_fill_123 rfl ?_
            refine V_iconst (v := 1) C d_Mo_fill_124 (by decide) ?_
            refine V_iload_n C d_Mo_fill_125 rfl ?_
            refine V_callV (as := [_, _]) C d_Mo_fill_126 (k_takeO hM hf9 (w := 1) (by omega) (by omega) hT (by omega)) m_Mo_take cf_Mo k_Mo_268 hM.al ⟨by decide, by decide⟩ (Nat.le_of_ble_eq_true rfl) ⟨by decide, by decide⟩ rfl ?_
            rintro _ _ _ _ _ ⟨rfl, rfl, rfl, rfl, rfl⟩
            dsimp only [Option.toList, List.cons_append, List.nil_append]
            refine V_eqi (y := sK (ι 78 0 0) k) (by subst hak; rfl) ?_
            refine V_istore (lv' := [(7, _), (6, _), (0, _), (1, _), (2, _), (3, _), (4, _), (5, _)]) C d_Mo_fill_129 (by decide) rfl ?_
            refine V_aload_n C d_Mo_fill_131 rfl ?_
            refine V_iconst (v := 1) C d_Mo_fill_132 (by decide) ?_
            refine V_iload_n C d_Mo_fill_133 rfl ?_
            refine V_callV (as := [_, _]) C d_Mo_fill_134 (k_takeO hM hf9 (w := 1) (by omega) (by omega) hT (by omega)) m_Mo_take cf_Mo k_Mo_268 hM.al ⟨by decide, by decide⟩ (Nat.le_of_ble_eq_true rfl) ⟨by decide, by decide⟩ rfl ?_
            rintro _ _ _ _ _ ⟨rfl, rfl, rfl, rfl, rfl⟩
            dsimp only [Option.toList, List.cons_append, List.nil_append]
            refine V_eqi (y := sP (ι 78 0 0) k) (by subst hak; rfl) ?_
            refine V_istore (lv' := [(8, _), (7, _), (6, _), (0, _), (1, _), (2, _), (3, _), (4, _), (5, _)]) C d_Mo_fill_137 (by decide) rfl ?_
            refine V_aload_n C d_Mo_fill_139 rfl ?_
            refine V_iconst (v := 2) C d_Mo_fill_140 (by decide) ?_
            refine V_iload_n C d_Mo_fill_141 rfl ?_
            refine V_callV (as := [_, _]) C d_Mo_fill_142 (k_takeO hM hf9 (w := 2) (by omega) (by omega) hT (by omega)) m_Mo_take cf_Mo k_Mo_268 hM.al ⟨by decide, by decide⟩ (Nat.le_of_ble_eq_true rfl) ⟨by decide, by decide⟩ rfl ?_
            rintro _ _ _ _ _ ⟨rfl, rfl, rfl, rfl, rfl⟩
            dsimp only [Option.toList, List.cons_append, List.nil_append]
            refine V_eqi (y := sZ (ι 78 0 0) k) (by subst hak; rfl) ?_
            refine V_istore (lv' := [(9, _), (8, _), (7, _), (6, _), (0, _), (1, _), (2, _), (3, _), (4, _), (5, _)]) C d_Mo_fill_145 (by decide) rfl ?_
            refine V_aload_n C d_Mo_fill_147 rfl ?_
            refine V_iload C d_Mo_fill_148 rfl ?_
            refine V_iload C d_Mo_fill_150 rfl ?_
            refine V_iload C d_Mo_fill_152 rfl ?_
            refine V_callS (as := [_, _, _]) C d_Mo_fill_154 c_Mo_isSection m_Mo_isSection k_Mo_115 ⟨by decide, by decide⟩ (Nat.le_of_ble_eq_true rfl) ⟨by decide, by decide⟩ rfl ?_
            rintro _ _ _ _ _ ⟨rfl, rfl, rfl, rfl, rfl⟩
            dsimp only [Option.toList, List.cons_append, List.nil_append]
            refine V_callV (as := [_]) C d_Mo_fill_157 (k_need hM) m_Mo_need cf_Mo k_Mo_271 hM.al ⟨by decide, by decide⟩ (Nat.le_of_ble_eq_true rfl) ⟨by decide, by decide⟩ rfl ?_
            rintro _ _ _ _ _ ⟨rfl, rfl, rfl, rfl, rfl⟩
            dsimp only [Option.toList, List.cons_append, List.nil_append]
            refine V_pick [0, 1, 2, 3, 4, 5, 6, 7, 8, 9] rfl ?_
            by_cases hsc : isSc (sK (ι 78 0 0) k) (sP (ι 78 0 0) k) (sZ (ι 78 0 0) k)
            · refine V_io (show _ = tS ι1 (a + 4) 1 by rw [b2_t ⟨by decide, by rw [b2_t hsc]; decide⟩]) ?_
              obtain ⟨z9, hz9, hzz⟩ := sc_z hsc
              have hzc : cl (sZ (ι 78 0 0) k) = z9 := by rw [hzz]; exact nI_clamp (by omega)
              have hzall : ∀ j, j < k → cl (sZ (ι 78 0 0) j) ≤ 128 := fun j hj => by obtain ⟨x, h1, h2⟩ := sc_z (hS j hj).2.1; rw [h2, show cl (nI x) = x from nI_clamp (by omega)]; exact h1
              have hk2 : mn ι1 42 o < 8 := by rw [MSoM hMS (by omega)]; omega
              have dat : ∀ (f : Nat) (i : Nat) (ι2 : Io) (a2 : Nat) (g2 : Int32), z9 - i < f → (i ≤ z9) → (FO o ι ι2) → (BD ι2) → (a2 ≤ 1400) → (((g2 = 0 ∧ ¬ GOOD (ι 78 0 0) T) ∨ (g2 = 1 ∧ a2 = so (ι 78 0 0) k + 4 + i ∧ a2 ≤ T ∧ MSd ι2 o (ι 78 0 0) k i ∧ MNo ι2 o (ι 78 0 0) 0 ∧ MRo ι2 o (ι 78 0 0) 0 ∧ (sK (ι 78 0 0) k = 3 → i = 0)))) → V p l e { frames := 3, cells := 0, slots := 0, locals := 69 } s m args below meth c D B α0 ν 12 Q 0 0 ν (tS ι2 a2 g2) ρ ℓ 181 [(10, sI (nI i)), (9, sI (sZ (ι 78 0 0) k)), (8, sI (sP (ι 78 0 0) k)), (7, sI (sK (ι 78 0 0) k)), (6, sI (nI k)), (0, sR 10 0 0), (1, sI (nI o)), (2, sI (nI T)), (3, sI (nI (cS (ι 78 0 0)))), (4, sI (nI (cN (ι 78 0 0)))), (5, sI (nI (cR (ι 78 0 0))))] [] := by
                intro f
                induction f with
                | zero => intros; omega
                | succ f ihd =>
                          intro i ι2 a2 g2 hfd hi128 hFO2 hBD2 ha2 hst2
                          have okS : so (ι 78 0 0) (k + 1) ≤ T ∧ so (ι 78 0 0) (k + 1) = a2 → ∀ i, i < k + 1 → OKs (ι 78 0 0) T i := fun z i hi => by
                            by_cases hq : i = k
                            · subst hq; exact ⟨by omega, hsc, z.1⟩
                            · exact hS i (by omega)
                          refine V_iload C d_Mo_fill_181 rfl ?_
                          refine V_iload C d_Mo_fill_183 rfl ?_
                          refine V_eqi (y := nI z9) hzz ?_
                          refine V_icmp_ge (tgt := 232) C d_Mo_fill_185 (by decide) (fun h185 => ?_) (fun h185 => ?_)
                          · have hlen0 : z9 ≤ i := (nI_leI (by omega) (by omega)).mp h185
                            have hlen9 : i = cl (sZ (ι 78 0 0) k) := by omega
                            have hgo := ih (k + 1) ι2 a2 g2 (by omega) (by omega) hFO2 hBD2 ha2 (by
                              rcases hst2 with ⟨hg0, hng⟩ | ⟨hg1, ha2e, haT, hMSd, hMN2, hMR2, hz3⟩
                              · exact Or.inl ⟨hg0, hng⟩
                              · have hen : sK (ι 78 0 0) k = 3 ∨ i = cl (sZ (ι 78 0 0) k) := Or.inr hlen9
                                have hle2 : so (ι 78 0 0) (k + 1) ≤ T ∧ so (ι 78 0 0) (k + 1) = a2 := by
                                  rw [so_s]
                                  split
                                  · rename_i h3; have := hz3 h3; omega
                                  · omega
                                exact Or.inr ⟨hg1, hh1, okS hle2, by rw [hle2.2], hMSd.en hen, hMN2, hMR2⟩)
                            refine V_iinc (v := nI (k + 1)) (lv' := [(6, _), (10, _), (9, _), (8, _), (7, _), (0, _), (1, _), (2, _), (3, _), (4, _), (5, _)]) C d_Mo_fill_232 rfl (nI_1 k) (by decide) rfl ?_
                            refine V_goto (tgt := 110) C d_Mo_fill_235 (by decide) ?_
                            refine V_pick [0, 5, 6, 7, 8, 9, 10] rfl ?_
                            exact hgo
                          · have hil : i < z9 := Nat.lt_of_not_le fun z => h185 ((nI_leI (by omega) (by omega)).mpr z)
                            have hil2 : i < cl (sZ (ι 78 0 0) k) := by omega
                            refine V_aload_n C d_Mo_fill_188 rfl ?_
                            refine V_getI (kx := 40) C d_Mo_fill_189 cf_Mo (by decide) k_Mo_265 hM.al rfl ?_
                            refine V_if_eq (tgt := 232) C d_Mo_fill_192 (by decide) (fun h192 => ?_) (fun h192 => ?_)
                            · have hg0 : g2 = 0 := h192
                              have hgo := ih (k + 1) ι2 a2 g2 (by omega) (by omega) hFO2 hBD2 ha2 (Or.inl ⟨hg0, (hst2.resolve_right (fun z => absurd hg0 (by rw [z.1]; decide))).2⟩)
                              refine V_iinc (v := nI (k + 1)) (lv' := [(6, _), (10, _), (9, _), (8, _), (7, _), (0, _), (1, _), (2, _), (3, _), (4, _), (5, _)]) C d_Mo_fill_232 rfl (nI_1 k) (by decide) rfl ?_
                              refine V_goto (tgt := 110) C d_Mo_fill_235 (by decide) ?_
                              refine V_pick [0, 5, 6, 7, 8, 9, 10] rfl ?_
                              exact hgo
                            · obtain ⟨hg9, ha2e, haT, hMSd, hMN2, hMR2, hz3⟩ := hst2.resolve_left (fun z => h192 z.1)
                              subst hg9
                              refine V_iload C d_Mo_fill_195 rfl ?_
                              refine V_iconst (v := 3) C d_Mo_fill_197 (by decide) ?_
                              refine V_icmp_eq (tgt := 232) C d_Mo_fill_198 (by decide) (fun h198 => ?_) (fun h198 => ?_)
                              · have hen : sK (ι 78 0 0) k = 3 ∨ i = cl (sZ (ι 78 0 0) k) := Or.inl h198
                                have hle2 : so (ι 78 0 0) (k + 1) ≤ T ∧ so (ι 78 0 0) (k + 1) = a2 := by
                                  rw [so_s, if_pos h198]
                                  have := hz3 h198
                                  omega
                                have hgo := ih (k + 1) ι2 a2 1 (by omega) (by omega) hFO2 hBD2 ha2 (Or.inr ⟨rfl, hh1, okS hle2, by rw [hle2.2], hMSd.en hen, hMN2, hMR2⟩)
                                refine V_iinc (v := nI (k + 1)) (lv' := [(6, _), (10, _), (9, _), (8, _), (7, _), (0, _), (1, _), (2, _), (3, _), (4, _), (5, _)]) C d_Mo_fill_232 rfl (nI_1 k) (by decide) rfl ?_
                                refine V_goto (tgt := 110) C d_Mo_fill_235 (by decide) ?_
                                refine V_pick [0, 5, 6, 7, 8, 9, 10] rfl ?_
                                exact hgo
                              · refine V_aload_n C d_Mo_fill_201 rfl ?_
                                refine V_getR (kx := 6) C d_Mo_fill_202 cf_Mo (by decide) k_Mo_22 hM.al rfl hM.r6 ?_
                                refine V_sipush (v := 128) C d_Mo_fill_205 (by decide) ?_
                                refine V_bipush (v := 8) C d_Mo_fill_208 (by decide) ?_
                                refine V_iload_n C d_Mo_fill_210 rfl ?_
                                refine V_imul C d_Mo_fill_211 ?_
                                refine V_iload C d_Mo_fill_212 rfl ?_
                                refine V_iadd C d_Mo_fill_214 ?_
                                refine V_imul C d_Mo_fill_215 ?_
                                refine V_eqi (show nI 128 * (nI 8 * nI o + nI k) = nI (128 * (8 * o + k)) by rw [ixa 8 o k, pk_mul]) ?_
                                refine V_iload C d_Mo_fill_216 rfl ?_
                                refine V_iadd C d_Mo_fill_218 ?_
                                by_cases hfi : a2 + 1 ≤ T
                                · skip
                                  refine V_aload_n C d_Mo_fill_219 rfl ?_
                                  refine V_iconst (v := 1) C d_Mo_fill_220 (by decide) ?_
                                  refine V_iload_n C d_Mo_fill_221 rfl ?_
                                  refine V_callV (as := [_, _]) C d_Mo_fill_222 (k_takeO hM (hFO2.f78) (w := 1) (by omega) (by omega) hT hfi) m_Mo_take cf_Mo k_Mo_268 hM.al ⟨by decide, by decide⟩ (Nat.le_of_ble_eq_true rfl) ⟨by decide, by decide⟩ rfl ?_
                                  rintro _ _ _ _ _ ⟨rfl, rfl, rfl, rfl, rfl⟩
                                  dsimp only [Option.toList, List.cons_append, List.nil_append]
                                  refine V_iast C d_Mo_fill_225 (by decide) rfl hM.n6 (nI_add _ _) (by omega) rfl ?_
                                  refine V_iinc (v := nI (i + 1)) (lv' := [(10, _), (9, _), (8, _), (7, _), (6, _), (0, _), (1, _), (2, _), (3, _), (4, _), (5, _)]) C d_Mo_fill_226 rfl (nI_1 i) (by decide) rfl ?_
                                  refine V_goto (tgt := 181) C d_Mo_fill_229 (by decide) ?_
                                  refine V_pick [0, 1, 2, 3, 4, 5, 6, 7, 8, 9, 10] rfl ?_
                                  refine V_io (show _ = tS (up4 ι2 46 0 0 (128 * (8 * o + k) + i) (sD (ι 78 0 0) k i)) (a2 + 1) 1 by rw [tS_up (by decide)]; subst ha2e; rfl) ?_
                                  exact ihd (i + 1) _ (a2 + 1) 1 (by omega) (by omega) (FO.up (k := 128 * (8 * o + k) + i) hFO2 (by unfold inO; omega)) hBD2.dat (by omega) (Or.inr ⟨rfl, by omega, hfi, hMSd.dat (by omega) (by omega) hzall, hMN2, hMR2, fun z => absurd z h198⟩)
                                · skip
                                  refine V_aload_n C d_Mo_fill_219 rfl ?_
                                  refine V_iconst (v := 1) C d_Mo_fill_220 (by decide) ?_
                                  refine V_iload_n C d_Mo_fill_221 rfl ?_
                                  refine V_callV (as := [_, _]) C d_Mo_fill_222 (k_take hM (w := 1) (by omega) (by omega) ha2 hT) m_Mo_take cf_Mo k_Mo_268 hM.al ⟨by decide, by decide⟩ (Nat.le_of_ble_eq_true rfl) ⟨by decide, by decide⟩ rfl ?_
                                  rintro _ _ _ _ _ ⟨rfl, rfl, rfl, rfl, rfl⟩
                                  dsimp only [Option.toList, List.cons_append, List.nil_append]
                                  refine V_iast C d_Mo_fill_225 (by decide) rfl hM.n6 (nI_add _ _) (by omega) rfl ?_
                                  refine V_iinc (v := nI (i + 1)) (lv' := [(10, _), (9, _), (8, _), (7, _), (6, _), (0, _), (1, _), (2, _), (3, _), (4, _), (5, _)]) C d_Mo_fill_226 rfl (nI_1 i) (by decide) rfl ?_
                                  refine V_goto (tgt := 181) C d_Mo_fill_229 (by decide) ?_
                                  refine V_pick [0, 1, 2, 3, 4, 5, 6, 7, 8, 9, 10] rfl ?_
                                  refine V_io (show _ = tS (up4 ι2 46 0 0 (128 * (8 * o + k) + i) _) (tkA a2 1 T) 0 by rw [tS_up (by decide), tk_no hfi]) ?_
                                  exact ihd (i + 1) _ (tkA a2 1 T) 0 (by omega) (by omega) (FO.up (k := 128 * (8 * o + k) + i) hFO2 (by unfold inO; omega)) hBD2.dat (tkA_le ha2 hT) (Or.inl ⟨rfl, fun z => hfi (by have h9 := (z.2.1 k hk).2.2; rw [so_s, if_neg h198] at h9; omega)⟩)
              refine V_aload_n C d_Mo_fill_160 rfl ?_
              refine V_getI (kx := 40) C d_Mo_fill_161 cf_Mo (by decide) k_Mo_265 hM.al rfl ?_
              refine V_if_eq (tgt := 178) C d_Mo_fill_164 (by decide) (fun h164 => absurd (show (1 : Int32) = 0 from h164) (by decide)) (fun h164 => ?_)
              refine V_aload_n C d_Mo_fill_167 rfl ?_
              refine V_iload_n C d_Mo_fill_168 rfl ?_
              refine V_iload C d_Mo_fill_169 rfl ?_
              refine V_iload C d_Mo_fill_171 rfl ?_
              refine V_iload C d_Mo_fill_173 rfl ?_
              refine V_callV (as := [_, _, _, _]) C d_Mo_fill_175 (k_addSection hM ho hBD.b42 hk2) m_Mo_addSection cf_Mo k_Mo_118 hM.al ⟨by decide, by decide⟩ (Nat.le_of_ble_eq_true rfl) ⟨by decide, by decide⟩ rfl ?_
              rintro _ _ _ _ _ ⟨rfl, rfl, rfl, rfl, rfl⟩
              dsimp only [Option.toList, List.cons_append, List.nil_append]
              refine V_iconst (v := 0) C d_Mo_fill_178 (by decide) ?_
              refine V_istore (lv' := [(10, _), (9, _), (8, _), (7, _), (6, _), (0, _), (1, _), (2, _), (3, _), (4, _), (5, _)]) C d_Mo_fill_179 (by decide) rfl ?_
              refine V_pick [0, 1, 2, 3, 4, 5, 6, 7, 8, 9, 10] rfl ?_
              exact dat (z9 + 1) 0 _ (a + 4) 1 (by omega) (by omega) (hFO.sec hk2) (hBD.sec (by omega) hk2 hsc) (by omega) (Or.inr ⟨rfl, by omega, hfit, hMS.sec (by omega) hzall, hMN, hMR, fun _ => rfl⟩)
            · refine V_io (show _ = tS ι1 (a + 4) 0 by rw [b2_f (fun z => z.2 (b2_f hsc))]) ?_
              exact jbad ι1 (a + 4) _ _ _ hFO hBD (by omega) (fun z => hsc (z.2.1 k hk).2.1)
          · skip
            refine V_aload_n C d_Mo_fill_123 rfl ?_
            refine V_iconst (v := 1) C d_Mo_fill_124 (by decide) ?_
            refine V_iload_n C d_Mo_fill_125 rfl ?_
            refine V_callV (as := [_, _]) C d_Mo_fill_126 (k_take hM (w := 1) (by omega) (by omega) (by first | assumption | exact tkA_le (by first | assumption | exact tkA_le (by first | assumption | exact tkA_le (by assumption) hT) hT) hT) hT) m_Mo_take cf_Mo k_Mo_268 hM.al ⟨by decide, by decide⟩ (Nat.le_of_ble_eq_true rfl) ⟨by decide, by decide⟩ rfl ?_
            rintro _ _ _ _ _ ⟨rfl, rfl, rfl, rfl, rfl⟩
            dsimp only [Option.toList, List.cons_append, List.nil_append]
            refine V_istore (lv' := [(7, _), (6, _), (0, _), (1, _), (2, _), (3, _), (4, _), (5, _)]) C d_Mo_fill_129 (by decide) rfl ?_
            refine V_aload_n C d_Mo_fill_131 rfl ?_
            refine V_iconst (v := 1) C d_Mo_fill_132 (by decide) ?_
            refine V_iload_n C d_Mo_fill_133 rfl ?_
            refine V_callV (as := [_, _]) C d_Mo_fill_134 (k_take hM (w := 1) (by omega) (by omega) (by first | assumption | exact tkA_le (by first | assumption | exact tkA_le (by first | assumption | exact tkA_le (by assumption) hT) hT) hT) hT) m_Mo_take cf_Mo k_Mo_268 hM.al ⟨by decide, by decide⟩ (Nat.le_of_ble_eq_true rfl) ⟨by decide, by decide⟩ rfl ?_
            rintro _ _ _ _ _ ⟨rfl, rfl, rfl, rfl, rfl⟩
            dsimp only [Option.toList, List.cons_append, List.nil_append]
            refine V_istore (lv' := [(8, _), (7, _), (6, _), (0, _), (1, _), (2, _), (3, _), (4, _), (5, _)]) C d_Mo_fill_137 (by decide) rfl ?_
            refine V_aload_n C d_Mo_fill_139 rfl ?_
            refine V_iconst (v := 2) C d_Mo_fill_140 (by decide) ?_
            refine V_iload_n C d_Mo_fill_141 rfl ?_
            refine V_callV (as := [_, _]) C d_Mo_fill_142 (k_take hM (w := 2) (by omega) (by omega) (by first | assumption | exact tkA_le (by first | assumption | exact tkA_le (by first | assumption | exact tkA_le (by assumption) hT) hT) hT) hT) m_Mo_take cf_Mo k_Mo_268 hM.al ⟨by decide, by decide⟩ (Nat.le_of_ble_eq_true rfl) ⟨by decide, by decide⟩ rfl ?_
            rintro _ _ _ _ _ ⟨rfl, rfl, rfl, rfl, rfl⟩
            dsimp only [Option.toList, List.cons_append, List.nil_append]
            refine V_istore (lv' := [(9, _), (8, _), (7, _), (6, _), (0, _), (1, _), (2, _), (3, _), (4, _), (5, _)]) C d_Mo_fill_145 (by decide) rfl ?_
            refine V_aload_n C d_Mo_fill_147 rfl ?_
            refine V_iload C d_Mo_fill_148 rfl ?_
            refine V_iload C d_Mo_fill_150 rfl ?_
            refine V_iload C d_Mo_fill_152 rfl ?_
            refine V_callS (as := [_, _, _]) C d_Mo_fill_154 c_Mo_isSection m_Mo_isSection k_Mo_115 ⟨by decide, by decide⟩ (Nat.le_of_ble_eq_true rfl) ⟨by decide, by decide⟩ rfl ?_
            rintro _ _ _ _ _ ⟨rfl, rfl, rfl, rfl, rfl⟩
            dsimp only [Option.toList, List.cons_append, List.nil_append]
            refine V_callV (as := [_]) C d_Mo_fill_157 (k_need hM) m_Mo_need cf_Mo k_Mo_271 hM.al ⟨by decide, by decide⟩ (Nat.le_of_ble_eq_true rfl) ⟨by decide, by decide⟩ rfl ?_
            rintro _ _ _ _ _ ⟨rfl, rfl, rfl, rfl, rfl⟩
            dsimp only [Option.toList, List.cons_append, List.nil_append]
            refine V_pick [0, 1, 2, 3, 4, 5, 6, 7, 8, 9] rfl ?_
            refine V_io (show _ = tS ι1 _ 0 by rw [b2_f (fun z => z.1 (tk_bad3 hfit))]) ?_
            exact jbad ι1 _ _ _ _ hFO hBD (by first | assumption | exact tkA_le (by first | assumption | exact tkA_le (by first | assumption | exact tkA_le (by assumption) hT) hT) hT) (fun z => hfit (by have := (z.2.1 k hk).1; omega))
  have j107 : V p l e { frames := 3, cells := 0, slots := 0, locals := 69 } s m args below meth c D B α0 ν 12 Q 0 0 ν (tS (mEmpty ι o) 5 (b2 (HD (ι 78 0 0)))) ρ ℓ 107 [(0, sR 10 0 0), (1, sI (nI o)), (2, sI (nI T)), (3, sI (nI (cS (ι 78 0 0)))), (4, sI (nI (cN (ι 78 0 0)))), (5, sI (nI (cR (ι 78 0 0))))] [] := by
    refine V_iconst (v := 0) C d_Mo_fill_107 (by decide) ?_
    refine V_istore (lv' := [(6, _), (0, _), (1, _), (2, _), (3, _), (4, _), (5, _)]) C d_Mo_fill_108 (by decide) rfl ?_
    refine V_pick [0, 1, 2, 3, 4, 5, 6] rfl ?_
    refine secs _ 0 (mEmpty ι o) 5 _ (Nat.lt_succ_self _) (by omega) hF0 hB0 (by omega) ?_
    by_cases hh : HD (ι 78 0 0)
    · exact Or.inr ⟨b2_t hh, hh, fun i hi => absurd hi (Nat.not_lt_zero i), rfl, ⟨(up4_ne (by omega)).trans ((up4_ne (by omega)).trans up4_s), fun j hj => absurd hj (Nat.not_lt_zero j)⟩, ⟨(up4_ne (by omega)).trans up4_s, fun j hj => absurd hj (Nat.not_lt_zero j)⟩, ⟨up4_s, fun j hj => absurd hj (Nat.not_lt_zero j)⟩⟩
    · exact Or.inl ⟨b2_f hh, fun z => hh z.1⟩
  have j55 : V p l e { frames := 3, cells := 0, slots := 0, locals := 69 } s m args below meth c D B α0 ν 12 Q 0 0 ν (tS (mEmpty ι o) 2 (b2 (beV (ι 78 0 0) 0 1 = 79 ∧ beV (ι 78 0 0) 1 1 = 66))) ρ ℓ 55 [(0, sR 10 0 0), (1, sI (nI o)), (2, sI (nI T))] [] := by
    refine V_aload_n C d_Mo_fill_55 rfl ?_
    refine V_iconst (v := 1) C d_Mo_fill_56 (by decide) ?_
    refine V_iload_n C d_Mo_fill_57 rfl ?_
    refine V_callV (as := [_, _]) C d_Mo_fill_58 (k_takeO hM hf0 (w := 1) (by omega) (by omega) hT (by omega)) m_Mo_take cf_Mo k_Mo_268 hM.al ⟨by decide, by decide⟩ (Nat.le_of_ble_eq_true rfl) ⟨by decide, by decide⟩ rfl ?_
    rintro _ _ _ _ _ ⟨rfl, rfl, rfl, rfl, rfl⟩
    dsimp only [Option.toList, List.cons_append, List.nil_append]
    refine V_eqi (y := nI (cS (ι 78 0 0))) (by_nI (hby 2 (by omega))).1 ?_
    refine V_istore_n (lv' := [(3, _), (0, _), (1, _), (2, _)]) C d_Mo_fill_61 (by decide) rfl ?_
    refine V_aload_n C d_Mo_fill_62 rfl ?_
    refine V_iconst (v := 1) C d_Mo_fill_63 (by decide) ?_
    refine V_iload_n C d_Mo_fill_64 rfl ?_
    refine V_callV (as := [_, _]) C d_Mo_fill_65 (k_takeO hM hf0 (w := 1) (by omega) (by omega) hT (by omega)) m_Mo_take cf_Mo k_Mo_268 hM.al ⟨by decide, by decide⟩ (Nat.le_of_ble_eq_true rfl) ⟨by decide, by decide⟩ rfl ?_
    rintro _ _ _ _ _ ⟨rfl, rfl, rfl, rfl, rfl⟩
    dsimp only [Option.toList, List.cons_append, List.nil_append]
    refine V_eqi (y := nI (cN (ι 78 0 0))) (by_nI (hby 3 (by omega))).1 ?_
    refine V_istore (lv' := [(4, _), (3, _), (0, _), (1, _), (2, _)]) C d_Mo_fill_68 (by decide) rfl ?_
    refine V_aload_n C d_Mo_fill_70 rfl ?_
    refine V_iconst (v := 1) C d_Mo_fill_71 (by decide) ?_
    refine V_iload_n C d_Mo_fill_72 rfl ?_
    refine V_callV (as := [_, _]) C d_Mo_fill_73 (k_takeO hM hf0 (w := 1) (by omega) (by omega) hT (by omega)) m_Mo_take cf_Mo k_Mo_268 hM.al ⟨by decide, by decide⟩ (Nat.le_of_ble_eq_true rfl) ⟨by decide, by decide⟩ rfl ?_
    rintro _ _ _ _ _ ⟨rfl, rfl, rfl, rfl, rfl⟩
    dsimp only [Option.toList, List.cons_append, List.nil_append]
    refine V_eqi (y := nI (cR (ι 78 0 0))) (by_nI (hby 4 (by omega))).1 ?_
    refine V_istore (lv' := [(5, _), (4, _), (3, _), (0, _), (1, _), (2, _)]) C d_Mo_fill_76 (by decide) rfl ?_
    refine V_aload_n C d_Mo_fill_78 rfl ?_
    refine V_iload_n C d_Mo_fill_79 rfl ?_
    refine V_bipush (v := 8) C d_Mo_fill_80 (by decide) ?_
    refine V_icmp_gt (tgt := 103) C d_Mo_fill_82 (by decide) (fun h82 => ?_) (fun h82 => ?_)
    · refine V_iconst (v := 0) C d_Mo_fill_103 (by decide) ?_
      refine V_callV (as := [_]) C d_Mo_fill_104 (k_need hM) m_Mo_need cf_Mo k_Mo_271 hM.al ⟨by decide, by decide⟩ (Nat.le_of_ble_eq_true rfl) ⟨by decide, by decide⟩ rfl ?_
      rintro _ _ _ _ _ ⟨rfl, rfl, rfl, rfl, rfl⟩
      dsimp only [Option.toList, List.cons_append, List.nil_append]
      refine V_pick [3, 4, 5, 2, 1, 0] rfl ?_
      refine V_io (congrArg (tS (mEmpty ι o) 5) ?_) j107
      unfold HD
      rw [(by_nI (hby 2 (by omega))).1, (by_nI (hby 3 (by omega))).1, (by_nI (hby 4 (by omega))).1]
      clear hQ C j107 secs nams refs je
      unfold cS cN cR at *
      try simp only [GT.gt] at *
      unfold b2
      grind
    · refine V_iload C d_Mo_fill_85 rfl ?_
      refine V_bipush (v := 12) C d_Mo_fill_87 (by decide) ?_
      refine V_icmp_gt (tgt := 103) C d_Mo_fill_89 (by decide) (fun h89 => ?_) (fun h89 => ?_)
      · refine V_iconst (v := 0) C d_Mo_fill_103 (by decide) ?_
        refine V_callV (as := [_]) C d_Mo_fill_104 (k_need hM) m_Mo_need cf_Mo k_Mo_271 hM.al ⟨by decide, by decide⟩ (Nat.le_of_ble_eq_true rfl) ⟨by decide, by decide⟩ rfl ?_
        rintro _ _ _ _ _ ⟨rfl, rfl, rfl, rfl, rfl⟩
        dsimp only [Option.toList, List.cons_append, List.nil_append]
        refine V_pick [3, 4, 5, 2, 1, 0] rfl ?_
        refine V_io (congrArg (tS (mEmpty ι o) 5) ?_) j107
        unfold HD
        rw [(by_nI (hby 2 (by omega))).1, (by_nI (hby 3 (by omega))).1, (by_nI (hby 4 (by omega))).1]
        clear hQ C j107 secs nams refs je
        unfold cS cN cR at *
        try simp only [GT.gt] at *
        unfold b2
        grind
      · refine V_iload C d_Mo_fill_92 rfl ?_
        refine V_bipush (v := 16) C d_Mo_fill_94 (by decide) ?_
        refine V_icmp_gt (tgt := 103) C d_Mo_fill_96 (by decide) (fun h96 => ?_) (fun h96 => ?_)
        · refine V_iconst (v := 0) C d_Mo_fill_103 (by decide) ?_
          refine V_callV (as := [_]) C d_Mo_fill_104 (k_need hM) m_Mo_need cf_Mo k_Mo_271 hM.al ⟨by decide, by decide⟩ (Nat.le_of_ble_eq_true rfl) ⟨by decide, by decide⟩ rfl ?_
          rintro _ _ _ _ _ ⟨rfl, rfl, rfl, rfl, rfl⟩
          dsimp only [Option.toList, List.cons_append, List.nil_append]
          refine V_pick [3, 4, 5, 2, 1, 0] rfl ?_
          refine V_io (congrArg (tS (mEmpty ι o) 5) ?_) j107
          unfold HD
          rw [(by_nI (hby 2 (by omega))).1, (by_nI (hby 3 (by omega))).1, (by_nI (hby 4 (by omega))).1]
          clear hQ C j107 secs nams refs je
          unfold cS cN cR at *
          try simp only [GT.gt] at *
          unfold b2
          grind
        · refine V_iconst (v := 1) C d_Mo_fill_99 (by decide) ?_
          refine V_goto (tgt := 104) C d_Mo_fill_100 (by decide) ?_
          refine V_callV (as := [_]) C d_Mo_fill_104 (k_need hM) m_Mo_need cf_Mo k_Mo_271 hM.al ⟨by decide, by decide⟩ (Nat.le_of_ble_eq_true rfl) ⟨by decide, by decide⟩ rfl ?_
          rintro _ _ _ _ _ ⟨rfl, rfl, rfl, rfl, rfl⟩
          dsimp only [Option.toList, List.cons_append, List.nil_append]
          refine V_pick [3, 4, 5, 2, 1, 0] rfl ?_
          refine V_io (congrArg (tS (mEmpty ι o) 5) ?_) j107
          unfold HD
          rw [(by_nI (hby 2 (by omega))).1, (by_nI (hby 3 (by omega))).1, (by_nI (hby 4 (by omega))).1]
          clear hQ C j107 secs nams refs je
          unfold cS cN cR at *
          try simp only [GT.gt] at *
          unfold b2
          grind
  have j35 : V p l e { frames := 3, cells := 0, slots := 0, locals := 69 } s m args below meth c D B α0 ν 12 Q 0 0 ν (tS (mEmpty ι o) 1 (b2 (beV (ι 78 0 0) 0 1 = 79))) ρ ℓ 35 [(0, sR 10 0 0), (1, sI (nI o)), (2, sI (nI T))] [] := by
    refine V_aload_n C d_Mo_fill_35 rfl ?_
    refine V_aload_n C d_Mo_fill_36 rfl ?_
    refine V_iconst (v := 1) C d_Mo_fill_37 (by decide) ?_
    refine V_iload_n C d_Mo_fill_38 rfl ?_
    refine V_callV (as := [_, _]) C d_Mo_fill_39 (k_takeO hM hf0 (w := 1) (by omega) (by omega) hT (by omega)) m_Mo_take cf_Mo k_Mo_268 hM.al ⟨by decide, by decide⟩ (Nat.le_of_ble_eq_true rfl) ⟨by decide, by decide⟩ rfl ?_
    rintro _ _ _ _ _ ⟨rfl, rfl, rfl, rfl, rfl⟩
    dsimp only [Option.toList, List.cons_append, List.nil_append]
    refine V_bipush (v := 66) C d_Mo_fill_42 (by decide) ?_
    refine V_icmp_ne (tgt := 51) C d_Mo_fill_44 (by decide) (fun h44 => ?_) (fun h44 => ?_)
    · refine V_iconst (v := 0) C d_Mo_fill_51 (by decide) ?_
      refine V_callV (as := [_]) C d_Mo_fill_52 (k_need hM) m_Mo_need cf_Mo k_Mo_271 hM.al ⟨by decide, by decide⟩ (Nat.le_of_ble_eq_true rfl) ⟨by decide, by decide⟩ rfl ?_
      rintro _ _ _ _ _ ⟨rfl, rfl, rfl, rfl, rfl⟩
      dsimp only [Option.toList, List.cons_append, List.nil_append]
      refine V_pick [0, 1, 2] rfl ?_
      refine V_io (congrArg (tS (mEmpty ι o) 2) ?_) j55
      clear hQ C j55 j107 secs nams refs je
      unfold b2
      grind
    · refine V_iconst (v := 1) C d_Mo_fill_47 (by decide) ?_
      refine V_goto (tgt := 52) C d_Mo_fill_48 (by decide) ?_
      refine V_callV (as := [_]) C d_Mo_fill_52 (k_need hM) m_Mo_need cf_Mo k_Mo_271 hM.al ⟨by decide, by decide⟩ (Nat.le_of_ble_eq_true rfl) ⟨by decide, by decide⟩ rfl ?_
      rintro _ _ _ _ _ ⟨rfl, rfl, rfl, rfl, rfl⟩
      dsimp only [Option.toList, List.cons_append, List.nil_append]
      refine V_pick [0, 1, 2] rfl ?_
      refine V_io (congrArg (tS (mEmpty ι o) 2) ?_) j55
      clear hQ C j55 j107 secs nams refs je
      unfold b2
      grind
  refine V_aload_n C d_Mo_fill_0 rfl ?_
  refine V_iconst (v := 0) C d_Mo_fill_1 (by decide) ?_
  refine V_putI (kx := 39) C d_Mo_fill_2 cf_Mo (by decide) k_Mo_262 hM.al rfl rfl rfl rfl ?_
  refine V_aload_n C d_Mo_fill_5 rfl ?_
  refine V_iconst (v := 1) C d_Mo_fill_6 (by decide) ?_
  refine V_putI (kx := 40) C d_Mo_fill_7 cf_Mo (by decide) k_Mo_265 hM.al rfl rfl rfl rfl ?_
  refine V_aload_n C d_Mo_fill_10 rfl ?_
  refine V_iload_n C d_Mo_fill_11 rfl ?_
  refine V_callV (as := [_]) C d_Mo_fill_12 (c_Mo_emptyObject hM ho) m_Mo_emptyObject cf_Mo k_Mo_107 hM.al ⟨by decide, by decide⟩ (Nat.le_of_ble_eq_true rfl) ⟨by decide, by decide⟩ rfl ?_
  rintro _ _ _ _ _ ⟨rfl, rfl, rfl, rfl, rfl⟩
  dsimp only [Option.toList, List.cons_append, List.nil_append]
  refine V_io (show _ = tS (mEmpty ι o) 0 1 by unfold mEmpty; rw [← tS_up (by decide), ← tS_up (by decide), ← tS_up (by decide)]; rfl) ?_
  refine V_aload_n C d_Mo_fill_15 rfl ?_
  refine V_aload_n C d_Mo_fill_16 rfl ?_
  refine V_iconst (v := 1) C d_Mo_fill_17 (by decide) ?_
  refine V_iload_n C d_Mo_fill_18 rfl ?_
  refine V_callV (as := [_, _]) C d_Mo_fill_19 (k_takeO hM hf0 (w := 1) (by omega) (by omega) hT (by omega)) m_Mo_take cf_Mo k_Mo_268 hM.al ⟨by decide, by decide⟩ (Nat.le_of_ble_eq_true rfl) ⟨by decide, by decide⟩ rfl ?_
  rintro _ _ _ _ _ ⟨rfl, rfl, rfl, rfl, rfl⟩
  dsimp only [Option.toList, List.cons_append, List.nil_append]
  refine V_bipush (v := 79) C d_Mo_fill_22 (by decide) ?_
  refine V_icmp_ne (tgt := 31) C d_Mo_fill_24 (by decide) (fun h24 => ?_) (fun h24 => ?_)
  · refine V_iconst (v := 0) C d_Mo_fill_31 (by decide) ?_
    refine V_callV (as := [_]) C d_Mo_fill_32 (k_need hM) m_Mo_need cf_Mo k_Mo_271 hM.al ⟨by decide, by decide⟩ (Nat.le_of_ble_eq_true rfl) ⟨by decide, by decide⟩ rfl ?_
    rintro _ _ _ _ _ ⟨rfl, rfl, rfl, rfl, rfl⟩
    dsimp only [Option.toList, List.cons_append, List.nil_append]
    refine V_pick [0, 1, 2] rfl ?_
    refine V_io (congrArg (tS (mEmpty ι o) 1) ?_) j35
    clear hQ C j35 j55 j107 secs nams refs je
    unfold b2
    grind
  · refine V_iconst (v := 1) C d_Mo_fill_27 (by decide) ?_
    refine V_goto (tgt := 32) C d_Mo_fill_28 (by decide) ?_
    refine V_callV (as := [_]) C d_Mo_fill_32 (k_need hM) m_Mo_need cf_Mo k_Mo_271 hM.al ⟨by decide, by decide⟩ (Nat.le_of_ble_eq_true rfl) ⟨by decide, by decide⟩ rfl ?_
    rintro _ _ _ _ _ ⟨rfl, rfl, rfl, rfl, rfl⟩
    dsimp only [Option.toList, List.cons_append, List.nil_append]
    refine V_pick [0, 1, 2] rfl ?_
    refine V_io (congrArg (tS (mEmpty ι o) 1) ?_) j35
    clear hQ C j35 j55 j107 secs nams refs je
    unfold b2
    grind
