def BD (ι : Io) : Prop := bd ι 42 13 8 ∧ bd ι 47 13 12 ∧ bd ι 52 13 16 ∧ bd ι 43 104 3 ∧ bd ι 44 104 6 ∧ bd ι 45 104 128 ∧ bd ι 49 156 3 ∧ bd ι 50 156 7 ∧ bd ι 51 156 1024 ∧ bd ι 53 208 7 ∧ bd ι 54 208 128 ∧ bd ι 55 208 4 ∧ bd ι 56 208 11
theorem BD.b42 {ι : Io} (h : BD ι) : bd ι 42 13 8 := h.1
theorem BD.b47 {ι : Io} (h : BD ι) : bd ι 47 13 12 := h.2.1
theorem BD.b52 {ι : Io} (h : BD ι) : bd ι 52 13 16 := h.2.2.1
theorem BD.b43 {ι : Io} (h : BD ι) : bd ι 43 104 3 := h.2.2.2.1
theorem BD.b44 {ι : Io} (h : BD ι) : bd ι 44 104 6 := h.2.2.2.2.1
theorem BD.b45 {ι : Io} (h : BD ι) : bd ι 45 104 128 := h.2.2.2.2.2.1
theorem BD.b49 {ι : Io} (h : BD ι) : bd ι 49 156 3 := h.2.2.2.2.2.2.1
theorem BD.b50 {ι : Io} (h : BD ι) : bd ι 50 156 7 := h.2.2.2.2.2.2.2.1
theorem BD.b51 {ι : Io} (h : BD ι) : bd ι 51 156 1024 := h.2.2.2.2.2.2.2.2.1
theorem BD.b53 {ι : Io} (h : BD ι) : bd ι 53 208 7 := h.2.2.2.2.2.2.2.2.2.1
theorem BD.b54 {ι : Io} (h : BD ι) : bd ι 54 208 128 := h.2.2.2.2.2.2.2.2.2.2.1
theorem BD.b55 {ι : Io} (h : BD ι) : bd ι 55 208 4 := h.2.2.2.2.2.2.2.2.2.2.2.1
theorem BD.b56 {ι : Io} (h : BD ι) : bd ι 56 208 11 := h.2.2.2.2.2.2.2.2.2.2.2.2
theorem bd_up {ι : Io} {r N M r' i j t : Nat} {x : Int32} (h : bd ι r N M) (hx : r' = r → ∃ a, a ≤ M ∧ x = nI a) : bd (up4 ι r' i j t x) r N M := by
  intro k hk
  unfold up4
  split
  · rename_i h1
    exact hx h1.1.symm
  · exact h k hk
theorem bd_fil {ι : Io} {r N M r' a n : Nat} {x : Int32} (h : bd ι r N M) (hx : r' ≠ r) : bd (fil ι r' a n x) r N M := by
  intro k hk
  unfold fil
  rw [if_neg (fun z => hx z.1.symm)]
  exact h k hk
theorem rgN {x : Int32} {M : Nat} (hM : M < 1000000) (h : 0 ≤ x ∧ x ≤ nI M) : ∃ a, a ≤ M ∧ x = nI a := by
  obtain ⟨j, hj, rfl⟩ := nI_of (Int32.not_lt.mpr h.1)
  exact ⟨j, (nI_leI hj (by omega)).mp h.2, rfl⟩
theorem inc_bd {ι : Io} {r N M t : Nat} (h : bd ι r N M) (ht : t < N) (hl : mn ι r t < M) (hM : M < 2147483648) : ∃ a, a ≤ M ∧ ι r 0 0 t + 1 = nI a := ⟨mn ι r t + 1, hl, by rw [h.eq ht hM]; exact nI_1 _⟩
theorem BD.sec {ι : Io} {t : Nat} {k q n : Int32} (h : BD ι) (ht : t < 13) (h8 : mn ι 42 t < 8) (hv : isSc k q n) : BD (mAddSec ι t k q n) := ⟨(bd_up (bd_fil (bd_up (bd_up (bd_up h.b42 (fun z => absurd z (by decide))) (fun z => absurd z (by decide))) (fun z => absurd z (by decide))) (by decide)) (fun _ => inc_bd h.b42 ht h8 (by decide))), (bd_up (bd_fil (bd_up (bd_up (bd_up h.b47 (fun z => absurd z (by decide))) (fun z => absurd z (by decide))) (fun z => absurd z (by decide))) (by decide)) (fun z => absurd z (by decide))), (bd_up (bd_fil (bd_up (bd_up (bd_up h.b52 (fun z => absurd z (by decide))) (fun z => absurd z (by decide))) (fun z => absurd z (by decide))) (by decide)) (fun z => absurd z (by decide))), (bd_up (bd_fil (bd_up (bd_up (bd_up h.b43 (fun _ => rgN (M := 3) (by decide) hv.1)) (fun z => absurd z (by decide))) (fun z => absurd z (by decide))) (by decide)) (fun z => absurd z (by decide))), (bd_up (bd_fil (bd_up (bd_up (bd_up h.b44 (fun z => absurd z (by decide))) (fun _ => rgN (M := 6) (by decide) hv.2.1)) (fun z => absurd z (by decide))) (by decide)) (fun z => absurd z (by decide))), (bd_up (bd_fil (bd_up (bd_up (bd_up h.b45 (fun z => absurd z (by decide))) (fun z => absurd z (by decide))) (fun _ => rgN (M := 128) (by decide) hv.2.2)) (by decide)) (fun z => absurd z (by decide))), (bd_up (bd_fil (bd_up (bd_up (bd_up h.b49 (fun z => absurd z (by decide))) (fun z => absurd z (by decide))) (fun z => absurd z (by decide))) (by decide)) (fun z => absurd z (by decide))), (bd_up (bd_fil (bd_up (bd_up (bd_up h.b50 (fun z => absurd z (by decide))) (fun z => absurd z (by decide))) (fun z => absurd z (by decide))) (by decide)) (fun z => absurd z (by decide))), (bd_up (bd_fil (bd_up (bd_up (bd_up h.b51 (fun z => absurd z (by decide))) (fun z => absurd z (by decide))) (fun z => absurd z (by decide))) (by decide)) (fun z => absurd z (by decide))), (bd_up (bd_fil (bd_up (bd_up (bd_up h.b53 (fun z => absurd z (by decide))) (fun z => absurd z (by decide))) (fun z => absurd z (by decide))) (by decide)) (fun z => absurd z (by decide))), (bd_up (bd_fil (bd_up (bd_up (bd_up h.b54 (fun z => absurd z (by decide))) (fun z => absurd z (by decide))) (fun z => absurd z (by decide))) (by decide)) (fun z => absurd z (by decide))), (bd_up (bd_fil (bd_up (bd_up (bd_up h.b55 (fun z => absurd z (by decide))) (fun z => absurd z (by decide))) (fun z => absurd z (by decide))) (by decide)) (fun z => absurd z (by decide))), (bd_up (bd_fil (bd_up (bd_up (bd_up h.b56 (fun z => absurd z (by decide))) (fun z => absurd z (by decide))) (fun z => absurd z (by decide))) (by decide)) (fun z => absurd z (by decide)))⟩
theorem nm_rg {ι : Io} {t : Nat} {n k s q : Int32} (h : BD ι) (ht : t < 13) (hv : isNm ι t n k s q) : (∃ a, a ≤ 7 ∧ s = nI a) ∧ (∃ a, a ≤ 1024 ∧ q = nI a) := by
  obtain ⟨-, -, h3⟩ := hv
  rcases h3 with ⟨_, h1, h2⟩ | ⟨_, h1, h2⟩ | ⟨_, _, h1, h2⟩
  · exact ⟨⟨0, by omega, h1⟩, ⟨0, by omega, h2⟩⟩
  · obtain ⟨a, h4, h5⟩ := rgN (M := 6) (by decide) h1
    exact ⟨⟨a, by omega, h5⟩, rgN (M := 1024) (by decide) ⟨Int32.le_trans (by decide) h2.1, h2.2⟩⟩
  · rw [h.b42.eq (t := t) ht] at h1
    obtain ⟨j, h4, rfl⟩ := rng_of (by have := h.b42.le (t := t) ht; omega) h1
    have h5 := h.b42.le (t := t) ht
    have h6 := h.b45.le (t := 8 * t + j) (by omega)
    rw [nI_clamp (by omega), h.b45.eq (t := 8 * t + j) (by omega)] at h2
    obtain ⟨a, h7, h8⟩ := rgN (by omega) h2
    exact ⟨⟨j, by omega, rfl⟩, ⟨a, by omega, h8⟩⟩
theorem BD.nam {ι : Io} {t : Nat} {n k s q : Int32} (h : BD ι) (ht : t < 13) (h8 : mn ι 47 t < 12) (hv : isNm ι t n k s q) : BD (mAddName ι t n k s q) := ⟨(bd_up (bd_up (bd_up (bd_up (bd_up h.b42 (fun z => absurd z (by decide))) (fun z => absurd z (by decide))) (fun z => absurd z (by decide))) (fun z => absurd z (by decide))) (fun z => absurd z (by decide))), (bd_up (bd_up (bd_up (bd_up (bd_up h.b47 (fun z => absurd z (by decide))) (fun z => absurd z (by decide))) (fun z => absurd z (by decide))) (fun z => absurd z (by decide))) (fun _ => inc_bd h.b47 ht h8 (by decide))), (bd_up (bd_up (bd_up (bd_up (bd_up h.b52 (fun z => absurd z (by decide))) (fun z => absurd z (by decide))) (fun z => absurd z (by decide))) (fun z => absurd z (by decide))) (fun z => absurd z (by decide))), (bd_up (bd_up (bd_up (bd_up (bd_up h.b43 (fun z => absurd z (by decide))) (fun z => absurd z (by decide))) (fun z => absurd z (by decide))) (fun z => absurd z (by decide))) (fun z => absurd z (by decide))), (bd_up (bd_up (bd_up (bd_up (bd_up h.b44 (fun z => absurd z (by decide))) (fun z => absurd z (by decide))) (fun z => absurd z (by decide))) (fun z => absurd z (by decide))) (fun z => absurd z (by decide))), (bd_up (bd_up (bd_up (bd_up (bd_up h.b45 (fun z => absurd z (by decide))) (fun z => absurd z (by decide))) (fun z => absurd z (by decide))) (fun z => absurd z (by decide))) (fun z => absurd z (by decide))), (bd_up (bd_up (bd_up (bd_up (bd_up h.b49 (fun z => absurd z (by decide))) (fun _ => rgN (M := 3) (by decide) hv.1)) (fun z => absurd z (by decide))) (fun z => absurd z (by decide))) (fun z => absurd z (by decide))), (bd_up (bd_up (bd_up (bd_up (bd_up h.b50 (fun z => absurd z (by decide))) (fun z => absurd z (by decide))) (fun _ => (nm_rg h ht hv).1)) (fun z => absurd z (by decide))) (fun z => absurd z (by decide))), (bd_up (bd_up (bd_up (bd_up (bd_up h.b51 (fun z => absurd z (by decide))) (fun z => absurd z (by decide))) (fun z => absurd z (by decide))) (fun _ => (nm_rg h ht hv).2)) (fun z => absurd z (by decide))), (bd_up (bd_up (bd_up (bd_up (bd_up h.b53 (fun z => absurd z (by decide))) (fun z => absurd z (by decide))) (fun z => absurd z (by decide))) (fun z => absurd z (by decide))) (fun z => absurd z (by decide))), (bd_up (bd_up (bd_up (bd_up (bd_up h.b54 (fun z => absurd z (by decide))) (fun z => absurd z (by decide))) (fun z => absurd z (by decide))) (fun z => absurd z (by decide))) (fun z => absurd z (by decide))), (bd_up (bd_up (bd_up (bd_up (bd_up h.b55 (fun z => absurd z (by decide))) (fun z => absurd z (by decide))) (fun z => absurd z (by decide))) (fun z => absurd z (by decide))) (fun z => absurd z (by decide))), (bd_up (bd_up (bd_up (bd_up (bd_up h.b56 (fun z => absurd z (by decide))) (fun z => absurd z (by decide))) (fun z => absurd z (by decide))) (fun z => absurd z (by decide))) (fun z => absurd z (by decide)))⟩
theorem rf_rg {ι : Io} {t : Nat} {s q w n : Int32} (h : BD ι) (ht : t < 13) (hv : isRf ι t s q w n) : (∃ a, a ≤ 7 ∧ s = nI a) ∧ (∃ a, a ≤ 128 ∧ q = nI a) ∧ (∃ a, a ≤ 4 ∧ w = nI a) ∧ (∃ a, a ≤ 11 ∧ n = nI a) := by
  obtain ⟨h1, -, h2, h3, h4⟩ := hv
  rw [h.b42.eq (t := t) ht] at h1
  rw [h.b47.eq (t := t) ht] at h4
  have h5 := h.b42.le (t := t) ht
  have h9 := h.b47.le (t := t) ht
  obtain ⟨j, h6, rfl⟩ := rng_of (by omega) h1
  obtain ⟨i, h7, rfl⟩ := rng_of (by omega) h4
  have h8 := h.b45.le (t := 8 * t + j) (by omega)
  rw [nI_clamp (by omega), h.b45.eq (t := 8 * t + j) (by omega)] at h2
  obtain ⟨a, h10, h11⟩ := rgN (by omega) h2
  exact ⟨⟨j, by omega, rfl⟩, ⟨a, by omega, h11⟩, rgN (M := 4) (by decide) h3, ⟨i, by omega, rfl⟩⟩
theorem BD.ref {ι : Io} {t : Nat} {s q w n a : Int32} (h : BD ι) (ht : t < 13) (h8 : mn ι 52 t < 16) (hv : isRf ι t s q w n) : BD (mAddRef ι t s q w n a) := ⟨(bd_up (bd_up (bd_up (bd_up (bd_up (bd_up h.b42 (fun z => absurd z (by decide))) (fun z => absurd z (by decide))) (fun z => absurd z (by decide))) (fun z => absurd z (by decide))) (fun z => absurd z (by decide))) (fun z => absurd z (by decide))), (bd_up (bd_up (bd_up (bd_up (bd_up (bd_up h.b47 (fun z => absurd z (by decide))) (fun z => absurd z (by decide))) (fun z => absurd z (by decide))) (fun z => absurd z (by decide))) (fun z => absurd z (by decide))) (fun z => absurd z (by decide))), (bd_up (bd_up (bd_up (bd_up (bd_up (bd_up h.b52 (fun z => absurd z (by decide))) (fun z => absurd z (by decide))) (fun z => absurd z (by decide))) (fun z => absurd z (by decide))) (fun z => absurd z (by decide))) (fun _ => inc_bd h.b52 ht h8 (by decide))), (bd_up (bd_up (bd_up (bd_up (bd_up (bd_up h.b43 (fun z => absurd z (by decide))) (fun z => absurd z (by decide))) (fun z => absurd z (by decide))) (fun z => absurd z (by decide))) (fun z => absurd z (by decide))) (fun z => absurd z (by decide))), (bd_up (bd_up (bd_up (bd_up (bd_up (bd_up h.b44 (fun z => absurd z (by decide))) (fun z => absurd z (by decide))) (fun z => absurd z (by decide))) (fun z => absurd z (by decide))) (fun z => absurd z (by decide))) (fun z => absurd z (by decide))), (bd_up (bd_up (bd_up (bd_up (bd_up (bd_up h.b45 (fun z => absurd z (by decide))) (fun z => absurd z (by decide))) (fun z => absurd z (by decide))) (fun z => absurd z (by decide))) (fun z => absurd z (by decide))) (fun z => absurd z (by decide))), (bd_up (bd_up (bd_up (bd_up (bd_up (bd_up h.b49 (fun z => absurd z (by decide))) (fun z => absurd z (by decide))) (fun z => absurd z (by decide))) (fun z => absurd z (by decide))) (fun z => absurd z (by decide))) (fun z => absurd z (by decide))), (bd_up (bd_up (bd_up (bd_up (bd_up (bd_up h.b50 (fun z => absurd z (by decide))) (fun z => absurd z (by decide))) (fun z => absurd z (by decide))) (fun z => absurd z (by decide))) (fun z => absurd z (by decide))) (fun z => absurd z (by decide))), (bd_up (bd_up (bd_up (bd_up (bd_up (bd_up h.b51 (fun z => absurd z (by decide))) (fun z => absurd z (by decide))) (fun z => absurd z (by decide))) (fun z => absurd z (by decide))) (fun z => absurd z (by decide))) (fun z => absurd z (by decide))), (bd_up (bd_up (bd_up (bd_up (bd_up (bd_up h.b53 (fun _ => (rf_rg h ht hv).1)) (fun z => absurd z (by decide))) (fun z => absurd z (by decide))) (fun z => absurd z (by decide))) (fun z => absurd z (by decide))) (fun z => absurd z (by decide))), (bd_up (bd_up (bd_up (bd_up (bd_up (bd_up h.b54 (fun z => absurd z (by decide))) (fun _ => (rf_rg h ht hv).2.1)) (fun z => absurd z (by decide))) (fun z => absurd z (by decide))) (fun z => absurd z (by decide))) (fun z => absurd z (by decide))), (bd_up (bd_up (bd_up (bd_up (bd_up (bd_up h.b55 (fun z => absurd z (by decide))) (fun z => absurd z (by decide))) (fun _ => (rf_rg h ht hv).2.2.1)) (fun z => absurd z (by decide))) (fun z => absurd z (by decide))) (fun z => absurd z (by decide))), (bd_up (bd_up (bd_up (bd_up (bd_up (bd_up h.b56 (fun z => absurd z (by decide))) (fun z => absurd z (by decide))) (fun z => absurd z (by decide))) (fun _ => (rf_rg h ht hv).2.2.2)) (fun z => absurd z (by decide))) (fun z => absurd z (by decide)))⟩
theorem BD.emp {ι : Io} {t : Nat} (h : BD ι) : BD (mEmpty ι t) := ⟨(bd_up (bd_up (bd_up h.b42 (fun _ => ⟨0, by omega, rfl⟩)) (fun z => absurd z (by decide))) (fun z => absurd z (by decide))), (bd_up (bd_up (bd_up h.b47 (fun z => absurd z (by decide))) (fun _ => ⟨0, by omega, rfl⟩)) (fun z => absurd z (by decide))), (bd_up (bd_up (bd_up h.b52 (fun z => absurd z (by decide))) (fun z => absurd z (by decide))) (fun _ => ⟨0, by omega, rfl⟩)), (bd_up (bd_up (bd_up h.b43 (fun z => absurd z (by decide))) (fun z => absurd z (by decide))) (fun z => absurd z (by decide))), (bd_up (bd_up (bd_up h.b44 (fun z => absurd z (by decide))) (fun z => absurd z (by decide))) (fun z => absurd z (by decide))), (bd_up (bd_up (bd_up h.b45 (fun z => absurd z (by decide))) (fun z => absurd z (by decide))) (fun z => absurd z (by decide))), (bd_up (bd_up (bd_up h.b49 (fun z => absurd z (by decide))) (fun z => absurd z (by decide))) (fun z => absurd z (by decide))), (bd_up (bd_up (bd_up h.b50 (fun z => absurd z (by decide))) (fun z => absurd z (by decide))) (fun z => absurd z (by decide))), (bd_up (bd_up (bd_up h.b51 (fun z => absurd z (by decide))) (fun z => absurd z (by decide))) (fun z => absurd z (by decide))), (bd_up (bd_up (bd_up h.b53 (fun z => absurd z (by decide))) (fun z => absurd z (by decide))) (fun z => absurd z (by decide))), (bd_up (bd_up (bd_up h.b54 (fun z => absurd z (by decide))) (fun z => absurd z (by decide))) (fun z => absurd z (by decide))), (bd_up (bd_up (bd_up h.b55 (fun z => absurd z (by decide))) (fun z => absurd z (by decide))) (fun z => absurd z (by decide))), (bd_up (bd_up (bd_up h.b56 (fun z => absurd z (by decide))) (fun z => absurd z (by decide))) (fun z => absurd z (by decide)))⟩
theorem BD.dat {ι : Io} {t : Nat} {x : Int32} (h : BD ι) : BD (up4 ι 46 0 0 t x) := ⟨(bd_up h.b42 (fun z => absurd z (by decide))), (bd_up h.b47 (fun z => absurd z (by decide))), (bd_up h.b52 (fun z => absurd z (by decide))), (bd_up h.b43 (fun z => absurd z (by decide))), (bd_up h.b44 (fun z => absurd z (by decide))), (bd_up h.b45 (fun z => absurd z (by decide))), (bd_up h.b49 (fun z => absurd z (by decide))), (bd_up h.b50 (fun z => absurd z (by decide))), (bd_up h.b51 (fun z => absurd z (by decide))), (bd_up h.b53 (fun z => absurd z (by decide))), (bd_up h.b54 (fun z => absurd z (by decide))), (bd_up h.b55 (fun z => absurd z (by decide))), (bd_up h.b56 (fun z => absurd z (by decide)))⟩
theorem BD.m10 {ι : Io} {k : Nat} {x : Int32} (h : BD ι) : BD (up4 ι 10 0 0 k x) := ⟨(bd_up h.b42 (fun z => absurd z (by decide))), (bd_up h.b47 (fun z => absurd z (by decide))), (bd_up h.b52 (fun z => absurd z (by decide))), (bd_up h.b43 (fun z => absurd z (by decide))), (bd_up h.b44 (fun z => absurd z (by decide))), (bd_up h.b45 (fun z => absurd z (by decide))), (bd_up h.b49 (fun z => absurd z (by decide))), (bd_up h.b50 (fun z => absurd z (by decide))), (bd_up h.b51 (fun z => absurd z (by decide))), (bd_up h.b53 (fun z => absurd z (by decide))), (bd_up h.b54 (fun z => absurd z (by decide))), (bd_up h.b55 (fun z => absurd z (by decide))), (bd_up h.b56 (fun z => absurd z (by decide)))⟩
/-- the cells of the object o -/
def inO (o r k : Nat) : Prop := ((r = 42 ∨ r = 47 ∨ r = 52) ∧ k = o) ∨ ((r = 43 ∨ r = 44 ∨ r = 45) ∧ k / 8 = o) ∨ (r = 46 ∧ k / 1024 = o) ∨ ((r = 48 ∨ r = 49 ∨ r = 50 ∨ r = 51) ∧ k / 12 = o) ∨ ((r = 53 ∨ r = 54 ∨ r = 55 ∨ r = 56 ∨ r = 57) ∧ k / 16 = o)
def FO (o : Nat) (ι ι1 : Io) : Prop := ∀ r i j k, ¬ (i = 0 ∧ j = 0 ∧ inO o r k) → ι1 r i j k = ι r i j k
theorem FO.up {o r k : Nat} {ι ι1 : Io} {x : Int32} (h : FO o ι ι1) (hi : inO o r k) : FO o ι (up4 ι1 r 0 0 k x) := by
  intro r' i j k' hn
  rw [up4_ne (fun z => hn ⟨z.2.1, z.2.2.1, by rw [z.1, z.2.2.2]; exact hi⟩)]
  exact h r' i j k' hn
theorem FOfil {o r a n : Nat} {ι ι1 : Io} {x : Int32} (h : FO o ι ι1) (hi : ∀ k, a ≤ k → k < a + n → inO o r k) : FO o ι (fil ι1 r a n x) := by
  intro r' i j k' hn
  unfold fil
  rw [if_neg (fun z => hn ⟨z.2.1, z.2.2.1, by rw [z.1]; exact hi k' z.2.2.2.1 z.2.2.2.2⟩)]
  exact h r' i j k' hn
theorem FO.rf {o : Nat} {ι : Io} : FO o ι ι := fun _ _ _ _ _ => rfl
theorem FO.sec {o : Nat} {ι ι1 : Io} {k q n : Int32} (h : FO o ι ι1) (h8 : mn ι1 42 o < 8) : FO o ι (mAddSec ι1 o k q n) := by
  unfold mAddSec
  exact (FOfil (((h.up (by unfold inO; omega)).up (by unfold inO; omega)).up (by unfold inO; omega)) (fun k h1 h2 => by unfold inO; omega)).up (by unfold inO; omega)
theorem FO.nam {o : Nat} {ι ι1 : Io} {n k s q : Int32} (h : FO o ι ι1) (h8 : mn ι1 47 o < 12) : FO o ι (mAddName ι1 o n k s q) := by
  unfold mAddName
  exact ((((h.up (by unfold inO; omega)).up (by unfold inO; omega)).up (by unfold inO; omega)).up (by unfold inO; omega)).up (by unfold inO; omega)
theorem FO.ref {o : Nat} {ι ι1 : Io} {s q w n a : Int32} (h : FO o ι ι1) (h8 : mn ι1 52 o < 16) : FO o ι (mAddRef ι1 o s q w n a) := by
  unfold mAddRef
  exact (((((h.up (by unfold inO; omega)).up (by unfold inO; omega)).up (by unfold inO; omega)).up (by unfold inO; omega)).up (by unfold inO; omega)).up (by unfold inO; omega)
theorem FO.emp {o : Nat} {ι ι1 : Io} (h : FO o ι ι1) : FO o ι (mEmpty ι1 o) := by
  unfold mEmpty
  exact ((h.up (by unfold inO; omega)).up (by unfold inO; omega)).up (by unfold inO; omega)
/-- what bytes say -/
abbrev cl (x : Int32) : Nat := x.toNatClampNeg
def cS (f : Nat → Int32) : Nat := cl (beV f 2 1)
def cN (f : Nat → Int32) : Nat := cl (beV f 3 1)
def cR (f : Nat → Int32) : Nat := cl (beV f 4 1)
def so (f : Nat → Int32) : Nat → Nat
  | 0 => 5
  | i + 1 => so f i + 4 + (if beV f (so f i) 1 = 3 then 0 else cl (beV f (so f i + 2) 2))
def sK (f : Nat → Int32) (i : Nat) : Int32 := beV f (so f i) 1
def sP (f : Nat → Int32) (i : Nat) : Int32 := beV f (so f i + 1) 1
def sZ (f : Nat → Int32) (i : Nat) : Int32 := beV f (so f i + 2) 2
def sD (f : Nat → Int32) (i k : Nat) : Int32 := beV f (so f i + 4 + k) 1
def nb (f : Nat → Int32) : Nat := so f (cS f)
def rb (f : Nat → Int32) : Nat := nb f + 8 * cN f
def nA (f : Nat → Int32) (i : Nat) : Int32 := beV f (nb f + 8 * i) 4
def nS (f : Nat → Int32) (i : Nat) : Int32 := beV f (nb f + 8 * i + 4) 1
def nW (f : Nat → Int32) (i : Nat) : Int32 := beV f (nb f + 8 * i + 5) 1
def nP (f : Nat → Int32) (i : Nat) : Int32 := beV f (nb f + 8 * i + 6) 2
def qS (f : Nat → Int32) (i : Nat) : Int32 := beV f (rb f + 9 * i) 1
def qP (f : Nat → Int32) (i : Nat) : Int32 := beV f (rb f + 9 * i + 1) 2
def qW (f : Nat → Int32) (i : Nat) : Int32 := beV f (rb f + 9 * i + 3) 1
def qN (f : Nat → Int32) (i : Nat) : Int32 := beV f (rb f + 9 * i + 4) 1
def qA (f : Nat → Int32) (i : Nat) : Int32 := beV f (rb f + 9 * i + 5) 4
def OKs (f : Nat → Int32) (T i : Nat) : Prop := so f i + 4 ≤ T ∧ isSc (sK f i) (sP f i) (sZ f i) ∧ so f (i + 1) ≤ T
def nmOK (f : Nat → Int32) (i : Nat) : Prop := (0 ≤ nS f i ∧ nS f i ≤ 3) ∧ (∀ j, j < i → nA f j ≠ nA f i) ∧ ((nS f i = 3 ∧ nW f i = 0 ∧ nP f i = 0) ∨ (nS f i = 2 ∧ (0 ≤ nW f i ∧ nW f i ≤ 6) ∧ (1 ≤ nP f i ∧ nP f i ≤ 1024)) ∨ (¬ nS f i = 3 ∧ ¬ nS f i = 2 ∧ ∃ s, s < cS f ∧ nW f i = nI s ∧ 0 ≤ nP f i ∧ nP f i ≤ sZ f s))
def OKn (f : Nat → Int32) (T i : Nat) : Prop := nb f + 8 * (i + 1) ≤ T ∧ nmOK f i
def rfOK (f : Nat → Int32) (i : Nat) : Prop := (∃ s, s < cS f ∧ qS f i = nI s ∧ ¬ sK f s = 3 ∧ 0 ≤ qP f i ∧ qP f i ≤ sZ f s) ∧ (0 ≤ qW f i ∧ qW f i ≤ 4) ∧ (0 ≤ qN f i ∧ qN f i ≤ nI (cN f) - 1)
def OKr (f : Nat → Int32) (T i : Nat) : Prop := rb f + 9 * (i + 1) ≤ T ∧ rfOK f i
abbrev HD (f : Nat → Int32) : Prop := beV f 0 1 = 79 ∧ beV f 1 1 = 66 ∧ (beV f 2 1 ≤ 8 ∧ beV f 3 1 ≤ 12 ∧ beV f 4 1 ≤ 16)
def GOOD (f : Nat → Int32) (T : Nat) : Prop := HD f ∧ (∀ i, i < cS f → OKs f T i) ∧ (∀ i, i < cN f → OKn f T i) ∧ (∀ i, i < cR f → OKr f T i) ∧ rb f + 9 * cR f = T
def MSo (ι1 : Io) (o : Nat) (f : Nat → Int32) (i : Nat) : Prop := ι1 42 0 0 o = nI i ∧ ∀ j, j < i → ι1 43 0 0 (8 * o + j) = sK f j ∧ ι1 44 0 0 (8 * o + j) = sP f j ∧ ι1 45 0 0 (8 * o + j) = sZ f j ∧ (¬ sK f j = 3 → ∀ k, k < cl (sZ f j) → ι1 46 0 0 (128 * (8 * o + j) + k) = sD f j k)
def MNo (ι1 : Io) (o : Nat) (f : Nat → Int32) (i : Nat) : Prop := ι1 47 0 0 o = nI i ∧ ∀ j, j < i → ι1 48 0 0 (12 * o + j) = nA f j ∧ ι1 49 0 0 (12 * o + j) = nS f j ∧ ι1 50 0 0 (12 * o + j) = nW f j ∧ ι1 51 0 0 (12 * o + j) = nP f j
def MRo (ι1 : Io) (o : Nat) (f : Nat → Int32) (i : Nat) : Prop := ι1 52 0 0 o = nI i ∧ ∀ j, j < i → ι1 53 0 0 (16 * o + j) = qS f j ∧ ι1 54 0 0 (16 * o + j) = qP f j ∧ ι1 55 0 0 (16 * o + j) = qW f j ∧ ι1 56 0 0 (16 * o + j) = qN f j ∧ ι1 57 0 0 (16 * o + j) = qA f j
def tS (ι : Io) (a : Nat) (g : Int32) : Io := up4 (up4 ι 10 0 0 39 (nI a)) 10 0 0 40 g
def tkV (f : Nat → Int32) (a w T : Nat) : Int32 := if a + w ≤ T then beV f a w else 0
def tkA (a w T : Nat) : Nat := if a + w ≤ T then a + w else max a T
def tkG (g : Int32) (a w T : Nat) : Int32 := if a + w ≤ T then g else 0
theorem tS_up {ι : Io} {a r i j k : Nat} {g x : Int32} (h : r ≠ 10) : up4 (tS ι a g) r i j k x = tS (up4 ι r i j k x) a g := by
  unfold tS
  rw [up4_cm (fun z => h z.symm), up4_cm (fun z => h z.symm)]
theorem tS_fil {ι : Io} {a r b n : Nat} {g x : Int32} (h : r ≠ 10) : fil (tS ι a g) r b n x = tS (fil ι r b n x) a g := by
  funext r' i j k
  unfold tS up4 fil
  grind
theorem tS_sec {ι : Io} {a o : Nat} {g k q n : Int32} : mAddSec (tS ι a g) o k q n = tS (mAddSec ι o k q n) a g := by
  unfold mAddSec
  rw [show mn (tS ι a g) 42 o = mn ι 42 o from rfl, show tS ι a g 42 0 0 o = ι 42 0 0 o from rfl, tS_up (by decide), tS_up (by decide), tS_up (by decide), tS_fil (by decide), tS_up (by decide)]
theorem tS_nam {ι : Io} {a o : Nat} {g n k s q : Int32} : mAddName (tS ι a g) o n k s q = tS (mAddName ι o n k s q) a g := by
  unfold mAddName
  rw [show mn (tS ι a g) 47 o = mn ι 47 o from rfl, show tS ι a g 47 0 0 o = ι 47 0 0 o from rfl, tS_up (by decide), tS_up (by decide), tS_up (by decide), tS_up (by decide), tS_up (by decide)]
theorem tS_ref {ι : Io} {a o : Nat} {g s q w n d : Int32} : mAddRef (tS ι a g) o s q w n d = tS (mAddRef ι o s q w n d) a g := by
  unfold mAddRef
  rw [show mn (tS ι a g) 52 o = mn ι 52 o from rfl, show tS ι a g 52 0 0 o = ι 52 0 0 o from rfl, tS_up (by decide), tS_up (by decide), tS_up (by decide), tS_up (by decide), tS_up (by decide), tS_up (by decide)]
theorem tS_39 {ι : Io} {a b : Nat} {g : Int32} : up4 (tS ι a g) 10 0 0 39 (nI b) = tS ι b g := by
  unfold tS
  rw [up4_cx (by decide), up4_up4]
theorem tS_40 {ι : Io} {a : Nat} {g g' : Int32} : up4 (tS ι a g) 10 0 0 40 g' = tS ι a g' := by
  unfold tS
  rw [up4_up4]
theorem tkA_le {a w T : Nat} (ha : a ≤ 1400) (hT : T ≤ 1400) : tkA a w T ≤ 1400 := by
  unfold tkA
  split <;> omega
theorem k_take {ν : Nu} {ι : Io} {ρ : Ro} {ℓ : Lo} (hM : MoS ν ρ) {a w T : Nat} {g : Int32} (hw : w ≤ 4) (hw0 : 0 < w) (ha : a ≤ 1400) (hT : T ≤ 1400) : Ct y_Mo_take (Cond.code y_Mo_take b_Mo_take 5 (some .int) :: tb_) { frames := 0, cells := 0, slots := 0, locals := 0 } [sR 10 0 0, sI (nI w), sI (nI T)] ν (tS ι a g) ρ ℓ (pEq (some (sI (tkV (ι 78 0 0) a w T))) ν (tS ι (tkA a w T) (tkG g a w T)) ρ ℓ) (noX) := by
  have h := c_Mo_take (ι := tS ι a g) (ℓ := ℓ) hM (a := a) (w := w) (T := T) rfl hw hw0 ha hT
  rw [show tS ι a g 78 0 0 = ι 78 0 0 from rfl] at h
  unfold tkV tkA tkG
  by_cases hc : a + w ≤ T
  · rw [if_pos hc, if_pos hc, tS_39] at h
    rw [if_pos hc, if_pos hc, if_pos hc]
    exact h
  · rw [if_neg hc, if_neg hc, tS_39, tS_40] at h
    rw [if_neg hc, if_neg hc, if_neg hc]
    exact h
theorem k_need {ν : Nu} {ι : Io} {ρ : Ro} {ℓ : Lo} (hM : MoS ν ρ) {a : Nat} {g x : Int32} : Ct y_Mo_need (Cond.code y_Mo_need b_Mo_need 2 none :: tb_) { frames := 0, cells := 0, slots := 0, locals := 0 } [sR 10 0 0, sI x] ν (tS ι a g) ρ ℓ (pEq none ν (tS ι a (b2 (¬ g = 0 ∧ ¬ x = 0))) ρ ℓ) (noX) := by
  have h := c_Mo_need (ι := tS ι a g) (ℓ := ℓ) hM (x := x)
  rw [tS_40] at h
  exact h
