/-- what the data of chosen objects keeps -/
def DI (ι : Io) (c : Nat) : Prop := (∀ i, i ∈ sq ι 12 47 c → ι 49 0 0 i ≠ 2 → ι 49 0 0 i ≠ 3 → mn ι 50 i < mn ι 42 (i / 12)) ∧ (∀ j, j ∈ sq ι 16 52 c → mn ι 53 j < mn ι 42 (j / 16) ∧ mn ι 56 j < mn ι 47 (j / 16))
def al (e q : Nat) : Nat := (e + 2 ^ q - 1) / 2 ^ q * 2 ^ q
theorem al_le {e q : Nat} : e ≤ al e q ∧ al e q < e + 2 ^ q := by
  unfold al
  have h0 : 0 < 2 ^ q := Nat.two_pow_pos q
  have h1 := Nat.div_add_mod (e + 2 ^ q - 1) (2 ^ q)
  have h2 := Nat.mod_lt (e + 2 ^ q - 1) h0
  rw [Nat.mul_comm] at h1
  omega
theorem nxt_nat {e q : Nat} (hq : q ≤ 7) (he : e + 128 < 2147483648) : nxt (nI e) (nI q) = nI (al e q) := by
  have go : ∀ k : Nat, k ≤ 7 → nI k &&& 31 = nI k → (1 : Int32) <<< nI k = nI (2 ^ k) → ((nI k).toBitVec.smod 32).toNat = k → nxt (nI e) (nI k) = nI (al e k) := by
    intro k hk h1 h2 h3
    have h4 : 2 ^ k ≤ 2 ^ 7 := Nat.pow_le_pow_right (by omega) hk
    have h5 : 0 < 2 ^ k := Nat.two_pow_pos k
    have h6 := (al_le (e := e) (q := k)).2
    unfold nxt
    rw [h1, h2, nI_add, show (1 : Int32) = nI 1 from rfl, pk_sub (by omega), pk_shrN (by omega) _ k h3, pk_shlN _ k h3]
    · rfl
    · unfold al at h6
      omega
  rcases (show q = 0 ∨ q = 1 ∨ q = 2 ∨ q = 3 ∨ q = 4 ∨ q = 5 ∨ q = 6 ∨ q = 7 by omega) with h | h | h | h | h | h | h | h <;> subst h <;> exact go _ (by omega) (by decide) (by decide) (by decide)
def Pl (ι : Io) (L : Ls) (b e s : Nat) : Prop := L 64 s = -1 ∨ (L 61 s ≠ 0 ∧ ∃ a, L 64 s = nI a ∧ b ≤ a ∧ a + mn ι 45 s ≤ e)
def Dj (ι : Io) (L : Ls) (s t : Nat) : Prop := ∀ a a', a < 2147483648 → a' < 2147483648 → L 64 s = nI a → L 64 t = nI a' → a + mn ι 45 s ≤ a' ∨ a' + mn ι 45 t ≤ a
def LY (ι : Io) (b N : Nat) (L : Ls) : Prop := L 10 20 = nI b ∧ ∃ e, L 10 41 = nI e ∧ b ≤ e ∧ e ≤ b + N ∧ (∀ s, s < 96 → Pl ι L b e s) ∧ (∀ s t, s < 96 → t < 96 → s ≠ t → Dj ι L s t)
theorem Pl.up {ι : Io} {L L' : Ls} {b e e' s : Nat} (h : Pl ι L b e s) (h1 : L' 64 s = L 64 s) (h2 : L' 61 s = L 61 s) (h3 : e ≤ e') : Pl ι L' b e' s := by
  rcases h with h | ⟨h4, a, h5, h6, h7⟩
  · exact Or.inl (by rw [h1, h])
  · exact Or.inr ⟨by rw [h2]; exact h4, a, by rw [h1, h5], h6, by omega⟩
theorem m1_nI {a : Nat} (h : a < 2147483648) : nI a ≠ -1 := by
  intro z
  have h1 := nI_nneg h
  rw [z] at h1
  exact h1 (by decide)
theorem LY.sec {ι : Io} {c9 b N k s : Nat} {L : Ls} (K : LK ι c9) (h : LY ι b N L) (hb : b + N ≤ 2000000) (hs : s < 96) : LY ι b (N + 256) (secS ι k L s) := by
  unfold secS
  obtain ⟨h0, e, h1, h2, h3, h4, h5⟩ := h
  split
  · rename_i hc
    have h6 := K.b44.le (t := s) (by omega)
    have h7 := K.b45.le (t := s) (by omega)
    have h8 : nxt (L 10 41) (ι 44 0 0 s) = nI (al e (mn ι 44 s)) := by rw [h1, K.b44.eq (t := s) (by omega)]; exact nxt_nat (by omega) (by omega)
    have h9 := al_le (e := e) (q := mn ι 44 s)
    have h10 : 2 ^ mn ι 44 s ≤ 2 ^ 7 := Nat.pow_le_pow_right (by omega) (by omega)
    rw [h8]
    have hX : ∀ t, t ≠ s → up2 (up2 (up2 (nxL L (ι 44 0 0 s)) 64 s (nI (al e (mn ι 44 s)))) 10 41 (nI (al e (mn ι 44 s)) + ι 45 0 0 s)) 10 30 (L 10 30 + 1) 64 t = L 64 t := by
      intro t ht
      unfold nxL
      rw [up2_ne (by omega), up2_ne (by omega), up2_ne (by omega), up2_ne (by omega), up2_ne (by omega)]
    have hY : up2 (up2 (up2 (nxL L (ι 44 0 0 s)) 64 s (nI (al e (mn ι 44 s)))) 10 41 (nI (al e (mn ι 44 s)) + ι 45 0 0 s)) 10 30 (L 10 30 + 1) 64 s = nI (al e (mn ι 44 s)) := by
      rw [up2_ne (by omega), up2_ne (by omega), up2_same]
    refine ⟨h0, al e (mn ι 44 s) + mn ι 45 s, ?_, by omega, by omega, fun t ht => ?_, fun t u ht hu hn => ?_⟩
    · show nI (al e (mn ι 44 s)) + ι 45 0 0 s = _
      rw [K.b45.eq (t := s) (by omega)]
      exact nI_add _ _
    · by_cases hq : t = s
      · subst hq
        exact Or.inr ⟨hc.1, _, hY, by omega, Nat.le_refl _⟩
      · exact (h4 t ht).up (hX t hq) rfl (by omega)
    · intro a a' ha ha' q1 q2
      by_cases hq : t = s
      · subst hq
        rw [hY] at q1
        rw [hX u (fun z => hn z.symm)] at q2
        have := nI_inj (by omega) ha q1
        rcases h4 u hu with h11 | ⟨_, a2, h12, h13, h14⟩
        · rw [h11] at q2; exact absurd q2.symm (m1_nI ha')
        · rw [q2] at h12
          have := nI_inj ha' (by omega) h12
          omega
      · rw [hX t hq] at q1
        by_cases hq2 : u = s
        · subst hq2
          rw [hY] at q2
          have := nI_inj (by omega) ha' q2
          rcases h4 t ht with h11 | ⟨_, a2, h12, h13, h14⟩
          · rw [h11] at q1; exact absurd q1.symm (m1_nI ha)
          · rw [q1] at h12
            have := nI_inj ha (by omega) h12
            omega
        · rw [hX u hq2] at q2
          exact h5 t u ht hu hn a a' ha ha' q1 q2
  · exact ⟨h0, e, h1, h2, by omega, h4, h5⟩
theorem LY.secs {ι : Io} {c9 b k : Nat} (K : LK ι c9) : ∀ (l : List Nat) (N : Nat) (L : Ls), LY ι b N L → b + N + 256 * l.length ≤ 2000000 → (∀ s ∈ l, s < 96) → LY ι b (N + 256 * l.length) (l.foldl (secS ι k) L) := by
  intro l
  induction l with
  | nil => intro N L h _ _; exact h
  | cons s l ih =>
    intro N L h hb hs
    rw [List.length_cons] at hb ⊢
    rw [List.foldl_cons]
    have := ih (N + 256) _ (h.sec (k := k) K (by omega) (hs s (List.mem_cons_self))) (by omega) (fun t ht => hs t (List.mem_cons_of_mem _ ht))
    rw [show N + 256 * (l.length + 1) = N + 256 + 256 * l.length by omega]
    exact this
theorem gr_le {ι : Io} {c9 M : Nat} {n : Int32} {r : Nat} (hb : bd ι r 156 M) (hM : M < 2147483648) (K : LK ι c9) : ∃ a, a ≤ M ∧ gr ι c9 n r = nI a := by
  unfold gr
  have : ∀ (l : List Nat) (x : Int32), (∀ i ∈ l, i < 156) → (∃ a, a ≤ M ∧ x = nI a) → ∃ a, a ≤ M ∧ l.foldl (grS ι n r) x = nI a := by
    intro l
    induction l with
    | nil => intro x _ h; exact h
    | cons i l ih =>
      intro x hl hx
      rw [List.foldl_cons]
      refine ih _ (fun t ht => hl t (List.mem_cons_of_mem _ ht)) ?_
      unfold grS
      split
      · exact hb i (hl i (List.mem_cons_self))
      · exact hx
  exact this _ _ (fun i hi => by have := K.nm hi; omega) ⟨0, by omega, rfl⟩
theorem LY.com {ι : Io} {c9 b N i : Nat} {L : Ls} (K : LK ι c9) (h : LY ι b N L) (hb : b + N ≤ 2000000) : LY ι b (N + 1152) (comS ι c9 L i) := by
  unfold comS
  obtain ⟨h0, e, h1, h2, h3, h4, h5⟩ := h
  split
  · obtain ⟨q, hq, gq⟩ := gr_le (n := ι 48 0 0 i) K.b50 (by decide) K
    obtain ⟨z, hz, gz⟩ := gr_le (n := ι 48 0 0 i) K.b51 (by decide) K
    rw [gq, gz]
    have h8 : nxt (L 10 41) (nI q) = nI (al e q) := by rw [h1]; exact nxt_nat hq (by omega)
    have h9 := al_le (e := e) (q := q)
    have h10 : 2 ^ q ≤ 2 ^ 7 := Nat.pow_le_pow_right (by omega) (by omega)
    rw [h8]
    have hX : ∀ t, up2 (up2 (up2 (nxL L (nI q)) 63 i (nI (al e q))) 10 41 (nI (al e q) + nI z)) 10 32 (L 10 32 + 1) 64 t = L 64 t := by
      intro t
      unfold nxL
      rw [up2_ne (by omega), up2_ne (by omega), up2_ne (by omega), up2_ne (by omega), up2_ne (by omega)]
    refine ⟨h0, al e q + z, nI_add _ _, by omega, by omega, fun t ht => (h4 t ht).up (hX t) rfl (by omega), fun t u ht hu hn a a' ha ha' q1 q2 => ?_⟩
    rw [hX] at q1 q2
    exact h5 t u ht hu hn a a' ha ha' q1 q2
  · exact ⟨h0, e, h1, h2, by omega, h4, h5⟩
theorem LY.coms {ι : Io} {c9 b : Nat} (K : LK ι c9) : ∀ (l : List Nat) (N : Nat) (L : Ls), LY ι b N L → b + N + 1152 * l.length ≤ 2000000 → LY ι b (N + 1152 * l.length) (l.foldl (comS ι c9) L) := by
  intro l
  induction l with
  | nil => intro N L h _; exact h
  | cons s l ih =>
    intro N L h hb
    rw [List.length_cons] at hb ⊢
    rw [List.foldl_cons]
    have := ih (N + 1152) _ (h.com (i := s) K (by omega)) (by omega)
    rw [show N + 1152 * (l.length + 1) = N + 1152 + 1152 * l.length by omega]
    exact this
theorem sq_len {ι : Io} {m fld k : Nat} {M : Nat} (h : ∀ z, z < k → mn ι fld (mn ι 59 z) ≤ M) : (sq ι m fld k).length ≤ M * k := by
  rw [← sqP_0 (m := m) (fld := fld) (k := k)]
  exact sqP_len h
theorem LK.sl {ι : Io} {c9 : Nat} (K : LK ι c9) : (sq ι 8 42 c9).length ≤ 96 := by
  have := sq_len (ι := ι) (m := 8) (fld := 42) (k := c9) (M := 8) (fun z hz => K.b42.le (t := mn ι 59 z) (by have := K.b59.le (t := z) (by have := K.c12; omega); omega))
  have := K.c12
  omega
theorem LK.nl {ι : Io} {c9 : Nat} (K : LK ι c9) : (sq ι 12 47 c9).length ≤ 144 := by
  have := sq_len (ι := ι) (m := 12) (fld := 47) (k := c9) (M := 12) (fun z hz => K.b47.le (t := mn ι 59 z) (by have := K.b59.le (t := z) (by have := K.c12; omega); omega))
  have := K.c12
  omega
theorem LK.sm {ι : Io} {c9 s : Nat} (K : LK ι c9) (h : s ∈ sq ι 8 42 c9) : s < 96 := by
  obtain ⟨k, t, hk, ht, rfl⟩ := mem_sq h
  have h3 := K.b59.le (t := k) (by have := K.c12; omega)
  have h4 := K.b42.le (t := mn ι 59 k) (by omega)
  omega
theorem LY.kin {ι : Io} {c9 b : Nat} {L : Ls} (K : LK ι c9) (h : LY ι b 0 L) (hb : b ≤ 1000000) : ∀ n, n ≤ 4 → LY ι b (24576 * n) (kinL ι c9 n L) := by
  intro n
  induction n with
  | zero => intro _; exact h
  | succ n ih =>
    intro hn
    rw [kinL_s]
    have h1 := K.sl
    have h2 := LY.secs (k := n) K (sq ι 8 42 c9) _ _ (ih (by omega)) (by omega) (fun s hs => K.sm hs)
    obtain ⟨h0, e, h3, h4, h5, h6, h7⟩ := h2
    exact ⟨h0, e, h3, h4, by omega, h6, h7⟩
theorem LY.bg {ι : Io} {b : Nat} {L : Ls} (h : L 10 20 = nI b) : LY ι b 0 (bgL L) := by
  have hX : ∀ s, s < 96 → bgL L 64 s = -1 := fun s hs => if_pos ⟨rfl, hs⟩
  exact ⟨h, b, h, Nat.le_refl _, by omega, fun s hs => Or.inl (hX s hs), fun s t hs ht _ a a' ha ha' q1 q2 => by rw [hX s hs] at q1; exact absurd q1.symm (m1_nI ha)⟩
/-- a reached section that is there has its place behind the pass of its kind -/
theorem secS_61 {ι : Io} {k s t : Nat} {L : Ls} : secS ι k L s 61 t = L 61 t := by
  unfold secS
  split
  · rfl
  · rfl
theorem comS_61 {ι : Io} {c i t : Nat} {L : Ls} : comS ι c L i 61 t = L 61 t := by
  unfold comS
  split
  · rfl
  · rfl
theorem secS_62 {ι : Io} {k s t : Nat} {L : Ls} : secS ι k L s 62 t = L 62 t := by
  unfold secS
  split
  · rfl
  · rfl
theorem comS_62 {ι : Io} {c i t : Nat} {L : Ls} : comS ι c L i 62 t = L 62 t := by
  unfold comS
  split
  · rfl
  · rfl
theorem comS_64 {ι : Io} {c i t : Nat} {L : Ls} : comS ι c L i 64 t = L 64 t := by
  unfold comS
  split
  · rfl
  · rfl
theorem kin_fr {ι : Io} {c r t : Nat} (h : ∀ k s L, secS ι k L s r t = L r t) {n : Nat} {L : Ls} : kinL ι c n L r t = L r t := by
  induction n with
  | zero => rfl
  | succ n ih => rw [kinL_s, fold_fr (fun L s => h n s L), ih]
theorem sec_nm {ι : Io} {c9 b N k s t : Nat} {L : Ls} (K : LK ι c9) (h : LY ι b N L) (hb : b + N ≤ 2000000) (hs : s < 96) (hp : L 64 t ≠ -1) : secS ι k L s 64 t ≠ -1 := by
  obtain ⟨h0, e, h1, h2, h3, h4, h5⟩ := h
  unfold secS
  split
  · have h6 := K.b44.le (t := s) (by omega)
    have h8 : nxt (L 10 41) (ι 44 0 0 s) = nI (al e (mn ι 44 s)) := by rw [h1, K.b44.eq (t := s) (by omega)]; exact nxt_nat (by omega) (by omega)
    have h9 := al_le (e := e) (q := mn ι 44 s)
    have h10 : 2 ^ mn ι 44 s ≤ 2 ^ 7 := Nat.pow_le_pow_right (by omega) (by omega)
    rw [h8]
    by_cases hq : t = s
    · subst hq
      rw [up2_ne (by omega), up2_ne (by omega), up2_same]
      exact m1_nI (by omega)
    · unfold nxL
      rw [up2_ne (by omega), up2_ne (by omega), up2_ne (by omega), up2_ne (by omega), up2_ne (by omega)]
      exact hp
  · exact hp
theorem sec_do {ι : Io} {c9 b N k s : Nat} {L : Ls} (K : LK ι c9) (h : LY ι b N L) (hb : b + N ≤ 2000000) (hs : s < 96) (hr : L 61 s ≠ 0) (hk : ι 43 0 0 s = nI k) : secS ι k L s 64 s ≠ -1 := by
  obtain ⟨h0, e, h1, h2, h3, h4, h5⟩ := h
  unfold secS
  rw [if_pos ⟨hr, hk⟩]
  have h6 := K.b44.le (t := s) (by omega)
  have h8 : nxt (L 10 41) (ι 44 0 0 s) = nI (al e (mn ι 44 s)) := by rw [h1, K.b44.eq (t := s) (by omega)]; exact nxt_nat (by omega) (by omega)
  have h9 := al_le (e := e) (q := mn ι 44 s)
  have h10 : 2 ^ mn ι 44 s ≤ 2 ^ 7 := Nat.pow_le_pow_right (by omega) (by omega)
  rw [h8, up2_ne (by omega), up2_ne (by omega), up2_same]
  exact m1_nI (by omega)
theorem secs_do {ι : Io} {c9 b k : Nat} (K : LK ι c9) : ∀ (l : List Nat) (N : Nat) (L : Ls), LY ι b N L → b + N + 256 * l.length ≤ 2000000 → (∀ s ∈ l, s < 96) → ∀ t, (L 64 t ≠ -1 ∨ (t ∈ l ∧ L 61 t ≠ 0 ∧ ι 43 0 0 t = nI k)) → l.foldl (secS ι k) L 64 t ≠ -1 := by
  intro l
  induction l with
  | nil => intro N L h _ _ t ht; rcases ht with ht | ht; exact ht; exact absurd ht.1 List.not_mem_nil
  | cons s l ih =>
    intro N L h hb hs t ht
    rw [List.length_cons] at hb
    rw [List.foldl_cons]
    have hs0 := hs s (List.mem_cons_self)
    refine ih (N + 256) _ (h.sec K (by omega) hs0) (by omega) (fun t ht => hs t (List.mem_cons_of_mem _ ht)) t ?_
    rcases ht with ht | ⟨h1, h2, h3⟩
    · exact Or.inl (sec_nm K h (by omega) hs0 ht)
    · rcases List.mem_cons.mp h1 with h4 | h4
      · subst h4
        exact Or.inl (sec_do K h (by omega) hs0 h2 h3)
      · exact Or.inr ⟨h4, by rw [secS_61]; exact h2, h3⟩
theorem kin_do {ι : Io} {c9 b : Nat} {L : Ls} (K : LK ι c9) (h : LY ι b 0 L) (hb : b ≤ 1000000) {t : Nat} (ht : t ∈ sq ι 8 42 c9) (hr : L 61 t ≠ 0) : ∀ n, n ≤ 4 → mn ι 43 t < n → kinL ι c9 n L 64 t ≠ -1 := by
  intro n
  induction n with
  | zero => intro _ h; omega
  | succ n ih =>
    intro hn hk
    rw [kinL_s]
    have h1 := K.sl
    have h2 := K.sm ht
    refine secs_do (k := n) K _ _ _ (LY.kin K h hb n (by omega)) (by omega) (fun s hs => K.sm hs) t ?_
    by_cases hq : mn ι 43 t = n
    · refine Or.inr ⟨ht, by rw [kin_fr (fun k s L => secS_61)]; exact hr, ?_⟩
      rw [K.b43.eq (t := t) (by omega), hq]
    · exact Or.inl (ih (by omega) (by omega))
/-- what the meaning of a name is -/
theorem me_srt {ι : Io} {c : Nat} {n : Int32} {i : Nat} (hi : i < 144) (h : me ι c n = nI i) : i ∈ sq ι 12 47 c ∧ ι 48 0 0 i = n ∧ (ι 49 0 0 i = 0 ∨ ι 49 0 0 i = 1 ∨ ι 49 0 0 i = 2) ∨ ¬ (sq ι 12 47 c).all (fun i => i < 144) := by
  by_cases hA : (sq ι 12 47 c).all (fun i => i < 144)
  · left
    rw [List.all_eq_true] at hA
    have key : ∀ k : Int32, fo ι c n k = nI i → i ∈ sq ι 12 47 c ∧ ι 48 0 0 i = n ∧ ι 49 0 0 i = k := by
      intro k hk
      rcases fo_rng (ι := ι) (c := c) (n := n) (k := k) with h1 | ⟨t, h1, h2, h3, h4⟩
      · rw [h1] at hk; exact absurd hk.symm (m1_nI (by omega))
      · have h5 := hA t h1
        simp at h5
        rw [hk] at h2
        have := nI_inj (by omega) (by omega) h2
        subst this
        exact ⟨h1, h3, h4⟩
    unfold me at h
    split at h
    · obtain ⟨a, b, d⟩ := key 0 h; exact ⟨a, b, Or.inl d⟩
    · split at h
      · obtain ⟨a, b, d⟩ := key 2 h; exact ⟨a, b, Or.inr (Or.inr d)⟩
      · obtain ⟨a, b, d⟩ := key 1 h; exact ⟨a, b, Or.inr (Or.inl d)⟩
  · exact Or.inr hA
theorem LKms {ι : Io} {c9 i : Nat} {n : Int32} (K : LK ι c9) (hi : i < 144) (h : me ι c9 n = nI i) : i ∈ sq ι 12 47 c9 ∧ ι 48 0 0 i = n ∧ (ι 49 0 0 i = 0 ∨ ι 49 0 0 i = 1 ∨ ι 49 0 0 i = 2) :=
  (me_srt hi h).resolve_right (fun z => z (List.all_eq_true.mpr (fun t ht => by simp; exact K.nm ht)))
theorem Tc.nl {ι : Io} {c9 i : Nat} {e : Int32} (K : LK ι c9) (h : Tc ι c9 e i) : i ∈ sq ι 12 47 c9 ∧ (ι 49 0 0 i = 0 ∨ ι 49 0 0 i = 1 ∨ ι 49 0 0 i = 2) :=
  h (fun i => i ∈ sq ι 12 47 c9 ∧ (ι 49 0 0 i = 0 ∨ ι 49 0 0 i = 1 ∨ ι 49 0 0 i = 2)) (fun i hi h => by obtain ⟨a, _, b⟩ := LKms K hi h; exact ⟨a, b⟩) (fun _ _ i' _ _ _ _ hi h => by obtain ⟨a, _, b⟩ := LKms K hi h; exact ⟨a, b⟩)
theorem sq_of {ι : Io} {m fld c k i : Nat} (hk : k < c) (hi : i < mn ι fld (mn ι 59 k)) : m * mn ι 59 k + i ∈ sq ι m fld c := sq_mem hk hi
theorem re_in {ι : Io} {c9 s : Nat} {e : Int32} {L : Ls} (K : LK ι c9) (hD : DI ι c9) (h : Jus ι c9 e L) (hs : s < 96) (hr : L 61 s ≠ 0) : s ∈ sq ι 8 42 c9 := by
  obtain ⟨_, i, h1, h2, h3⟩ := (h.1 s hs).resolve_left hr
  obtain ⟨h4, h5⟩ := h1.nl K
  have h6 := hD.1 i h4 h2 (by rcases h5 with h | h | h <;> rw [h] <;> decide)
  obtain ⟨k, t, hk, ht, rfl⟩ := mem_sq h4
  have h7 := K.b59.le (t := k) (by have := K.c12; omega)
  have h8 := K.b47.le (t := mn ι 59 k) (by omega)
  unfold rcI at h3
  rw [if_neg h2, show (12 * mn ι 59 k + t) / 12 = mn ι 59 k by omega] at h3
  rw [show (12 * mn ι 59 k + t) / 12 = mn ι 59 k by omega] at h6
  rw [← h3]
  exact sq_mem hk h6
/-- the room of every reached section in the image -/
def HL (ι : Io) (L : Ls) : Prop := ∀ s, s < 96 → L 61 s ≠ 0 → ∃ a, L 64 s - L 10 20 = nI a ∧ a + mn ι 45 s ≤ 4096
theorem enL_fr {L : Ls} {r k : Nat} (h : r ≠ 10) : enL L r k = L r k := by
  unfold enL
  split
  · rw [tlL_fr h, up2_ne (by omega)]
  · rw [up2_ne (by omega)]
theorem enL_20 {L : Ls} : enL L 10 20 = L 10 20 := by
  unfold enL
  split
  · rw [tlL_20]; rfl
  · rfl
theorem ordL_fr {ι : Io} {c r t : Nat} {L : Ls} (hr : r = 61 ∨ r = 62) : ordL ι c L r t = L r t := by
  unfold ordL
  rcases hr with h | h <;> subst h
  · rw [enL_fr (by decide), fold_fr (fun L s => comS_61), kin_fr (fun k s L => secS_61)]
    rfl
  · rw [enL_fr (by decide), fold_fr (fun L s => comS_62), kin_fr (fun k s L => secS_62)]
    rfl
theorem ord_ly {ι : Io} {c9 b : Nat} {L : Ls} (K : LK ι c9) (h : L 10 20 = nI b) (hb : b ≤ 1000000) : LY ι b 264192 ((sq ι 12 47 c9).foldl (comS ι c9) (kinL ι c9 4 (bgL L))) := by
  have h1 := LY.kin K (LY.bg (ι := ι) h) hb 4 (by omega)
  have h2 := K.nl
  obtain ⟨h0, e, h3, h4, h5, h6, h7⟩ := LY.coms K (sq ι 12 47 c9) _ _ h1 (by omega)
  exact ⟨h0, e, h3, h4, by omega, h6, h7⟩
theorem ord_hl {ι : Io} {c9 b : Nat} {e : Int32} {L : Ls} (K : LK ι c9) (hD : DI ι c9) (hJ : Jus ι c9 e L) (h : L 10 20 = nI b) (hb : b ≤ 1000000) (h0 : L 10 25 = 0) (hf : ordL ι c9 L 10 25 = 0) : HL ι (ordL ι c9 L) := by
  have hy := ord_ly K h hb
  have hk : ∀ s, s < 96 → L 61 s ≠ 0 → (sq ι 12 47 c9).foldl (comS ι c9) (kinL ι c9 4 (bgL L)) 64 s ≠ -1 := by
    intro s hs hr
    rw [fold_fr (fun L s => comS_64)]
    have h43 := K.b43.le (t := s) (by omega)
    exact kin_do K (LY.bg (ι := ι) h) hb (re_in K hD hJ hs hr) (show bgL L 61 s ≠ 0 from fun z => hr z) 4 (by omega) (by omega)
  intro s hs hr
  rw [ordL_fr (Or.inl rfl)] at hr
  have hp := hk s hs hr
  unfold ordL at hf ⊢
  generalize (sq ι 12 47 c9).foldl (comS ι c9) (kinL ι c9 4 (bgL L)) = M at hy hp hf ⊢
  rw [enL_fr (by decide), enL_20]
  obtain ⟨h20, e9, h1, h2, h3, h4, h5⟩ := hy
  obtain ⟨_, a, h6, h7, h8⟩ := (h4 s hs).resolve_left hp
  have h9 : M 10 41 - M 10 20 = nI (e9 - b) := by rw [h1, h20]; exact pk_sub h2
  have h10 : e9 - b ≤ 4096 := by
    apply Nat.le_of_not_lt
    intro z
    unfold enL at hf
    rw [h9, if_pos (show (4096 : Int32) < nI (e9 - b) from (nI_ltI (a := 4096) (by decide) (by omega)).mpr z)] at hf
    unfold tlL at hf
    split at hf
    · rename_i h11
      rw [hf] at h11
      exact absurd h11 (by decide)
    · exact absurd (show (6 : Int32) = 0 from hf) (by decide)
  refine ⟨a - b, by rw [h6, h20]; exact pk_sub h7, by omega⟩
