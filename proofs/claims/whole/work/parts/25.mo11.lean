/-- the names' places that a linking touches: the least set that holds the entry's and what the references of a touched section name -/
def Tc (ι : Io) (c : Nat) (e : Int32) (i : Nat) : Prop := ∀ S : Nat → Prop, (∀ i, i < 144 → me ι c e = nI i → S i) → (∀ i j i', S i → ι 49 0 0 i ≠ 2 → j ∈ sq ι 16 52 c → rcI ι i = slR ι j → i' < 144 → meR ι c j = nI i' → S i') → S i
theorem Tc.lt {ι : Io} {c : Nat} {e : Int32} {i : Nat} (h : Tc ι c e i) : i < 144 := h (fun i => i < 144) (fun _ h _ => h) (fun _ _ _ _ _ _ _ h _ => h)
theorem Tc.en {ι : Io} {c : Nat} {e : Int32} {i : Nat} (hi : i < 144) (h : me ι c e = nI i) : Tc ι c e i := fun _ h1 _ => h1 i hi h
theorem Tc.st {ι : Io} {c : Nat} {e : Int32} {i j i' : Nat} (h : Tc ι c e i) (hs : ι 49 0 0 i ≠ 2) (hj : j ∈ sq ι 16 52 c) (hr : rcI ι i = slR ι j) (hi : i' < 144) (hm : meR ι c j = nI i') : Tc ι c e i' :=
  fun S h1 h2 => h2 i j i' (h S h1 h2) hs hj hr hi hm
theorem nI_inj {a b : Nat} (ha : a < 2147483648) (hb : b < 2147483648) (h : nI a = nI b) : a = b := by
  have := congrArg Int32.toNatClampNeg h
  rwa [nI_clamp ha, nI_clamp hb] at this
def Jus (ι : Io) (c : Nat) (e : Int32) (L : Ls) : Prop := (∀ s, s < 96 → L 61 s = 0 ∨ (L 61 s = 1 ∧ ∃ i, Tc ι c e i ∧ ι 49 0 0 i ≠ 2 ∧ rcI ι i = s)) ∧ (∀ i, i < 144 → L 62 i = 0 ∨ (L 62 i = 1 ∧ Tc ι c e i ∧ ι 49 0 0 i = 2))
theorem Jus.r {ι : Io} {c : Nat} {e : Int32} {L : Ls} (h : Jus ι c e L) : ∀ s, s < 96 → L 61 s = 0 ∨ L 61 s = 1 := fun s hs => (h.1 s hs).imp id And.left
def Mk (ι : Io) (L : Ls) (m : Int32) : Prop := m < 0 ∨ ∃ i, i < 144 ∧ m = nI i ∧ L (rcR ι i) (rcI ι i) ≠ 0
def cz (L : Ls) : Nat := (List.range 96).countP (fun s => L 61 s == 0) + (List.range 144).countP (fun s => L 62 s == 0)
theorem ctP {n k : Nat} {f g : Nat → Bool} (hk : k < n) (h1 : ∀ t, t ≠ k → g t = f t) (h2 : f k = true) (h3 : g k = false) : (List.range n).countP g < (List.range n).countP f := by
  induction n with
  | zero => omega
  | succ n ih =>
    rw [List.range_succ, List.countP_append, List.countP_append]
    by_cases h : k = n
    · subst h
      have : (List.range k).countP g = (List.range k).countP f := List.countP_congr (fun t ht => by rw [h1 t (by have := List.mem_range.mp ht; omega)])
      simp [this, h2, h3]
    · have := ih (by omega)
      simp only [List.countP_singleton, h1 n (fun z => h z.symm)]
      omega
theorem rc_lt {ι : Io} {c9 i : Nat} (K : LK ι c9) (hi : i < 144) (hs : ι 49 0 0 i ≠ 2) : rcR ι i = 61 ∧ rcI ι i < 96 := by
  have h1 := K.b50.le (t := i) (by omega)
  unfold rcR rcI
  rw [if_neg hs, if_neg hs]
  exact ⟨rfl, by omega⟩
theorem rc_2 {ι : Io} {i : Nat} (hs : ι 49 0 0 i = 2) : rcR ι i = 62 ∧ rcI ι i = i := by
  unfold rcR rcI
  exact ⟨if_pos hs, if_pos hs⟩
theorem jus_rc {ι : Io} {c9 : Nat} {e : Int32} {L : Ls} {i : Nat} (K : LK ι c9) (h : Jus ι c9 e L) (ht : Tc ι c9 e i) : Jus ι c9 e (up2 L (rcR ι i) (rcI ι i) 1) := by
  by_cases hs : ι 49 0 0 i = 2
  · obtain ⟨h1, h2⟩ := rc_2 hs
    rw [h1, h2]
    refine ⟨fun s hs9 => ?_, fun t ht9 => ?_⟩
    · rw [up2_ne (by omega)]; exact h.1 s hs9
    · by_cases hq : t = i
      · subst hq; exact Or.inr ⟨up2_same, ht, hs⟩
      · rw [up2_ne (by omega)]; exact h.2 t ht9
  · obtain ⟨h1, h2⟩ := rc_lt K ht.lt hs
    rw [h1]
    refine ⟨fun s hs9 => ?_, fun t ht9 => ?_⟩
    · by_cases hq : s = rcI ι i
      · subst hq; exact Or.inr ⟨up2_same, i, ht, hs, rfl⟩
      · rw [up2_ne (by omega)]; exact h.1 s hs9
    · rw [up2_ne (by omega)]; exact h.2 t ht9
theorem rc_old {ι : Io} {c9 : Nat} {e : Int32} {L : Ls} {i : Nat} (K : LK ι c9) (h : Jus ι c9 e L) (hi : i < 144) (hf : L (rcR ι i) (rcI ι i) ≠ 0) : up2 L (rcR ι i) (rcI ι i) 1 = L := by
  have h1 : L (rcR ι i) (rcI ι i) = 1 := by
    by_cases hs : ι 49 0 0 i = 2
    · obtain ⟨h1, h2⟩ := rc_2 hs
      rw [h1, h2] at hf ⊢
      exact ((h.2 i hi).resolve_left hf).1
    · obtain ⟨h1, h2⟩ := rc_lt K hi hs
      rw [h1] at hf ⊢
      exact ((h.1 _ h2).resolve_left hf).1
  funext r k
  unfold up2
  split
  · rename_i h2
    rw [h2.1, h2.2, h1]
  · rfl
theorem cz_lt {ι : Io} {c9 : Nat} {L : Ls} {i : Nat} (K : LK ι c9) (hi : i < 144) (hf : L (rcR ι i) (rcI ι i) = 0) : cz (up2 L (rcR ι i) (rcI ι i) 1) < cz L := by
  unfold cz
  by_cases hs : ι 49 0 0 i = 2
  · obtain ⟨h1, h2⟩ := rc_2 hs
    rw [h1, h2] at hf ⊢
    have e1 : ∀ s, up2 L 62 i 1 61 s = L 61 s := fun s => up2_ne (by omega)
    simp only [e1]
    exact Nat.add_lt_add_left (ctP (k := i) hi (fun t ht => by rw [up2_ne (by omega)]) (by rw [hf]; rfl) (by rw [up2_same]; rfl)) _
  · obtain ⟨h1, h2⟩ := rc_lt K hi hs
    rw [h1] at hf ⊢
    have e1 : ∀ s, up2 L 61 (rcI ι i) 1 62 s = L 62 s := fun s => up2_ne (by omega)
    simp only [e1]
    exact Nat.add_lt_add_right (ctP (k := rcI ι i) h2 (fun t ht => by rw [up2_ne (by omega)]) (by rw [hf]; rfl) (by rw [up2_same]; rfl)) _
theorem mk_up {ι : Io} {L : Ls} {i : Nat} {m : Int32} (h : Mk ι L m) : Mk ι (up2 L (rcR ι i) (rcI ι i) 1) m := by
  rcases h with h | ⟨t, h1, h2, h3⟩
  · exact Or.inl h
  · refine Or.inr ⟨t, h1, h2, ?_⟩
    unfold up2
    split
    · decide
    · exact h3
theorem mk_me {ι : Io} {L : Ls} {i : Nat} (hi : i < 144) : Mk ι (up2 L (rcR ι i) (rcI ι i) 1) (nI i) := Or.inr ⟨i, hi, rfl, by rw [up2_same]; decide⟩
theorem fr_up {ι : Io} {c9 : Nat} {L L0 : Ls} {i : Nat} (K : LK ι c9) (hi : i < 144) (h : ∀ r k, ¬ (r = 61 ∧ k < 96) → ¬ (r = 62 ∧ k < 144) → L r k = L0 r k) : ∀ r k, ¬ (r = 61 ∧ k < 96) → ¬ (r = 62 ∧ k < 144) → up2 L (rcR ι i) (rcI ι i) 1 r k = L0 r k := by
  intro r k h1 h2
  rw [up2_ne, h r k h1 h2]
  by_cases hs : ι 49 0 0 i = 2
  · obtain ⟨h3, h4⟩ := rc_2 hs
    rw [h3, h4]
    omega
  · obtain ⟨h3, h4⟩ := rc_lt K hi hs
    rw [h3]
    omega
def PI (ι : Io) (c : Nat) (e : Int32) (L0 L1 : Ls) (l : List Nat) (more : Int32) (L2 : Ls) : Prop := Jus ι c e L2 ∧ Mk ι L2 (me ι c e) ∧ (∀ r k, ¬ (r = 61 ∧ k < 96) → ¬ (r = 62 ∧ k < 144) → L2 r k = L0 r k) ∧ cz L2 ≤ cz L1 ∧ (more = 0 ∨ more = 1) ∧ (more ≠ 0 → cz L2 < cz L1) ∧ (more = 0 → L2 = L1 ∧ ∀ j ∈ l, L1 61 (slR ι j) ≠ 0 → Mk ι L1 (meR ι c j))
def WI (ι : Io) (c : Nat) (e : Int32) (L0 : Ls) (more : Int32) (L1 : Ls) : Prop := Jus ι c e L1 ∧ Mk ι L1 (me ι c e) ∧ (∀ r k, ¬ (r = 61 ∧ k < 96) → ¬ (r = 62 ∧ k < 144) → L1 r k = L0 r k) ∧ (more = 0 ∨ more = 1) ∧ (more = 0 → ∀ j ∈ sq ι 16 52 c, L1 61 (slR ι j) ≠ 0 → Mk ι L1 (meR ι c j))
theorem PI.z {ι : Io} {c : Nat} {e : Int32} {L0 L1 : Ls} {mo : Int32} (h : WI ι c e L0 mo L1) : PI ι c e L0 L1 [] 0 L1 :=
  ⟨h.1, h.2.1, h.2.2.1, Nat.le_refl _, Or.inl rfl, fun z => absurd rfl z, fun _ => ⟨rfl, fun j hj => absurd hj List.not_mem_nil⟩⟩
theorem PI.w {ι : Io} {c : Nat} {e : Int32} {L0 L1 L2 : Ls} {mo : Int32} (h : PI ι c e L0 L1 (sq ι 16 52 c) mo L2) : WI ι c e L0 mo L2 :=
  ⟨h.1, h.2.1, h.2.2.1, h.2.2.2.2.1, fun z => by obtain ⟨h1, h2⟩ := h.2.2.2.2.2.2 z; rw [h1]; exact h2⟩
theorem PI.sk {ι : Io} {c : Nat} {e : Int32} {L0 L1 L2 : Ls} {mo : Int32} {l : List Nat} {j : Nat} (h : PI ι c e L0 L1 l mo L2) (hz : L2 61 (slR ι j) = 0) : PI ι c e L0 L1 (l ++ [j]) mo L2 := by
  refine ⟨h.1, h.2.1, h.2.2.1, h.2.2.2.1, h.2.2.2.2.1, h.2.2.2.2.2.1, fun z => ?_⟩
  obtain ⟨h1, h2⟩ := h.2.2.2.2.2.2 z
  refine ⟨h1, fun t ht hn => ?_⟩
  rcases List.mem_append.mp ht with h3 | h3
  · exact h2 t h3 hn
  · rw [List.mem_singleton.mp h3] at hn
    rw [← h1] at hn
    exact absurd hz hn
theorem PI.tc {ι : Io} {c9 : Nat} {e : Int32} {L0 L1 L2 : Ls} {mo : Int32} {l : List Nat} {j i : Nat} (h : PI ι c9 e L0 L1 l mo L2) (hz : L2 61 (slR ι j) ≠ 0) (hj : j ∈ sq ι 16 52 c9) (hs : slR ι j < 96) (hi : i < 144) (hm : meR ι c9 j = nI i) : Tc ι c9 e i := by
  obtain ⟨_, i0, h1, h2, h3⟩ := (h.1.1 _ hs).resolve_left hz
  exact h1.st h2 hj h3 hi hm
theorem PI.no {ι : Io} {c9 : Nat} {e : Int32} {L0 L1 L2 : Ls} {mo : Int32} {l : List Nat} {j : Nat} (h : PI ι c9 e L0 L1 l mo L2) (hm : Mk ι L2 (meR ι c9 j)) : PI ι c9 e L0 L1 (l ++ [j]) mo L2 := by
  refine ⟨h.1, h.2.1, h.2.2.1, h.2.2.2.1, h.2.2.2.2.1, h.2.2.2.2.2.1, fun z => ?_⟩
  obtain ⟨h1, h2⟩ := h.2.2.2.2.2.2 z
  refine ⟨h1, fun t ht hn => ?_⟩
  rcases List.mem_append.mp ht with h3 | h3
  · exact h2 t h3 hn
  · rw [List.mem_singleton.mp h3]
    rw [h1] at hm
    exact hm
theorem PI.old {ι : Io} {c9 : Nat} {e : Int32} {L0 L1 L2 : Ls} {mo : Int32} {l : List Nat} {j : Nat} (K : LK ι c9) (h : PI ι c9 e L0 L1 l mo L2) (hb : rcB ι L2 (meR ι c9 j) = 0) : PI ι c9 e L0 L1 (l ++ [j]) mo (rcL ι L2 (meR ι c9 j)) := by
  rcases K.me (nuR ι j) with h1 | ⟨i, hi, -, h1, -⟩
  · have h2 : meR ι c9 j < 0 := by unfold meR; rw [h1]; decide
    rw [rcL_n h2]
    exact h.no (Or.inl h2)
  · have h2 : meR ι c9 j = nI i := h1
    rw [h2, rcB_p hi] at hb
    have h3 := b2_0.mp hb
    rw [h2, rcL_p hi, rc_old K h.1 hi h3]
    exact h.no (Or.inr ⟨i, hi, h2, h3⟩)
theorem PI.new {ι : Io} {c9 : Nat} {e : Int32} {L0 L1 L2 : Ls} {mo : Int32} {l : List Nat} {j : Nat} (K : LK ι c9) (h : PI ι c9 e L0 L1 l mo L2) (hz : L2 61 (slR ι j) ≠ 0) (hj : j ∈ sq ι 16 52 c9) (hs : slR ι j < 96) (hb : rcB ι L2 (meR ι c9 j) ≠ 0) : PI ι c9 e L0 L1 (l ++ [j]) 1 (rcL ι L2 (meR ι c9 j)) := by
  rcases K.me (nuR ι j) with h1 | ⟨i, hi, -, h1, -⟩
  · have h2 : meR ι c9 j < 0 := by unfold meR; rw [h1]; decide
    exact absurd (rcB_n h2) hb
  · have h2 : meR ι c9 j = nI i := h1
    have ht := h.tc hz hj hs hi h2
    rw [h2, rcB_p hi] at hb
    have h3 := b2_n0.mp hb
    have h4 := cz_lt K hi h3
    rw [h2, rcL_p hi]
    have := h.2.2.2.1
    exact ⟨jus_rc K h.1 ht, mk_up h.2.1, fr_up K hi h.2.2.1, by omega, Or.inr rfl, fun _ => by omega, fun z => absurd z (by decide)⟩
def Rd (ι : Io) (c : Nat) (e : Int32) (L : Ls) : Prop := Jus ι c e L ∧ ∀ i, Tc ι c e i → L (rcR ι i) (rcI ι i) ≠ 0
theorem WI.rd {ι : Io} {c9 : Nat} {e : Int32} {L0 L1 : Ls} (K : LK ι c9) (h : WI ι c9 e L0 0 L1) : Rd ι c9 e L1 := by
  refine ⟨h.1, fun i ht => (ht (fun i => i < 144 ∧ L1 (rcR ι i) (rcI ι i) ≠ 0) (fun t h1 h2 => ?_) (fun t j t' h1 h2 h3 h4 h5 h6 => ?_)).2⟩
  · rcases h.2.1 with h3 | ⟨q, h3, h4, h5⟩
    · rw [h2] at h3; exact absurd h3 (nI_nneg (by omega))
    · have : q = t := nI_inj (by omega) (by omega) (by rw [← h4, h2])
      subst this
      exact ⟨h1, h5⟩
  · have h7 := (rc_lt K h1.1 h2).1
    have h8 := h1.2
    rw [h7, h4] at h8
    rcases h.2.2.2.2 rfl j h3 h8 with h9 | ⟨q, h9, h10, h11⟩
    · rw [h6] at h9; exact absurd h9 (nI_nneg (by omega))
    · have : q = t' := nI_inj (by omega) (by omega) (by rw [← h10, h6])
      subst this
      exact ⟨h5, h11⟩
def miB (ι : Io) (c : Nat) (L : Ls) (j : Nat) : Prop := L 61 (slR ι j) ≠ 0 ∧ meR ι c j < 0
def z0L (L : Ls) : Ls := flL (flL L 61 96 0) 62 144 0
theorem jus_0 {ι : Io} {c : Nat} {e : Int32} {L : Ls} : Jus ι c e (z0L L) := by
  refine ⟨fun s hs => Or.inl ?_, fun s hs => Or.inl ?_⟩
  · show (if 61 = 62 ∧ s < 144 then (0 : Int32) else if 61 = 61 ∧ s < 96 then 0 else L 61 s) = 0
    rw [if_neg (by omega), if_pos ⟨rfl, hs⟩]
  · show (if 62 = 62 ∧ s < 144 then (0 : Int32) else _) = 0
    rw [if_pos ⟨rfl, hs⟩]
theorem fr_0 {L : Ls} : ∀ r k, ¬ (r = 61 ∧ k < 96) → ¬ (r = 62 ∧ k < 144) → z0L L r k = L r k := by
  intro r k h1 h2
  unfold z0L flL
  grind
theorem z0_tl {L : Ls} {a b d : Int32} : z0L (tlL L a b d) = tlL (z0L L) a b d := by
  unfold tlL
  rw [show z0L L 10 25 = L 10 25 from rfl]
  split
  · rfl
  · funext r k
    unfold z0L flL up2
    grind
theorem WI.en {ι : Io} {c9 : Nat} {e : Int32} {L : Ls} (K : LK ι c9) : WI ι c9 e L (rcB ι (z0L L) (me ι c9 e)) (rcL ι (z0L L) (me ι c9 e)) := by
  have hj := jus_0 (ι := ι) (c := c9) (e := e) (L := L)
  rcases K.me e with h1 | ⟨i, hi, -, h1, -⟩
  · have h2 : me ι c9 e < 0 := by rw [h1]; decide
    rw [rcL_n h2, rcB_n h2]
    refine ⟨hj, Or.inl h2, fr_0, Or.inl rfl, fun _ j hj9 hn => absurd ?_ hn⟩
    obtain ⟨k, t, hk, ht, rfl⟩ := mem_sq hj9
    have h3 := K.b59.le (t := k) (by have := K.c12; omega)
    have h4 := K.b52.le (t := mn ι 59 k) (by omega)
    have h5 := K.b53.le (t := 16 * mn ι 59 k + t) (by omega)
    have h6 : slR ι (16 * mn ι 59 k + t) < 96 := by unfold slR; omega
    unfold z0L flL
    rw [if_neg (by omega), if_pos ⟨rfl, h6⟩]
  · rw [h1, rcL_p hi, rcB_p hi]
    have h2 : z0L L (rcR ι i) (rcI ι i) = 0 := by
      by_cases hs : ι 49 0 0 i = 2
      · obtain ⟨h3, h4⟩ := rc_2 hs
        rw [h3, h4]
        exact if_pos ⟨rfl, hi⟩
      · obtain ⟨h3, h4⟩ := rc_lt K hi hs
        rw [h3]
        unfold z0L flL
        rw [if_neg (by omega), if_pos ⟨rfl, h4⟩]
    rw [b2_t h2]
    refine ⟨jus_rc K hj (Tc.en hi h1), ?_, fr_up K hi fr_0, Or.inr rfl, fun z => absurd z (by decide)⟩
    rw [h1]
    exact mk_me hi
theorem LK.rf {ι : Io} {c9 j : Nat} (K : LK ι c9) (h : j ∈ sq ι 16 52 c9) : slR ι j < 96 ∧ j < 192 := by
  obtain ⟨k, t, hk, ht, rfl⟩ := mem_sq h
  have h3 := K.b59.le (t := k) (by have := K.c12; omega)
  have h4 := K.b52.le (t := mn ι 59 k) (by omega)
  have h5 := K.b53.le (t := 16 * mn ι 59 k + t) (by omega)
  exact ⟨by unfold slR; omega, by omega⟩
def miS (ι : Io) (c : Nat) (L : Ls) (j : Nat) : Ls := if L 61 (slR ι j) ≠ 0 ∧ meR ι c j < 0 then tlL L 2 (nI (j / 16)) (nI (j % 16)) else L
theorem tlL_fr {L : Ls} {a b d : Int32} {r k : Nat} (h : r ≠ 10) : tlL L a b d r k = L r k := by
  unfold tlL
  split
  · rfl
  · rw [up2_ne (by omega), up2_ne (by omega), up2_ne (by omega)]
theorem miS_fr {ι : Io} {c : Nat} {L : Ls} {j r k : Nat} (h : r ≠ 10) : miS ι c L j r k = L r k := by
  unfold miS
  split
  · exact tlL_fr h
  · rfl
theorem sq_mem {ι : Io} {m fld c k i : Nat} (hk : k < c) (hi : i < mn ι fld (mn ι 59 k)) : m * mn ι 59 k + i ∈ sq ι m fld c :=
  List.mem_flatMap.mpr ⟨k, List.mem_range.mpr hk, List.mem_map.mpr ⟨i, List.mem_range.mpr hi, rfl⟩⟩
set_option maxHeartbeats 1000000 in
set_option maxRecDepth 10000 in
theorem k_findReached {ν : Nu} {ι : Io} {ρ : Ro} {ℓ : Lo} (hM : MoS ν ρ) {c9 : Nat} (K : LK ι c9) {L : Ls} {en : Int32} : Ct y_Mo_findReached (Cond.code y_Mo_findReached b_Mo_findReached 7 none :: tb_) { frames := 3, cells := 0, slots := 0, locals := 70 } [sR 10 0 0, sI en] ν (setL ι L) ρ ℓ (fun v ν1 ι1 ρ1 ℓ1 => v = none ∧ ν = ν1 ∧ ρ = ρ1 ∧ ℓ = ℓ1 ∧ ∃ L1, Rd ι c9 en L1 ∧ (∀ r k, ¬ (r = 61 ∧ k < 96) → ¬ (r = 62 ∧ k < 144) → L1 r k = (if me ι c9 en < 0 then tlL L 2 (-1) en else L) r k) ∧ ι1 = setL ι ((sq ι 16 52 c9).foldl (miS ι c9) L1)) (noX) := by
  refine Ct.ofV (by decide) (Nat.le_of_ble_eq_true rfl) rfl ?_
  intro p l e s m args below meth c D B tW α0 Q C hQ
  have h12 := K.c12
  have miss : ∀ (f : Nat) (k9 : Nat) (x2 x3 : Int32) (L1 L3 : Ls), c9 - k9 < f → (k9 ≤ c9) → (L3 = (sq ι 16 52 k9).foldl (miS ι c9) L1) → (∀ s, s < 96 → L3 61 s = 0 ∨ L3 61 s = 1) → (Rd ι c9 en L1) → (∀ r k, ¬ (r = 61 ∧ k < 96) → ¬ (r = 62 ∧ k < 144) → L1 r k = (if me ι c9 en < 0 then tlL L 2 (-1) en else L) r k) → V p l e { frames := 3, cells := 0, slots := 0, locals := 70 } s m args below meth c D B α0 ν 7 Q 0 0 ν (setL ι L3) ρ ℓ 154 [(4, sI (nI k9)), (3, sI x3), (2, sI x2), (0, sR 10 0 0), (1, sI en)] [] := by
    intro f
    induction f with
    | zero => intros; omega
    | succ f ih =>
      intro k9 x2 x3 L1 L3 hf hk0 hpre0 hR0 hrd hfr
      refine V_iload C d_Mo_findReached_154 rfl ?_
      refine V_aload_n C d_Mo_findReached_156 rfl ?_
      refine V_getI (kx := 18) C d_Mo_findReached_157 cf_Mo (by decide) k_Mo_144 hM.al rfl ?_
      refine V_eqi (y := nI c9) K.c18 ?_
      refine V_icmp_ge (tgt := 230) C d_Mo_findReached_160 (by decide) (fun h160 => ?_) (fun h160 => ?_)
      · have hk : k9 = c9 := by have := (nI_leI (a := c9) (b := k9) (by omega) (by omega)).mp h160; omega
        subst hk
        refine V_vret C hQ (by decide) (by decide) d_Mo_findReached_230 rfl ?_
        exact ⟨rfl, rfl, rfl, rfl, L1, hrd, hfr, congrArg (setL ι) hpre0⟩
      · have hk : k9 < c9 := Nat.lt_of_not_le fun z => h160 ((nI_leI (by omega) (by omega)).mpr z)
        have ho := K.b59.le (t := k9) (by omega)
        have hnn := K.b52.le (t := mn ι 59 k9) (by omega)
        have inner : ∀ (f : Nat) (i : Nat) (L3 : Ls), mn ι 52 (mn ι 59 k9) - i < f → (i ≤ mn ι 52 (mn ι 59 k9)) → (L3 = (sqP ι 16 52 k9 i).foldl (miS ι c9) L1) → (∀ s, s < 96 → L3 61 s = 0 ∨ L3 61 s = 1) → V p l e { frames := 3, cells := 0, slots := 0, locals := 70 } s m args below meth c D B α0 ν 7 Q 0 0 ν (setL ι L3) ρ ℓ 175 [(6, sI (nI i)), (5, sI (nI (mn ι 59 k9))), (4, sI (nI k9)), (3, sI x3), (2, sI x2), (0, sR 10 0 0), (1, sI en)] [] := by
          intro f
          induction f with
          | zero => intros; omega
          | succ f ih2 =>
                  intro i L3 hf2 hi0 hpre hR
                  refine V_iload C d_Mo_findReached_175 rfl ?_
                  refine V_aload_n C d_Mo_findReached_177 rfl ?_
                  refine V_getR (kx := 12) C d_Mo_findReached_178 cf_Mo (by decide) k_Mo_40 hM.al rfl hM.r12 ?_
                  refine V_iload C d_Mo_findReached_181 rfl ?_
                  refine V_iald C d_Mo_findReached_183 (by decide) rfl hM.n12 rfl (by omega) rfl ?_
                  refine V_eqi (y := nI (mn ι 52 (mn ι 59 k9))) (K.b52.eq (t := mn ι 59 k9) (by omega)) ?_
                  refine V_icmp_ge (tgt := 224) C d_Mo_findReached_184 (by decide) (fun h184 => ?_) (fun h184 => ?_)
                  · have hi : i = mn ι 52 (mn ι 59 k9) := by have := (nI_leI (by omega) (by omega)).mp h184; omega
                    refine V_iinc (v := nI (k9 + 1)) (lv' := [(4, _), (6, _), (5, _), (3, _), (2, _), (0, _), (1, _)]) C d_Mo_findReached_224 rfl (nI_1 k9) (by decide) rfl ?_
                    refine V_goto (tgt := 154) C d_Mo_findReached_227 (by decide) ?_
                    refine V_pick [0, 3, 4, 5, 6] rfl ?_
                    exact ih (k9 + 1) _ _ _ _ (by omega) (by omega) (by rw [sq_s, ← hi]; exact hpre) hR hrd hfr
                  · have hi : i < mn ι 52 (mn ι 59 k9) := Nat.lt_of_not_le fun z => h184 ((nI_leI (by omega) (by omega)).mpr (by omega))
                    refine V_aload_n C d_Mo_findReached_187 rfl ?_
                    refine V_iload C d_Mo_findReached_188 rfl ?_
                    refine V_iload C d_Mo_findReached_190 rfl ?_
                    refine V_callV (as := [_, _]) C d_Mo_findReached_192 (k_isWorked hM K (t := mn ι 59 k9) (j := i) (by omega) (by omega) hR) m_Mo_isWorked cf_Mo k_Mo_164 hM.al ⟨by decide, by decide⟩ (Nat.le_of_ble_eq_true rfl) ⟨by decide, by decide⟩ rfl ?_
                    rintro _ _ _ _ _ ⟨rfl, rfl, rfl, rfl, rfl⟩
                    dsimp only [Option.toList, List.cons_append, List.nil_append]
                    refine V_if_eq (tgt := 218) C d_Mo_findReached_195 (by decide) (fun h195 => ?_) (fun h195 => ?_)
                    · have hst : miS ι c9 L3 (16 * mn ι 59 k9 + i) = L3 := if_neg (fun z => z.1 h195)
                      refine V_iinc (v := nI (i + 1)) (lv' := [(6, _), (5, _), (4, _), (3, _), (2, _), (0, _), (1, _)]) C d_Mo_findReached_218 rfl (nI_1 _) (by decide) rfl ?_
                      refine V_goto (tgt := 175) C d_Mo_findReached_221 (by decide) ?_
                      refine V_pick [0, 1, 2, 3, 4, 5, 6] rfl ?_
                      exact ih2 (i + 1) _ (by omega) (by omega) (by rw [sqP_s, fold_g, ← hpre]; exact hst.symm) (fun s hs => by rw [← hst, miS_fr (by decide)]; exact hR s hs)
                    · refine V_aload_n C d_Mo_findReached_198 rfl ?_
                      refine V_iload C d_Mo_findReached_199 rfl ?_
                      refine V_iload C d_Mo_findReached_201 rfl ?_
                      refine V_callV (as := [_, _]) C d_Mo_findReached_203 (k_meaningOf hM K (t := mn ι 59 k9) (j := i) (by omega) (by omega)) m_Mo_meaningOf cf_Mo k_Mo_167 hM.al ⟨by decide, by decide⟩ (Nat.le_of_ble_eq_true rfl) ⟨by decide, by decide⟩ rfl ?_
                      rintro _ _ _ _ _ ⟨rfl, rfl, rfl, rfl, rfl⟩
                      dsimp only [Option.toList, List.cons_append, List.nil_append]
                      refine V_if_ge (tgt := 218) C d_Mo_findReached_206 (by decide) (fun h206 => ?_) (fun h206 => ?_)
                      · have hst : miS ι c9 L3 (16 * mn ι 59 k9 + i) = L3 := if_neg (fun z => absurd z.2 (Int32.not_lt.mpr h206))
                        refine V_iinc (v := nI (i + 1)) (lv' := [(6, _), (5, _), (4, _), (3, _), (2, _), (0, _), (1, _)]) C d_Mo_findReached_218 rfl (nI_1 _) (by decide) rfl ?_
                        refine V_goto (tgt := 175) C d_Mo_findReached_221 (by decide) ?_
                        refine V_pick [0, 1, 2, 3, 4, 5, 6] rfl ?_
                        exact ih2 (i + 1) _ (by omega) (by omega) (by rw [sqP_s, fold_g, ← hpre]; exact hst.symm) (fun s hs => by rw [← hst, miS_fr (by decide)]; exact hR s hs)
                      · have hst : miS ι c9 L3 (16 * mn ι 59 k9 + i) = tlL L3 2 (nI (mn ι 59 k9)) (nI i) := by unfold miS; rw [if_pos ⟨h195, lt_of_nle h206⟩, show (16 * mn ι 59 k9 + i) / 16 = mn ι 59 k9 by omega, show (16 * mn ι 59 k9 + i) % 16 = i by omega]
                        refine V_aload_n C d_Mo_findReached_209 rfl ?_
                        refine V_iconst (v := 2) C d_Mo_findReached_210 (by decide) ?_
                        refine V_iload C d_Mo_findReached_211 rfl ?_
                        refine V_iload C d_Mo_findReached_213 rfl ?_
                        refine V_callV (as := [_, _, _]) C d_Mo_findReached_215 (k_tell hM K) m_Mo_tell cf_Mo k_Mo_157 hM.al ⟨by decide, by decide⟩ (Nat.le_of_ble_eq_true rfl) ⟨by decide, by decide⟩ rfl ?_
                        rintro _ _ _ _ _ ⟨rfl, rfl, rfl, rfl, rfl⟩
                        dsimp only [Option.toList, List.cons_append, List.nil_append]
                        refine V_iinc (v := nI (i + 1)) (lv' := [(6, _), (5, _), (4, _), (3, _), (2, _), (0, _), (1, _)]) C d_Mo_findReached_218 rfl (nI_1 _) (by decide) rfl ?_
                        refine V_goto (tgt := 175) C d_Mo_findReached_221 (by decide) ?_
                        refine V_pick [0, 1, 2, 3, 4, 5, 6] rfl ?_
                        exact ih2 (i + 1) _ (by omega) (by omega) (by rw [sqP_s, fold_g, ← hpre]; exact hst.symm) (fun s hs => by rw [← hst, miS_fr (by decide)]; exact hR s hs)
        refine V_aload_n C d_Mo_findReached_163 rfl ?_
        refine V_getR (kx := 19) C d_Mo_findReached_164 cf_Mo (by decide) k_Mo_58 hM.al rfl hM.r19 ?_
        refine V_iload C d_Mo_findReached_167 rfl ?_
        refine V_iald C d_Mo_findReached_169 (by decide) rfl hM.n19 rfl (by omega) rfl ?_
        refine V_eqi (y := nI (mn ι 59 k9)) (K.b59.eq (t := k9) (by omega)) ?_
        refine V_istore (lv' := [(5, _), (4, _), (3, _), (2, _), (0, _), (1, _)]) C d_Mo_findReached_170 (by decide) rfl ?_
        refine V_iconst (v := 0) C d_Mo_findReached_172 (by decide) ?_
        refine V_istore (lv' := [(6, _), (5, _), (4, _), (3, _), (2, _), (0, _), (1, _)]) C d_Mo_findReached_173 (by decide) rfl ?_
        refine V_pick [0, 1, 2, 3, 4, 5, 6] rfl ?_
        exact inner (mn ι 52 (mn ι 59 k9) + 1) 0 _ (by omega) (by omega) (by rw [sqP_0]; exact hpre0) hR0
  have done : ∀ (x2 : Int32) (L1 : Ls), WI ι c9 en (if me ι c9 en < 0 then tlL L 2 (-1) en else L) 0 L1 → V p l e { frames := 3, cells := 0, slots := 0, locals := 70 } s m args below meth c D B α0 ν 7 Q 0 0 ν (setL ι L1) ρ ℓ 66 [(3, sI 0), (2, sI x2), (0, sR 10 0 0), (1, sI en)] [] := by
    intro x2 L1 hwi
    refine V_iload_n C d_Mo_findReached_66 rfl ?_
    refine V_if_eq (tgt := 151) C d_Mo_findReached_67 (by decide) (fun h67 => ?_) (fun h67 => absurd rfl h67)
    refine V_iconst (v := 0) C d_Mo_findReached_151 (by decide) ?_
    refine V_istore (lv' := [(4, _), (3, _), (2, _), (0, _), (1, _)]) C d_Mo_findReached_152 (by decide) rfl ?_
    refine V_pick [0, 1, 2, 3, 4] rfl ?_
    exact miss (c9 + 1) 0 _ _ L1 L1 (by omega) (by omega) rfl hwi.1.r (hwi.rd K) hwi.2.2.1
  have wh : ∀ (x2 : Int32) (f : Nat) (mo : Int32) (L1 : Ls), cz L1 < f → (WI ι c9 en (if me ι c9 en < 0 then tlL L 2 (-1) en else L) mo L1) → V p l e { frames := 3, cells := 0, slots := 0, locals := 70 } s m args below meth c D B α0 ν 7 Q 0 0 ν (setL ι L1) ρ ℓ 66 [(3, sI mo), (2, sI x2), (0, sR 10 0 0), (1, sI en)] [] := by
    intro x2 f
    induction f with
    | zero => intros; omega
    | succ f ih =>
      intro mo L1 hfW hwi
      refine V_iload_n C d_Mo_findReached_66 rfl ?_
      refine V_if_eq (tgt := 151) C d_Mo_findReached_67 (by decide) (fun h67 => ?_) (fun h67 => ?_)
      · subst h67
        refine V_iconst (v := 0) C d_Mo_findReached_151 (by decide) ?_
        refine V_istore (lv' := [(4, _), (3, _), (2, _), (0, _), (1, _)]) C d_Mo_findReached_152 (by decide) rfl ?_
        refine V_pick [0, 1, 2, 3, 4] rfl ?_
        exact miss (c9 + 1) 0 _ _ L1 L1 (by omega) (by omega) rfl hwi.1.r (hwi.rd K) hwi.2.2.1
      · refine V_iconst (v := 0) C d_Mo_findReached_70 (by decide) ?_
        refine V_istore_n (lv' := [(3, _), (2, _), (0, _), (1, _)]) C d_Mo_findReached_71 (by decide) rfl ?_
        refine V_iconst (v := 0) C d_Mo_findReached_72 (by decide) ?_
        refine V_istore (lv' := [(4, _), (3, _), (2, _), (0, _), (1, _)]) C d_Mo_findReached_73 (by decide) rfl ?_
        have hend : ∀ (mo9 : Int32) (L2 : Ls), PI ι c9 en (if me ι c9 en < 0 then tlL L 2 (-1) en else L) L1 (sq ι 16 52 c9) mo9 L2 → V p l e { frames := 3, cells := 0, slots := 0, locals := 70 } s m args below meth c D B α0 ν 7 Q 0 0 ν (setL ι L2) ρ ℓ 66 [(3, sI mo9), (2, sI x2), (0, sR 10 0 0), (1, sI en)] [] := by
          intro mo9 L2 hp
          rcases hp.2.2.2.2.1 with hz | hz
          · subst hz
            exact done x2 L2 hp.w
          · exact ih mo9 L2 (by have := hp.2.2.2.2.2.1 (by rw [hz]; decide); omega) hp.w
        have pass : ∀ (f : Nat) (k9 : Nat) (mo : Int32) (L2 : Ls), c9 - k9 < f → (k9 ≤ c9) → (PI ι c9 en (if me ι c9 en < 0 then tlL L 2 (-1) en else L) L1 (sq ι 16 52 k9) mo L2) → V p l e { frames := 3, cells := 0, slots := 0, locals := 70 } s m args below meth c D B α0 ν 7 Q 0 0 ν (setL ι L2) ρ ℓ 75 [(4, sI (nI k9)), (3, sI mo), (2, sI x2), (0, sR 10 0 0), (1, sI en)] [] := by
          intro f
          induction f with
          | zero => intros; omega
          | succ f ih =>
                  intro k9 mo L2 hf hk0 hpre0
                  refine V_iload C d_Mo_findReached_75 rfl ?_
                  refine V_aload_n C d_Mo_findReached_77 rfl ?_
                  refine V_getI (kx := 18) C d_Mo_findReached_78 cf_Mo (by decide) k_Mo_144 hM.al rfl ?_
                  refine V_eqi (y := nI c9) K.c18 ?_
                  refine V_icmp_ge (tgt := 148) C d_Mo_findReached_81 (by decide) (fun h81 => ?_) (fun h81 => ?_)
                  · have hk : k9 = c9 := by have := (nI_leI (a := c9) (b := k9) (by omega) (by omega)).mp h81; omega
                    subst hk
                    refine V_goto (tgt := 66) C d_Mo_findReached_148 (by decide) ?_
                    refine V_pick [1, 2, 3, 4] rfl ?_
                    exact hend mo L2 hpre0
                  · have hk : k9 < c9 := Nat.lt_of_not_le fun z => h81 ((nI_leI (by omega) (by omega)).mpr z)
                    have ho := K.b59.le (t := k9) (by omega)
                    have hnn := K.b52.le (t := mn ι 59 k9) (by omega)
                    have inner : ∀ (f : Nat) (i : Nat) (mo : Int32) (L2 : Ls), mn ι 52 (mn ι 59 k9) - i < f → (i ≤ mn ι 52 (mn ι 59 k9)) → (PI ι c9 en (if me ι c9 en < 0 then tlL L 2 (-1) en else L) L1 (sqP ι 16 52 k9 i) mo L2) → V p l e { frames := 3, cells := 0, slots := 0, locals := 70 } s m args below meth c D B α0 ν 7 Q 0 0 ν (setL ι L2) ρ ℓ 96 [(6, sI (nI i)), (5, sI (nI (mn ι 59 k9))), (4, sI (nI k9)), (3, sI mo), (2, sI x2), (0, sR 10 0 0), (1, sI en)] [] := by
                      intro f
                      induction f with
                      | zero => intros; omega
                      | succ f ih2 =>
                                  intro i mo L2 hf2 hi0 hpre
                                  refine V_iload C d_Mo_findReached_96 rfl ?_
                                  refine V_aload_n C d_Mo_findReached_98 rfl ?_
                                  refine V_getR (kx := 12) C d_Mo_findReached_99 cf_Mo (by decide) k_Mo_40 hM.al rfl hM.r12 ?_
                                  refine V_iload C d_Mo_findReached_102 rfl ?_
                                  refine V_iald C d_Mo_findReached_104 (by decide) rfl hM.n12 rfl (by omega) rfl ?_
                                  refine V_eqi (y := nI (mn ι 52 (mn ι 59 k9))) (K.b52.eq (t := mn ι 59 k9) (by omega)) ?_
                                  refine V_icmp_ge (tgt := 142) C d_Mo_findReached_105 (by decide) (fun h105 => ?_) (fun h105 => ?_)
                                  · have hi : i = mn ι 52 (mn ι 59 k9) := by have := (nI_leI (by omega) (by omega)).mp h105; omega
                                    refine V_iinc (v := nI (k9 + 1)) (lv' := [(4, _), (6, _), (5, _), (3, _), (2, _), (0, _), (1, _)]) C d_Mo_findReached_142 rfl (nI_1 k9) (by decide) rfl ?_
                                    refine V_goto (tgt := 75) C d_Mo_findReached_145 (by decide) ?_
                                    refine V_pick [0, 3, 4, 5, 6] rfl ?_
                                    exact ih (k9 + 1) _ _ (by omega) (by omega) (by rw [sq_s, ← hi]; exact hpre)
                                  · have hi : i < mn ι 52 (mn ι 59 k9) := Nat.lt_of_not_le fun z => h105 ((nI_leI (by omega) (by omega)).mpr (by omega))
                                    have hjm := sq_mem (m := 16) (fld := 52) hk hi
                                    obtain ⟨hj1, hj2⟩ := K.rf hjm
                                    refine V_aload_n C d_Mo_findReached_108 rfl ?_
                                    refine V_iload C d_Mo_findReached_109 rfl ?_
                                    refine V_iload C d_Mo_findReached_111 rfl ?_
                                    refine V_callV (as := [_, _]) C d_Mo_findReached_113 (k_isWorked hM K (t := mn ι 59 k9) (j := i) (by omega) (by omega) hpre.1.r) m_Mo_isWorked cf_Mo k_Mo_164 hM.al ⟨by decide, by decide⟩ (Nat.le_of_ble_eq_true rfl) ⟨by decide, by decide⟩ rfl ?_
                                    rintro _ _ _ _ _ ⟨rfl, rfl, rfl, rfl, rfl⟩
                                    dsimp only [Option.toList, List.cons_append, List.nil_append]
                                    refine V_if_eq (tgt := 136) C d_Mo_findReached_116 (by decide) (fun h116 => ?_) (fun h116 => ?_)
                                    · have hst : PI ι c9 en (if me ι c9 en < 0 then tlL L 2 (-1) en else L) L1 (sqP ι 16 52 k9 (i + 1)) mo L2 := by rw [sqP_s]; exact hpre.sk h116
                                      refine V_iinc (v := nI (i + 1)) (lv' := [(6, _), (5, _), (4, _), (3, _), (2, _), (0, _), (1, _)]) C d_Mo_findReached_136 rfl (nI_1 _) (by decide) rfl ?_
                                      refine V_goto (tgt := 96) C d_Mo_findReached_139 (by decide) ?_
                                      refine V_pick [0, 1, 2, 3, 4, 5, 6] rfl ?_
                                      exact ih2 (i + 1) _ _ (by omega) (by omega) hst
                                    · refine V_aload_n C d_Mo_findReached_119 rfl ?_
                                      refine V_aload_n C d_Mo_findReached_120 rfl ?_
                                      refine V_iload C d_Mo_findReached_121 rfl ?_
                                      refine V_iload C d_Mo_findReached_123 rfl ?_
                                      refine V_callV (as := [_, _]) C d_Mo_findReached_125 (k_meaningOf hM K (t := mn ι 59 k9) (j := i) (by omega) (by omega)) m_Mo_meaningOf cf_Mo k_Mo_167 hM.al ⟨by decide, by decide⟩ (Nat.le_of_ble_eq_true rfl) ⟨by decide, by decide⟩ rfl ?_
                                      rintro _ _ _ _ _ ⟨rfl, rfl, rfl, rfl, rfl⟩
                                      dsimp only [Option.toList, List.cons_append, List.nil_append]
                                      refine V_callV (as := [_]) C d_Mo_findReached_128 (k_reach hM K (by rcases K.me (nuR ι (16 * mn ι 59 k9 + i)) with h | ⟨i9, h1, -, h2, -⟩; exact Or.inl h; exact Or.inr ⟨i9, h1, h2⟩)) m_Mo_reach cf_Mo k_Mo_161 hM.al ⟨by decide, by decide⟩ (Nat.le_of_ble_eq_true rfl) ⟨by decide, by decide⟩ rfl ?_
                                      rintro _ _ _ _ _ ⟨rfl, rfl, rfl, rfl, rfl⟩
                                      dsimp only [Option.toList, List.cons_append, List.nil_append]
                                      refine V_if_eq (tgt := 136) C d_Mo_findReached_131 (by decide) (fun h131 => ?_) (fun h131 => ?_)
                                      · have hst : PI ι c9 en (if me ι c9 en < 0 then tlL L 2 (-1) en else L) L1 (sqP ι 16 52 k9 (i + 1)) mo (rcL ι L2 (meR ι c9 (16 * mn ι 59 k9 + i))) := by rw [sqP_s]; exact hpre.old K h131
                                        refine V_iinc (v := nI (i + 1)) (lv' := [(6, _), (5, _), (4, _), (3, _), (2, _), (0, _), (1, _)]) C d_Mo_findReached_136 rfl (nI_1 _) (by decide) rfl ?_
                                        refine V_goto (tgt := 96) C d_Mo_findReached_139 (by decide) ?_
                                        refine V_pick [0, 1, 2, 3, 4, 5, 6] rfl ?_
                                        exact ih2 (i + 1) _ _ (by omega) (by omega) hst
                                      · have hst : PI ι c9 en (if me ι c9 en < 0 then tlL L 2 (-1) en else L) L1 (sqP ι 16 52 k9 (i + 1)) 1 (rcL ι L2 (meR ι c9 (16 * mn ι 59 k9 + i))) := by rw [sqP_s]; exact hpre.new K h116 hjm hj1 h131
                                        refine V_iconst (v := 1) C d_Mo_findReached_134 (by decide) ?_
                                        refine V_istore_n (lv' := [(3, _), (6, _), (5, _), (4, _), (2, _), (0, _), (1, _)]) C d_Mo_findReached_135 (by decide) rfl ?_
                                        refine V_iinc (v := nI (i + 1)) (lv' := [(6, _), (3, _), (5, _), (4, _), (2, _), (0, _), (1, _)]) C d_Mo_findReached_136 rfl (nI_1 _) (by decide) rfl ?_
                                        refine V_goto (tgt := 96) C d_Mo_findReached_139 (by decide) ?_
                                        refine V_pick [0, 2, 3, 1, 4, 5, 6] rfl ?_
                                        exact ih2 (i + 1) _ _ (by omega) (by omega) hst
                    refine V_aload_n C d_Mo_findReached_84 rfl ?_
                    refine V_getR (kx := 19) C d_Mo_findReached_85 cf_Mo (by decide) k_Mo_58 hM.al rfl hM.r19 ?_
                    refine V_iload C d_Mo_findReached_88 rfl ?_
                    refine V_iald C d_Mo_findReached_90 (by decide) rfl hM.n19 rfl (by omega) rfl ?_
                    refine V_eqi (y := nI (mn ι 59 k9)) (K.b59.eq (t := k9) (by omega)) ?_
                    refine V_istore (lv' := [(5, _), (4, _), (3, _), (2, _), (0, _), (1, _)]) C d_Mo_findReached_91 (by decide) rfl ?_
                    refine V_iconst (v := 0) C d_Mo_findReached_93 (by decide) ?_
                    refine V_istore (lv' := [(6, _), (5, _), (4, _), (3, _), (2, _), (0, _), (1, _)]) C d_Mo_findReached_94 (by decide) rfl ?_
                    refine V_pick [0, 1, 2, 3, 4, 5, 6] rfl ?_
                    exact inner (mn ι 52 (mn ι 59 k9) + 1) 0 _ _ (by omega) (by omega) (by rw [sqP_0]; exact hpre0)
        refine V_pick [0, 1, 2, 3, 4] rfl ?_
        exact pass (c9 + 1) 0 0 L1 (by omega) (by omega) (PI.z hwi)
  have srch : V p l e { frames := 3, cells := 0, slots := 0, locals := 70 } s m args below meth c D B α0 ν 7 Q 0 0 ν (setL ι (z0L L)) ρ ℓ 43 [(2, sI (nI 144)), (0, sR 10 0 0), (1, sI en)] [] := by
    refine V_aload_n C d_Mo_findReached_43 rfl ?_
    refine V_iload_n C d_Mo_findReached_44 rfl ?_
    refine V_callV (as := [_]) C d_Mo_findReached_45 (k_meaning hM K) m_Mo_meaning cf_Mo k_Mo_151 hM.al ⟨by decide, by decide⟩ (Nat.le_of_ble_eq_true rfl) ⟨by decide, by decide⟩ rfl ?_
    rintro _ _ _ _ _ ⟨rfl, rfl, rfl, rfl, rfl⟩
    dsimp only [Option.toList, List.cons_append, List.nil_append]
    refine V_istore_n (lv' := [(2, _), (0, _), (1, _)]) C d_Mo_findReached_48 (by decide) rfl ?_
    refine V_iload_n C d_Mo_findReached_49 rfl ?_
    refine V_if_ge (tgt := 60) C d_Mo_findReached_50 (by decide) (fun h50 => ?_) (fun h50 => ?_)
    · have hL : (if me ι c9 en < 0 then tlL L 2 (-1) en else L) = L := if_neg (Int32.not_lt.mpr h50)
      refine V_aload_n C d_Mo_findReached_60 rfl ?_
      refine V_iload_n C d_Mo_findReached_61 rfl ?_
      refine V_callV (as := [_]) C d_Mo_findReached_62 (k_reach hM K (by rcases K.me en with h | ⟨i9, h1, -, h2, -⟩; exact Or.inl h; exact Or.inr ⟨i9, h1, h2⟩)) m_Mo_reach cf_Mo k_Mo_161 hM.al ⟨by decide, by decide⟩ (Nat.le_of_ble_eq_true rfl) ⟨by decide, by decide⟩ rfl ?_
      rintro _ _ _ _ _ ⟨rfl, rfl, rfl, rfl, rfl⟩
      dsimp only [Option.toList, List.cons_append, List.nil_append]
      refine V_istore_n (lv' := [(3, _), (2, _), (0, _), (1, _)]) C d_Mo_findReached_65 (by decide) rfl ?_
      refine V_pick [0, 1, 2, 3] rfl ?_
      first | (rw [← z0_tl]; exact wh _ _ _ _ (Nat.lt_succ_self _) (by rw [hL]; exact WI.en K)) | exact wh _ _ _ _ (Nat.lt_succ_self _) (by rw [hL]; exact WI.en K)
    · have hL : (if me ι c9 en < 0 then tlL L 2 (-1) en else L) = tlL L 2 (-1) en := if_pos (lt_of_nle h50)
      refine V_aload_n C d_Mo_findReached_53 rfl ?_
      refine V_iconst (v := 2) C d_Mo_findReached_54 (by decide) ?_
      refine V_iconst (v := (-1)) C d_Mo_findReached_55 (by decide) ?_
      refine V_iload_n C d_Mo_findReached_56 rfl ?_
      refine V_callV (as := [_, _, _]) C d_Mo_findReached_57 (k_tell hM K) m_Mo_tell cf_Mo k_Mo_157 hM.al ⟨by decide, by decide⟩ (Nat.le_of_ble_eq_true rfl) ⟨by decide, by decide⟩ rfl ?_
      rintro _ _ _ _ _ ⟨rfl, rfl, rfl, rfl, rfl⟩
      dsimp only [Option.toList, List.cons_append, List.nil_append]
      refine V_aload_n C d_Mo_findReached_60 rfl ?_
      refine V_iload_n C d_Mo_findReached_61 rfl ?_
      refine V_callV (as := [_]) C d_Mo_findReached_62 (k_reach hM K (by rcases K.me en with h | ⟨i9, h1, -, h2, -⟩; exact Or.inl h; exact Or.inr ⟨i9, h1, h2⟩)) m_Mo_reach cf_Mo k_Mo_161 hM.al ⟨by decide, by decide⟩ (Nat.le_of_ble_eq_true rfl) ⟨by decide, by decide⟩ rfl ?_
      rintro _ _ _ _ _ ⟨rfl, rfl, rfl, rfl, rfl⟩
      dsimp only [Option.toList, List.cons_append, List.nil_append]
      refine V_istore_n (lv' := [(3, _), (2, _), (0, _), (1, _)]) C d_Mo_findReached_65 (by decide) rfl ?_
      refine V_pick [0, 1, 2, 3] rfl ?_
      first | (rw [← z0_tl]; exact wh _ _ _ _ (Nat.lt_succ_self _) (by rw [hL]; exact WI.en K)) | exact wh _ _ _ _ (Nat.lt_succ_self _) (by rw [hL]; exact WI.en K)
  have lB : ∀ (f : Nat) (i : Nat), 144 - i < f → (i ≤ 144) → V p l e { frames := 3, cells := 0, slots := 0, locals := 70 } s m args below meth c D B α0 ν 7 Q 0 0 ν (setL ι (flL (flL L 61 96 0) 62 i 0)) ρ ℓ 23 [(2, sI (nI i)), (0, sR 10 0 0), (1, sI en)] [] := by
    intro f
    induction f with
    | zero => intros; omega
    | succ f ih =>
      intro i hf hi0
      refine V_iload_n C d_Mo_findReached_23 rfl ?_
      refine V_sipush (v := 144) C d_Mo_findReached_24 (by decide) ?_
      refine V_icmp_ge (tgt := 43) C d_Mo_findReached_27 (by decide) (fun h27 => ?_) (fun h27 => ?_)
      · have hi : i = 144 := by have := (nI_leI (a := 144) (b := i) (by decide) (by omega)).mp h27; omega
        subst hi
        refine V_pick [0, 1, 2] rfl ?_
        exact srch
      · have hi : i < 144 := Nat.lt_of_not_le fun z => h27 ((nI_leI (a := 144) (b := i) (by decide) (by omega)).mpr z)
        refine V_aload_n C d_Mo_findReached_30 rfl ?_
        refine V_getR (kx := 22) C d_Mo_findReached_31 cf_Mo (by decide) k_Mo_65 hM.al rfl hM.r22 ?_
        refine V_iload_n C d_Mo_findReached_34 rfl ?_
        refine V_iconst (v := 0) C d_Mo_findReached_35 (by decide) ?_
        refine V_zast C d_Mo_findReached_36 (by decide) rfl hM.n22 rfl hi rfl rfl ?_
        refine V_iinc (v := nI (i + 1)) (lv' := [(2, _), (0, _), (1, _)]) C d_Mo_findReached_37 rfl (nI_1 i) (by decide) rfl ?_
        refine V_goto (tgt := 23) C d_Mo_findReached_40 (by decide) ?_
        refine V_pick [0, 1, 2] rfl ?_
        refine V_io (show up4 (setL ι (flL (flL L 61 96 0) 62 i 0)) 62 0 0 i 0 = setL ι (flL (flL L 61 96 0) 62 (i + 1) 0) by rw [setL_up rfl, flL_s]) ?_
        exact ih (i + 1) (by omega) (by omega)
  have lA : ∀ (f : Nat) (i : Nat), 96 - i < f → (i ≤ 96) → V p l e { frames := 3, cells := 0, slots := 0, locals := 70 } s m args below meth c D B α0 ν 7 Q 0 0 ν (setL ι (flL L 61 i 0)) ρ ℓ 2 [(2, sI (nI i)), (0, sR 10 0 0), (1, sI en)] [] := by
    intro f
    induction f with
    | zero => intros; omega
    | succ f ih =>
      intro i hf hi0
      refine V_iload_n C d_Mo_findReached_2 rfl ?_
      refine V_bipush (v := 96) C d_Mo_findReached_3 (by decide) ?_
      refine V_icmp_ge (tgt := 21) C d_Mo_findReached_5 (by decide) (fun h5 => ?_) (fun h5 => ?_)
      · have hi : i = 96 := by have := (nI_leI (a := 96) (b := i) (by decide) (by omega)).mp h5; omega
        subst hi
        refine V_iconst (v := 0) C d_Mo_findReached_21 (by decide) ?_
        refine V_istore_n (lv' := [(2, _), (0, _), (1, _)]) C d_Mo_findReached_22 (by decide) rfl ?_
        refine V_pick [0, 1, 2] rfl ?_
        refine V_io (congrArg (setL ι) (flL_0 (L := flL L 61 96 0) (r := 62) (x := 0)).symm) ?_
        exact lB 145 0 (by omega) (by omega)
      · have hi : i < 96 := Nat.lt_of_not_le fun z => h5 ((nI_leI (a := 96) (b := i) (by decide) (by omega)).mpr z)
        refine V_aload_n C d_Mo_findReached_8 rfl ?_
        refine V_getR (kx := 21) C d_Mo_findReached_9 cf_Mo (by decide) k_Mo_61 hM.al rfl hM.r21 ?_
        refine V_iload_n C d_Mo_findReached_12 rfl ?_
        refine V_iconst (v := 0) C d_Mo_findReached_13 (by decide) ?_
        refine V_zast C d_Mo_findReached_14 (by decide) rfl hM.n21 rfl hi rfl rfl ?_
        refine V_iinc (v := nI (i + 1)) (lv' := [(2, _), (0, _), (1, _)]) C d_Mo_findReached_15 rfl (nI_1 i) (by decide) rfl ?_
        refine V_goto (tgt := 2) C d_Mo_findReached_18 (by decide) ?_
        refine V_pick [0, 1, 2] rfl ?_
        refine V_io (show up4 (setL ι (flL L 61 i 0)) 61 0 0 i 0 = setL ι (flL L 61 (i + 1) 0) by rw [setL_up rfl, flL_s]) ?_
        exact ih (i + 1) (by omega) (by omega)
  refine V_iconst (v := 0) C d_Mo_findReached_0 (by decide) ?_
  refine V_istore_n (lv' := [(2, _), (0, _), (1, _)]) C d_Mo_findReached_1 (by decide) rfl ?_
  refine V_pick [0, 1, 2] rfl ?_
  refine V_io (congrArg (setL ι) (flL_0 (L := L) (r := 61) (x := 0)).symm) ?_
  exact lA 97 0 (by omega) (by omega)
