/-! the names of a list of names: what the class's table says of them -/
def fs (ι : Io) (l : List Nat) (x k : Int32) : Option Nat := l.find? (foB ι x k)
def srt (ι : Io) (l : List Nat) (x : Int32) : Int32 := if (fs ι l x 0).isSome then 0 else if (fs ι l x 2).isSome then 2 else if (fs ι l x 1).isSome then 1 else 3
def ixm (ι : Io) (l : List Nat) (x : Int32) : Option Nat := (fs ι l x 0).or ((fs ι l x 2).or (fs ι l x 1))
def grl (ι : Io) (l : List Nat) (x : Int32) (r : Nat) : Int32 := l.foldl (grS ι x r) 0
theorem fs_s {ι : Io} {l : List Nat} {x k : Int32} {i : Nat} : fs ι (l ++ [i]) x k = (fs ι l x k).or (if ι 48 0 0 i = x ∧ ι 49 0 0 i = k then some i else none) := by
  unfold fs
  rw [List.find?_append]
  congr 1
  by_cases h : ι 48 0 0 i = x ∧ ι 49 0 0 i = k
  · rw [if_pos h, List.find?_cons, foB_t h.1 h.2]
  · rw [if_neg h]
    have : foB ι x k i = false := by
      by_cases h1 : ι 48 0 0 i = x
      · exact foB_f2 (fun z => h ⟨h1, z⟩)
      · exact foB_f1 h1
    rw [List.find?_cons, this]
    rfl
theorem fs_o {ι : Io} {l : List Nat} {x k : Int32} {i : Nat} (h : ¬ (ι 48 0 0 i = x ∧ ι 49 0 0 i = k)) : fs ι (l ++ [i]) x k = fs ι l x k := by
  rw [fs_s, if_neg h, Option.or_none]
theorem srt_o {ι : Io} {l : List Nat} {x : Int32} {i : Nat} (h : ¬ ι 48 0 0 i = x) : srt ι (l ++ [i]) x = srt ι l x := by
  unfold srt
  rw [fs_o (fun z => h z.1), fs_o (fun z => h z.1), fs_o (fun z => h z.1)]
theorem ixm_o {ι : Io} {l : List Nat} {x : Int32} {i : Nat} (h : ¬ ι 48 0 0 i = x) : ixm ι (l ++ [i]) x = ixm ι l x := by
  unfold ixm
  rw [fs_o (fun z => h z.1), fs_o (fun z => h z.1), fs_o (fun z => h z.1)]
theorem grl_s {ι : Io} {l : List Nat} {x : Int32} {r i : Nat} : grl ι (l ++ [i]) x r = grS ι x r (grl ι l x r) i := fold_s
theorem grl_o {ι : Io} {l : List Nat} {x : Int32} {r i : Nat} (h : ¬ (ι 49 0 0 i = 2 ∧ ι 48 0 0 i = x)) : grl ι (l ++ [i]) x r = grl ι l x r := by
  rw [grl_s]
  unfold grS
  exact if_neg (fun z => h ⟨z.1, z.2.1⟩)
theorem fs_n {ι : Io} {l : List Nat} {x k : Int32} (h : ∀ i ∈ l, ¬ ι 48 0 0 i = x) : fs ι l x k = none := find_miss (fun z hz => foB_f1 (h z hz))
theorem srt_n {ι : Io} {l : List Nat} {x : Int32} (h : ∀ i ∈ l, ¬ ι 48 0 0 i = x) : srt ι l x = 3 := by
  unfold srt
  rw [fs_n h, fs_n h, fs_n h]
  rfl
theorem ixm_n {ι : Io} {l : List Nat} {x : Int32} (h : ∀ i ∈ l, ¬ ι 48 0 0 i = x) : ixm ι l x = none := by
  unfold ixm
  rw [fs_n h, fs_n h, fs_n h]
  rfl
theorem grl_n {ι : Io} {r : Nat} {x : Int32} : ∀ {l : List Nat}, (∀ i ∈ l, ¬ ι 48 0 0 i = x) → grl ι l x r = 0 := by
  intro l h
  unfold grl
  have : ∀ (l : List Nat) (a : Int32), (∀ i ∈ l, ¬ ι 48 0 0 i = x) → l.foldl (grS ι x r) a = a := by
    intro l
    induction l with
    | nil => intro a _; rfl
    | cons i l ih =>
      intro a h
      rw [List.foldl_cons]
      have : grS ι x r a i = a := by
        unfold grS
        exact if_neg (fun z => h i List.mem_cons_self z.2.1)
      rw [this]
      exact ih a (fun z hz => h z (List.mem_cons_of_mem _ hz))
  exact this l 0 h
theorem fs_some {ι : Io} {l : List Nat} {x k : Int32} {i : Nat} (h : fs ι l x k = some i) : i ∈ l ∧ ι 48 0 0 i = x ∧ ι 49 0 0 i = k := by
  have h1 := List.find?_some h
  unfold foB at h1
  simp at h1
  exact ⟨List.mem_of_find?_eq_some h, h1.1, h1.2⟩
theorem ixm_k {ι : Io} {l : List Nat} {x : Int32} {i : Nat} (h : ixm ι l x = some i) : i ∈ l ∧ ι 48 0 0 i = x ∧ ι 49 0 0 i = srt ι l x := by
  unfold ixm at h
  unfold srt
  cases h0 : fs ι l x 0 with
  | some a =>
    rw [h0] at h
    simp at h
    subst h
    obtain ⟨p, q, r⟩ := fs_some h0
    exact ⟨p, q, r⟩
  | none =>
    rw [h0] at h
    cases h2 : fs ι l x 2 with
    | some a =>
      rw [h2] at h
      simp at h
      subst h
      obtain ⟨p, q, r⟩ := fs_some h2
      exact ⟨p, q, r⟩
    | none =>
      rw [h2] at h
      cases h1 : fs ι l x 1 with
      | some a =>
        rw [h1] at h
        simp at h
        subst h
        obtain ⟨p, q, r⟩ := fs_some h1
        exact ⟨p, q, r⟩
      | none =>
        rw [h1] at h
        simp at h
theorem ixm_3 {ι : Io} {l : List Nat} {x : Int32} : ixm ι l x = none ↔ srt ι l x = 3 := by
  unfold ixm srt
  cases fs ι l x 0 <;> cases fs ι l x 2 <;> cases fs ι l x 1 <;> simp <;> decide
theorem srt_4 {ι : Io} {l : List Nat} {x : Int32} : srt ι l x = 0 ∨ srt ι l x = 1 ∨ srt ι l x = 2 ∨ srt ι l x = 3 := by
  unfold srt
  split
  · exact Or.inl rfl
  · split
    · exact Or.inr (Or.inr (Or.inl rfl))
    · split
      · exact Or.inr (Or.inl rfl)
      · exact Or.inr (Or.inr (Or.inr rfl))
/-! one name more -/
theorem st0 {ι : Io} {l : List Nat} {x : Int32} {i : Nat} (hx : ι 48 0 0 i = x) (hk : ι 49 0 0 i = 0) (hn : srt ι l x ≠ 0) : srt ι (l ++ [i]) x = 0 ∧ ixm ι (l ++ [i]) x = some i := by
  have h0 : fs ι l x 0 = none := by
    cases h : fs ι l x 0 with
    | none => rfl
    | some a => exact absurd (by unfold srt; rw [h]; rfl) hn
  have h1 : fs ι (l ++ [i]) x 0 = some i := by rw [fs_s, h0, if_pos ⟨hx, hk⟩]; rfl
  unfold srt ixm
  rw [h1]
  exact ⟨rfl, rfl⟩
theorem st1 {ι : Io} {l : List Nat} {x : Int32} {i : Nat} (hx : ι 48 0 0 i = x) (hk : ι 49 0 0 i = 1) : (srt ι l x = 3 → srt ι (l ++ [i]) x = 1 ∧ ixm ι (l ++ [i]) x = some i) ∧ (srt ι l x ≠ 3 → srt ι (l ++ [i]) x = srt ι l x ∧ ixm ι (l ++ [i]) x = ixm ι l x) := by
  have h0 : fs ι (l ++ [i]) x 0 = fs ι l x 0 := fs_o (by rw [hk]; intro z; exact absurd z.2 (by decide))
  have h2 : fs ι (l ++ [i]) x 2 = fs ι l x 2 := fs_o (by rw [hk]; intro z; exact absurd z.2 (by decide))
  have h1 : fs ι (l ++ [i]) x 1 = (fs ι l x 1).or (some i) := by rw [fs_s, if_pos ⟨hx, hk⟩]
  unfold srt ixm
  rw [h0, h1, h2]
  cases fs ι l x 0 <;> cases fs ι l x 2 <;> cases fs ι l x 1 <;> simp <;> decide
theorem st2 {ι : Io} {l : List Nat} {x : Int32} {i : Nat} (hx : ι 48 0 0 i = x) (hk : ι 49 0 0 i = 2) : (srt ι l x = 0 → srt ι (l ++ [i]) x = 0 ∧ ixm ι (l ++ [i]) x = ixm ι l x) ∧ (srt ι l x ≠ 0 → srt ι (l ++ [i]) x = 2) ∧ (srt ι l x = 2 → ixm ι (l ++ [i]) x = ixm ι l x) := by
  have h0 : fs ι (l ++ [i]) x 0 = fs ι l x 0 := fs_o (by rw [hk]; intro z; exact absurd z.2 (by decide))
  have h1 : fs ι (l ++ [i]) x 1 = fs ι l x 1 := fs_o (by rw [hk]; intro z; exact absurd z.2 (by decide))
  have h2 : fs ι (l ++ [i]) x 2 = (fs ι l x 2).or (some i) := by rw [fs_s, if_pos ⟨hx, hk⟩]
  unfold srt ixm
  rw [h0, h1, h2]
  cases fs ι l x 0 <;> cases fs ι l x 2 <;> cases fs ι l x 1 <;> simp <;> decide
theorem st3 {ι : Io} {l : List Nat} {x : Int32} {i : Nat} (hk : ι 49 0 0 i ≠ 0 ∧ ι 49 0 0 i ≠ 1 ∧ ι 49 0 0 i ≠ 2) : srt ι (l ++ [i]) x = srt ι l x ∧ ixm ι (l ++ [i]) x = ixm ι l x := by
  have h0 : fs ι (l ++ [i]) x 0 = fs ι l x 0 := fs_o (fun z => hk.1 z.2)
  have h1 : fs ι (l ++ [i]) x 1 = fs ι l x 1 := fs_o (fun z => hk.2.1 z.2)
  have h2 : fs ι (l ++ [i]) x 2 = fs ι l x 2 := fs_o (fun z => hk.2.2 z.2)
  unfold srt ixm
  rw [h0, h1, h2]
  exact ⟨rfl, rfl⟩
def appB (M : Io) (l : List Nat) (i : Nat) : Bool := M 49 0 0 i == 2 && srt M l (M 48 0 0 i) != 0 && srt M l (M 48 0 0 i) != 2
def cmP (M : Io) (l : List Nat) : List Nat × List Nat := l.foldl (fun (a : List Nat × List Nat) i => (a.1 ++ [i], a.2 ++ (if appB M a.1 i then [i] else []))) ([], [])
/-- the names at which a common came first -/
def cmL (M : Io) (l : List Nat) : List Nat := (cmP M l).2
theorem cmP_s {M : Io} {l : List Nat} {i : Nat} : cmP M (l ++ [i]) = ((cmP M l).1 ++ [i], (cmP M l).2 ++ (if appB M (cmP M l).1 i then [i] else [])) := by
  unfold cmP
  rw [List.foldl_append]
  rfl
theorem cmP_1 {M : Io} (l : List Nat) : (cmP M l).1 = l := by
  have : ∀ n (l : List Nat), l.length = n → (cmP M l).1 = l := by
    intro n
    induction n with
    | zero =>
      intro l h
      rw [List.length_eq_zero_iff.mp h]
      rfl
    | succ n ih =>
      intro l h
      have hne : l ≠ [] := by intro z; rw [z] at h; cases h
      rw [← List.dropLast_concat_getLast hne, cmP_s, ih l.dropLast (by simp [h])]
  exact this _ l rfl
theorem cmL_s {M : Io} {l : List Nat} {i : Nat} : cmL M (l ++ [i]) = cmL M l ++ (if appB M l i then [i] else []) := by
  unfold cmL
  rw [cmP_s, cmP_1]
theorem cmL_0 {M : Io} : cmL M [] = [] := rfl
theorem cmL_sub {M : Io} (l : List Nat) : (∀ i ∈ cmL M l, i ∈ l) ∧ (cmL M l).length ≤ l.length := by
  have : ∀ n (l : List Nat), l.length = n → (∀ i ∈ cmL M l, i ∈ l) ∧ (cmL M l).length ≤ l.length := by
    intro n
    induction n with
    | zero =>
      intro l h
      rw [List.length_eq_zero_iff.mp h]
      exact ⟨fun i hi => (by cases hi), Nat.le_refl _⟩
    | succ n ih =>
      intro l h
      have hne : l ≠ [] := by intro z; rw [z] at h; cases h
      have hd : l.dropLast.length = n := by simp [h]
      obtain ⟨h1, h2⟩ := ih l.dropLast hd
      have e := List.dropLast_concat_getLast hne
      rw [← e, cmL_s]
      refine ⟨fun i hi => ?_, ?_⟩
      · rcases List.mem_append.mp hi with hi | hi
        · exact List.mem_append_left _ (h1 i hi)
        · refine List.mem_append_right _ ?_
          split at hi
          · exact hi
          · cases hi
      · simp only [List.length_append, List.length_cons, List.length_nil]
        split
        · simp only [List.length_cons, List.length_nil]; omega
        · simp only [List.length_nil]; omega
  exact this _ l rfl
def MG (M ι : Io) (l : List Nat) (k : Nat) : Prop := ι 1 k 0 1 = srt M l (ι 1 k 0 0) ∧ (∀ i, ixm M l (ι 1 k 0 0) = some i → M 49 0 0 i ≠ 2 → ι 1 k 0 2 = nI (rcI M i) ∧ ι 1 k 0 3 = M 51 0 0 i) ∧ (srt M l (ι 1 k 0 0) ≠ 0 → ι 1 k 0 4 = grl M l (ι 1 k 0 0) 50 ∧ ι 1 k 0 5 = grl M l (ι 1 k 0 0) 51) ∧ ι 1 k 0 6 = 0 ∧ ι 1 k 0 7 = -1
/-- the class's table behind the names l; kx: where a name's number lies -/
def TB (M ι : Io) (ρ : Ro) (l : List Nat) (z : Nat) (kx : Nat → Nat) : Prop := ι 3 0 0 1 = nI z ∧ z ≤ l.length ∧ (∀ i ∈ l, kx i < z ∧ ι 1 (kx i) 0 0 = M 48 0 0 i ∧ ρ 33 0 0 i = some (1, kx i, 0)) ∧ (∀ k, k < z → ∃ i ∈ l, M 48 0 0 i = ι 1 k 0 0) ∧ (∀ k k', k < z → k' < z → ι 1 k 0 0 = ι 1 k' 0 0 → k = k') ∧ (∀ k, k < z → MG M ι l k) ∧ (ι 3 0 0 4 = nI (cmL M l).length ∧ ∀ t (h : t < (cmL M l).length), ρ 34 0 0 t = some (1, kx (cmL M l)[t], 0))
/-- the same, with the number x at k, which no name may have yet -/
def TBi (M ι : Io) (ρ : Ro) (l : List Nat) (z : Nat) (kx : Nat → Nat) (x : Int32) (k : Nat) : Prop := ι 3 0 0 1 = nI z ∧ z ≤ l.length + 1 ∧ k < z ∧ ι 1 k 0 0 = x ∧ (∀ i ∈ l, kx i < z ∧ ι 1 (kx i) 0 0 = M 48 0 0 i ∧ ρ 33 0 0 i = some (1, kx i, 0)) ∧ (∀ k', k' < z → k' ≠ k → ∃ i ∈ l, M 48 0 0 i = ι 1 k' 0 0) ∧ (∀ k k', k < z → k' < z → ι 1 k 0 0 = ι 1 k' 0 0 → k = k') ∧ (∀ k, k < z → MG M ι l k) ∧ (ι 3 0 0 4 = nI (cmL M l).length ∧ ∀ t (h : t < (cmL M l).length), ρ 34 0 0 t = some (1, kx (cmL M l)[t], 0))
theorem TB.find {M ι : Io} {ρ : Ro} {l : List Nat} {z k : Nat} {kx : Nat → Nat} (h : TB M ι ρ l z kx) (hk : k < z) : TBi M ι ρ l z kx (ι 1 k 0 0) k := by
  obtain ⟨h1, h2, h3, h4, h5, h6, h7⟩ := h
  exact ⟨h1, by omega, hk, rfl, h3, fun k' hk' _ => h4 k' hk', h5, h6, h7⟩
abbrev begI (ι : Io) (z : Nat) (x : Int32) : Io := up4 (up4 (up4 (up4 (up4 (up4 (up4 ι 3 0 0 1 (nI (z + 1))) 1 z 0 0 x) 1 z 0 1 3) 1 z 0 4 0) 1 z 0 5 0) 1 z 0 6 0) 1 z 0 7 (-1)
theorem MG.cg {M ι ι' : Io} {l : List Nat} {k : Nat} (h : MG M ι l k) (e : ∀ f, ι' 1 k 0 f = ι 1 k 0 f) : MG M ι' l k := by
  unfold MG at *
  simp only [e]
  exact h
theorem TB.beg {M ι : Io} {ρ : Ro} {l : List Nat} {z : Nat} {kx : Nat → Nat} {x : Int32} (h : TB M ι ρ l z kx) (hx : ∀ k, k < z → ¬ ι 1 k 0 0 = x) : TBi M (begI ι z x) ρ l (z + 1) kx x z := by
  obtain ⟨h1, h2, h3, h4, h5, h6, h7⟩ := h
  have e : ∀ k f, k ≠ z → begI ι z x 1 k 0 f = ι 1 k 0 f := fun k f hk => by
    unfold begI
    rw [up4_ne (by omega), up4_ne (by omega), up4_ne (by omega), up4_ne (by omega), up4_ne (by omega), up4_ne (by omega), up4_ne (by omega)]
  have e0 : begI ι z x 1 z 0 0 = x := by simp (disch := omega) only [begI, up4_ne, up4_s]
  have hl : ∀ i ∈ l, ¬ M 48 0 0 i = x := fun i hi z9 => by
    obtain ⟨a, b, _⟩ := h3 i hi
    exact hx _ a (b.trans z9)
  refine ⟨?_, by omega, by omega, e0, fun i hi => ?_, fun k hk hkz => ?_, fun k k' hk hk' he => ?_, fun k hk => ?_, h7⟩
  · simp (disch := omega) only [begI, up4_ne, up4_s]
  · obtain ⟨a, b, c⟩ := h3 i hi
    exact ⟨by omega, by rw [e _ _ (by omega)]; exact b, c⟩
  · rw [e _ _ hkz]
    exact h4 k (by omega)
  · by_cases q : k = z <;> by_cases q' : k' = z
    · omega
    · rw [q, e0, e _ _ q'] at he
      exact absurd he.symm (hx k' (by omega))
    · rw [q', e0, e _ _ q] at he
      exact absurd he (hx k (by omega))
    · rw [e _ _ q, e _ _ q'] at he
      exact h5 k k' (by omega) (by omega) he
  · by_cases q : k = z
    · subst q
      unfold MG
      rw [e0, srt_n hl, ixm_n hl, grl_n hl, grl_n hl]
      refine ⟨?_, fun i hi => (by cases hi), fun _ => ⟨?_, ?_⟩, ?_, ?_⟩ <;> simp (disch := omega) only [begI, up4_ne, up4_s]
    · exact (h6 k (by omega)).cg (fun f => e k f q)
theorem TBi.fin {M ι ι' : Io} {ρ ρ' : Ro} {l : List Nat} {z k i : Nat} {kx : Nat → Nat} (h : TBi M ι ρ l z kx (M 48 0 0 i) k) (hi : i ∉ l) (hf : ∀ k' f, k' ≠ k → ι' 1 k' 0 f = ι 1 k' 0 f) (hf0 : ι' 1 k 0 0 = ι 1 k 0 0) (hz : ι' 3 0 0 1 = ι 3 0 0 1) (hm : MG M ι' (l ++ [i]) k) (hr : ∀ j, j ≠ i → ρ' 33 0 0 j = ρ 33 0 0 j) (hri : ρ' 33 0 0 i = some (1, k, 0)) (hc : ι' 3 0 0 4 = nI (cmL M (l ++ [i])).length) (hcr : ∀ t, t < (cmL M l).length → ρ' 34 0 0 t = ρ 34 0 0 t) (hcn : appB M l i = true → ρ' 34 0 0 (cmL M l).length = some (1, k, 0)) : TB M ι' ρ' (l ++ [i]) z (fun j => if j = i then k else kx j) := by
  obtain ⟨h1, h2, hk, hx, h3, h4, h5, h6, h7⟩ := h
  have hn : ∀ k', ι' 1 k' 0 0 = ι 1 k' 0 0 := fun k' => by
    by_cases q : k' = k
    · rw [q]; exact hf0
    · exact hf k' 0 q
  refine ⟨hz.trans h1, by simp only [List.length_append, List.length_cons, List.length_nil]; omega, fun j hj => ?_, fun k' hk' => ?_, fun a b ha hb he => ?_, fun k' hk' => ?_, hc, fun t ht => ?_⟩
  · by_cases q : j = i
    · subst q
      dsimp only
      rw [if_pos rfl, hn]
      exact ⟨hk, hx, hri⟩
    · dsimp only
      rw [if_neg q, hn, hr j q]
      rcases List.mem_append.mp hj with hj | hj
      · exact h3 j hj
      · exact absurd (List.mem_singleton.mp hj) q
  · rw [hn]
    by_cases q : k' = k
    · exact ⟨i, List.mem_append_right _ List.mem_cons_self, by rw [q, hx]⟩
    · obtain ⟨j, a, b⟩ := h4 k' hk' q
      exact ⟨j, List.mem_append_left _ a, b⟩
  · rw [hn, hn] at he
    exact h5 a b ha hb he
  · by_cases q : k' = k
    · subst q; exact hm
    · have hne : ¬ M 48 0 0 i = ι' 1 k' 0 0 := fun z9 => q (h5 k' k hk' hk (by rw [hx, ← hn, z9]))
      have g := (h6 k' hk').cg (ι' := ι') (fun f => hf k' f q)
      unfold MG at g ⊢
      rw [srt_o hne, ixm_o hne, grl_o (fun z => hne z.2), grl_o (fun z => hne z.2)]
      exact g
  · have hs := (cmL_sub (M := M) l).1
    by_cases q : t < (cmL M l).length
    · have e : (cmL M (l ++ [i]))[t] = (cmL M l)[t] := by
        simp only [cmL_s]
        exact List.getElem_append_left q
      dsimp only
      rw [hcr t q, h7.2 t q, e, if_neg (fun z => hi (by rw [← z]; exact hs _ (List.getElem_mem q)))]
    · by_cases ha : appB M l i = true
      · have hl : (cmL M (l ++ [i])).length = (cmL M l).length + 1 := by rw [cmL_s, if_pos ha]; simp
        have ht2 : t = (cmL M l).length := by omega
        subst ht2
        have e : (cmL M (l ++ [i]))[(cmL M l).length] = i := by
          simp only [cmL_s, if_pos ha]
          simp
        dsimp only
        rw [e, if_pos rfl]
        exact hcn ha
      · have hl : (cmL M (l ++ [i])).length = (cmL M l).length := by rw [cmL_s, if_neg ha]; simp
        omega
abbrev mtR (ρ : Ro) (i k : Nat) : Ro := up4 ρ 33 0 0 i (some (1, k, 0))
abbrev kxU (kx : Nat → Nat) (i k : Nat) : Nat → Nat := fun j => if j = i then k else kx j
abbrev mx (x y : Int32) : Int32 := if x < y then y else x
theorem app_f {M : Io} {l : List Nat} {i : Nat} (h : M 49 0 0 i ≠ 2 ∨ srt M l (M 48 0 0 i) = 0 ∨ srt M l (M 48 0 0 i) = 2) : appB M l i = false := by
  unfold appB
  rcases h with h | h | h <;> simp [h]
theorem app_t {M : Io} {l : List Nat} {i : Nat} (h : M 49 0 0 i = 2) (h1 : srt M l (M 48 0 0 i) ≠ 0) (h2 : srt M l (M 48 0 0 i) ≠ 2) : appB M l i = true := by
  unfold appB
  simp [h, h1, h2]
theorem cm_f {M : Io} {l : List Nat} {i : Nat} (h : appB M l i = false) : (cmL M (l ++ [i])).length = (cmL M l).length := by
  rw [cmL_s, h]
  simp
theorem cm_t {M : Io} {l : List Nat} {i : Nat} (h : appB M l i = true) : (cmL M (l ++ [i])).length = (cmL M l).length + 1 := by
  rw [cmL_s, h]
  simp
theorem mt33 {ρ : Ro} {i k j : Nat} (h : j ≠ i) : mtR ρ i k 33 0 0 j = ρ 33 0 0 j := up4_ne (fun z => h z.2.2.2)
section Ts
variable {M ι : Io} {ρ : Ro} {l : List Nat} {z k i : Nat} {kx : Nat → Nat}
theorem TBi.mg (h : TBi M ι ρ l z kx (M 48 0 0 i) k) : MG M ι l k := h.2.2.2.2.2.2.2.1 k h.2.2.1
theorem TBi.nu (h : TBi M ι ρ l z kx (M 48 0 0 i) k) : ι 1 k 0 0 = M 48 0 0 i := h.2.2.2.1
theorem TBi.cc (h : TBi M ι ρ l z kx (M 48 0 0 i) k) : ι 3 0 0 4 = nI (cmL M l).length := h.2.2.2.2.2.2.2.2.1
/-- nothing of the meaning changes -/
theorem TBi.same (h : TBi M ι ρ l z kx (M 48 0 0 i) k) (hi : i ∉ l) (ha : appB M l i = false) (h1 : srt M (l ++ [i]) (M 48 0 0 i) = srt M l (M 48 0 0 i)) (h2 : ixm M (l ++ [i]) (M 48 0 0 i) = ixm M l (M 48 0 0 i)) (h3 : srt M l (M 48 0 0 i) ≠ 0 → M 49 0 0 i ≠ 2) : TB M ι (mtR ρ i k) (l ++ [i]) z (kxU kx i k) := by
  refine h.fin hi (fun _ _ _ => rfl) rfl rfl ?_ (fun j hj => mt33 hj) up4_s (by rw [cm_f ha]; exact h.cc) (fun t _ => rfl) (fun z => by rw [ha] at z; cases z)
  have g := h.mg
  unfold MG at g ⊢
  rw [h.nu] at g ⊢
  rw [h1, h2]
  refine ⟨g.1, g.2.1, fun hn => ?_, g.2.2.2⟩
  rw [grl_o (fun z => h3 hn z.1), grl_o (fun z => h3 hn z.1)]
  exact g.2.2.1 hn
theorem TBi.def (h : TBi M ι ρ l z kx (M 48 0 0 i) k) (hi : i ∉ l) {s : Int32} (hk : M 49 0 0 i = s) (hs : s = 0 ∧ ι 1 k 0 1 ≠ 0 ∨ s = 1 ∧ ι 1 k 0 1 = 3) : TB M (up4 (up4 (up4 ι 1 k 0 1 s) 1 k 0 2 (nI (rcI M i))) 1 k 0 3 (M 51 0 0 i)) (mtR ρ i k) (l ++ [i]) z (kxU kx i k) := by
  have g := h.mg
  unfold MG at g
  rw [h.nu] at g
  have hne : M 49 0 0 i ≠ 2 := by rw [hk]; rcases hs with hs | hs <;> rw [hs.1] <;> decide
  have ha : appB M l i = false := app_f (Or.inl hne)
  have key : srt M (l ++ [i]) (M 48 0 0 i) = s ∧ ixm M (l ++ [i]) (M 48 0 0 i) = some i := by
    rw [g.1] at hs
    rcases hs with ⟨h1, h2⟩ | ⟨h1, h2⟩
    · rw [h1] at hk ⊢
      exact st0 rfl hk h2
    · rw [h1] at hk ⊢
      exact (st1 rfl hk).1 h2
  refine h.fin hi (fun k' f hk' => ?_) ?_ ?_ ?_ (fun j hj => mt33 hj) up4_s ?_ (fun t _ => rfl) (fun z => by rw [ha] at z; cases z)
  · rw [up4_ne (by omega), up4_ne (by omega), up4_ne (by omega)]
  · rw [up4_ne (by omega), up4_ne (by omega), up4_ne (by omega)]
  · rw [up4_ne (by omega), up4_ne (by omega), up4_ne (by omega)]
  · have e0 : (up4 (up4 (up4 ι 1 k 0 1 s) 1 k 0 2 (nI (rcI M i))) 1 k 0 3 (M 51 0 0 i)) 1 k 0 0 = M 48 0 0 i := by
      rw [up4_ne (by omega), up4_ne (by omega), up4_ne (by omega)]; exact h.nu
    unfold MG
    rw [e0, key.1, key.2]
    refine ⟨?_, fun j hj _ => ?_, fun hn => ?_, ?_, ?_⟩
    · rw [up4_ne (by omega), up4_ne (by omega), up4_s]
    · cases hj
      rw [up4_s, up4_ne (by omega), up4_s]
      exact ⟨rfl, rfl⟩
    · rw [grl_o (fun z => hne z.1), grl_o (fun z => hne z.1), up4_ne (by omega), up4_ne (by omega), up4_ne (by omega), up4_ne (by omega), up4_ne (by omega), up4_ne (by omega)]
      refine g.2.2.1 (fun z => ?_)
      rcases hs with ⟨h1, h2⟩ | ⟨h1, h2⟩
      · exact hn h1
      · rw [g.1, z] at h2
        exact absurd h2 (by decide)
    · rw [up4_ne (by omega), up4_ne (by omega), up4_ne (by omega)]; exact g.2.2.2.1
    · rw [up4_ne (by omega), up4_ne (by omega), up4_ne (by omega)]; exact g.2.2.2.2
  · rw [up4_ne (by omega), up4_ne (by omega), up4_ne (by omega), cm_f ha]; exact h.cc
abbrev wdI (ι : Io) (k : Nat) (p q : Int32) : Io := up4 (up4 (up4 ι 1 k 0 1 2) 1 k 0 4 (mx (ι 1 k 0 4) p)) 1 k 0 5 (mx (ι 1 k 0 5) q)
theorem TBi.wid {ι' : Io} {ρ' : Ro} (h : TBi M ι ρ l z kx (M 48 0 0 i) k) (hi : i ∉ l) (hk : M 49 0 0 i = 2) (h0 : ι 1 k 0 1 ≠ 0) (hc : (ι 1 k 0 1 = 2 ∧ ι' = wdI ι k (M 50 0 0 i) (M 51 0 0 i) ∧ ρ' = mtR ρ i k) ∨ (ι 1 k 0 1 ≠ 2 ∧ ι' = wdI (up4 ι 3 0 0 4 (nI ((cmL M l).length + 1))) k (M 50 0 0 i) (M 51 0 0 i) ∧ ρ' = up4 (mtR ρ i k) 34 0 0 (cmL M l).length (some (1, k, 0)))) : TB M ι' ρ' (l ++ [i]) z (kxU kx i k) := by
  have g := h.mg
  unfold MG at g
  rw [h.nu] at g
  rw [g.1] at h0
  have key := (st2 (ι := M) (l := l) rfl hk).2
  have s2 : srt M (l ++ [i]) (M 48 0 0 i) = 2 := key.1 h0
  have gg := g.2.2.1 h0
  have gr9 : ∀ r, grl M (l ++ [i]) (M 48 0 0 i) r = mx (grl M l (M 48 0 0 i) r) (M r 0 0 i) := fun r => by
    rw [grl_s]
    unfold grS mx
    simp only [hk, true_and]
  have e : ∀ k' f, (k' ≠ k ∨ (f ≠ 1 ∧ f ≠ 4 ∧ f ≠ 5)) → ι' 1 k' 0 f = ι 1 k' 0 f := fun k' f hq => by
    rcases hc with ⟨_, rfl, _⟩ | ⟨_, rfl, _⟩ <;> simp (disch := omega) only [wdI, up4_ne]
  have e1 : ι' 1 k 0 1 = 2 ∧ ι' 1 k 0 4 = mx (ι 1 k 0 4) (M 50 0 0 i) ∧ ι' 1 k 0 5 = mx (ι 1 k 0 5) (M 51 0 0 i) ∧ ι' 3 0 0 1 = ι 3 0 0 1 := by
    rcases hc with ⟨_, rfl, _⟩ | ⟨_, rfl, _⟩ <;> simp (disch := omega) only [wdI, up4_ne, up4_s, and_self]
  refine h.fin hi (fun k' f hk' => e k' f (Or.inl hk')) (e k 0 (Or.inr (by omega))) e1.2.2.2 ?_ (fun j hj => ?_) ?_ ?_ (fun t ht => ?_) (fun ha => ?_)
  · unfold MG
    rw [e k 0 (Or.inr (by omega)), h.nu, s2, e1.1, e1.2.1, e1.2.2.1, e k 6 (Or.inr (by omega)), e k 7 (Or.inr (by omega)), gr9, gr9, gg.1, gg.2]
    exact ⟨rfl, fun j hj hn => absurd ((ixm_k hj).2.2.trans s2) hn, fun _ => ⟨rfl, rfl⟩, g.2.2.2⟩
  · rcases hc with ⟨_, _, rfl⟩ | ⟨_, _, rfl⟩
    · exact mt33 hj
    · rw [up4_ne (by omega)]; exact mt33 hj
  · rcases hc with ⟨_, _, rfl⟩ | ⟨_, _, rfl⟩
    · exact up4_s
    · rw [up4_ne (by omega)]; exact up4_s
  · rcases hc with ⟨h2, rfl, _⟩ | ⟨h2, rfl, _⟩
    · rw [g.1] at h2
      rw [cm_f (app_f (Or.inr (Or.inr h2)))]
      simp (disch := omega) only [wdI, up4_ne]
      exact h.cc
    · rw [g.1] at h2
      rw [cm_t (app_t hk h0 h2)]
      simp (disch := omega) only [wdI, up4_ne, up4_s]
  · rcases hc with ⟨_, _, rfl⟩ | ⟨_, _, rfl⟩
    · rfl
    · rw [up4_ne (by omega)]
      exact up4_ne (by omega)
  · rcases hc with ⟨h2, _, _⟩ | ⟨h2, _, rfl⟩
    · rw [g.1] at h2
      rw [app_f (Or.inr (Or.inr h2))] at ha
      cases ha
    · exact up4_s
end Ts
/-! what the whole list says: the reference's words -/
theorem me_ix {M : Io} {c : Nat} {x : Int32} (hb : ∀ i ∈ sq M 12 47 c, i < 144) : me M c x = (match ixm M (sq M 12 47 c) x with | some i => nI i | none => -1) := by
  have key : ∀ k, fo M c x k = (match fs M (sq M 12 47 c) x k with | some i => nI i | none => -1) := fun k => rfl
  have pos : ∀ k i, fs M (sq M 12 47 c) x k = some i → 0 ≤ nI i := fun k i h => nI_pos' (by have := hb i (fs_some h).1; omega)
  unfold me ixm
  rw [key, key, key]
  cases h0 : fs M (sq M 12 47 c) x 0 with
  | some a => rw [if_pos (pos 0 a h0)]; rfl
  | none =>
    rw [if_neg (show ¬ (0 : Int32) ≤ -1 by decide)]
    cases h2 : fs M (sq M 12 47 c) x 2 with
    | some a => rw [if_pos (pos 2 a h2)]; rfl
    | none =>
      rw [if_neg (show ¬ (0 : Int32) ≤ -1 by decide)]
      cases h1 : fs M (sq M 12 47 c) x 1 <;> rfl
theorem me_some {M : Io} {c i : Nat} {x : Int32} (hb : ∀ i ∈ sq M 12 47 c, i < 144) (hi : i < 144) (h : me M c x = nI i) : ixm M (sq M 12 47 c) x = some i := by
  rw [me_ix hb] at h
  cases hx : ixm M (sq M 12 47 c) x with
  | none =>
    rw [hx] at h
    exact absurd (show (0 : Int32) ≤ -1 by rw [show (-1 : Int32) = nI i from h]; exact nI_pos' (by omega)) (by decide)
  | some j =>
    rw [hx] at h
    rw [nI_inj (by have := hb j (ixm_k hx).1; omega) (by omega) h]
theorem me_neg {M : Io} {c : Nat} {x : Int32} (hb : ∀ i ∈ sq M 12 47 c, i < 144) : me M c x < 0 ↔ srt M (sq M 12 47 c) x = 3 := by
  rw [me_ix hb, ← ixm_3]
  cases hx : ixm M (sq M 12 47 c) x with
  | none => exact ⟨fun _ => rfl, fun _ => by decide⟩
  | some j => exact ⟨fun h => absurd h (nI_nneg (by have := hb j (ixm_k hx).1; omega)), fun h => by cases h⟩
theorem me_of {M : Io} {c i : Nat} {x : Int32} (hb : ∀ i ∈ sq M 12 47 c, i < 144) (h : ixm M (sq M 12 47 c) x = some i) : me M c x = nI i := by
  rw [me_ix hb, h]
/-! doubled -/
theorem db_iff {M : Io} {c i : Nat} {l suf : List Nat} (hs : sq M 12 47 c = l ++ i :: suf) (hi : i ∉ l) (hb : ∀ i ∈ sq M 12 47 c, i < 144) : dbB M c i ↔ M 49 0 0 i = 0 ∧ srt M l (M 48 0 0 i) = 0 := by
  have hs0 : srt M l (M 48 0 0 i) = 0 ↔ (fs M l (M 48 0 0 i) 0).isSome = true := by
    unfold srt
    constructor
    · intro h
      by_cases h0 : (fs M l (M 48 0 0 i) 0).isSome = true
      · exact h0
      · rw [if_neg h0] at h
        split at h
        · exact absurd h (by decide)
        · split at h <;> exact absurd h (by decide)
    · intro h
      rw [if_pos h]
  unfold dbB
  constructor
  · rintro ⟨h1, h2⟩
    refine ⟨h1, hs0.mpr ?_⟩
    cases hf : fs M l (M 48 0 0 i) 0 with
    | some a => rfl
    | none =>
      exfalso
      apply h2
      unfold fo
      have : (sq M 12 47 c).find? (foB M (M 48 0 0 i) 0) = some i := by
        rw [hs, List.find?_append, show l.find? (foB M (M 48 0 0 i) 0) = none from hf, List.find?_cons, foB_t rfl h1]
        rfl
      rw [this]
  · rintro ⟨h1, h2⟩
    refine ⟨h1, fun z => ?_⟩
    obtain ⟨a, ha⟩ := Option.isSome_iff_exists.mp (hs0.mp h2)
    have : (sq M 12 47 c).find? (foB M (M 48 0 0 i) 0) = some a := by
      rw [hs, List.find?_append, show l.find? (foB M (M 48 0 0 i) 0) = some a from ha]
      rfl
    unfold fo at z
    rw [this] at z
    have ha2 := (fs_some ha).1
    have := nI_inj (a := a) (b := i) (by have := hb a (by rw [hs]; exact List.mem_append_left _ ha2); omega) (by have := hb i (by rw [hs]; simp); omega) z
    subst this
    exact hi ha2
theorem fd_no {S : Ls → Nat → Ls} {l : List Nat} {L : Ls} (h : ∀ i ∈ l, S L i = L) : l.foldl S L = L := by
  induction l with
  | nil => rfl
  | cons i l ih =>
    rw [List.foldl_cons, h i List.mem_cons_self]
    exact ih (fun z hz => h z (List.mem_cons_of_mem _ hz))
theorem tlL_st {L : Ls} {a b d : Int32} (h : 0 < L 10 25) : tlL L a b d = L := if_pos h
theorem tlL_25 {L : Ls} {a b d : Int32} (h : L 10 25 = 0) : tlL L a b d 10 25 = a ∧ tlL L a b d 10 26 = b ∧ tlL L a b d 10 27 = d ∧ ∀ r k, ¬ (r = 10 ∧ (k = 25 ∨ k = 26 ∨ k = 27)) → tlL L a b d r k = L r k := by
  unfold tlL
  rw [if_neg (by rw [h]; decide)]
  refine ⟨?_, ?_, ?_, fun r k hn => ?_⟩ <;> unfold up2
  · simp
  · simp
  · simp
  · rw [if_neg (by omega), if_neg (by omega), if_neg (by omega)]
theorem db_no {M : Io} {c : Nat} {l : List Nat} {L : Ls} (h : ∀ i ∈ l, ¬ dbB M c i) : l.foldl (dbS M c) L = L := fd_no (fun i hi => if_neg (h i hi))
theorem db_hit {M : Io} {c i : Nat} {l suf : List Nat} {L : Ls} (h : ∀ i ∈ l, ¬ dbB M c i) (hi : dbB M c i) (h0 : L 10 25 = 0) : (l ++ i :: suf).foldl (dbS M c) L = tlL L 1 (nI (i / 12)) (nI (i % 12)) := by
  rw [List.foldl_append, db_no h, List.foldl_cons, show dbS M c L i = tlL L 1 (nI (i / 12)) (nI (i % 12)) from if_pos hi]
  refine fd_no (fun j hj => ?_)
  unfold dbS
  split
  · exact tlL_st (by rw [(tlL_25 h0).1]; decide)
  · rfl
theorem mi_no {M : Io} {c : Nat} {l : List Nat} {L : Ls} (h : ∀ j ∈ l, ¬ (L 61 (slR M j) ≠ 0 ∧ meR M c j < 0)) : l.foldl (miS M c) L = L := fd_no (fun i hi => if_neg (h i hi))
theorem mi_hit {M : Io} {c i : Nat} {l suf : List Nat} {L : Ls} (h : ∀ j ∈ l, ¬ (L 61 (slR M j) ≠ 0 ∧ meR M c j < 0)) (hi : L 61 (slR M i) ≠ 0 ∧ meR M c i < 0) (h0 : L 10 25 = 0) : (l ++ i :: suf).foldl (miS M c) L = tlL L 2 (nI (i / 16)) (nI (i % 16)) := by
  rw [List.foldl_append, mi_no h, List.foldl_cons, show miS M c L i = tlL L 2 (nI (i / 16)) (nI (i % 16)) from if_pos hi]
  refine fd_no (fun j hj => ?_)
  unfold miS
  split
  · exact tlL_st (by rw [(tlL_25 h0).1]; decide)
  · rfl
/-- chosen objects are different -/
abbrev NDc (M : Io) (c : Nat) : Prop := ∀ k k', k < c → k' < c → mn M 59 k = mn M 59 k' → k = k'
theorem sqP_nm {M : Io} {m fld c k n : Nat} (hd : NDc M c) (hk : k < c) (hm : 0 < m) (hb : ∀ k, k < c → mn M fld (mn M 59 k) ≤ m) (hn : n < m) : m * mn M 59 k + n ∉ sqP M m fld k n := by
  intro h
  unfold sqP at h
  rcases List.mem_append.mp h with h | h
  · unfold sq at h
    obtain ⟨k', hk', h2⟩ := List.mem_flatMap.mp h
    rw [List.mem_range] at hk'
    obtain ⟨n', hn', e⟩ := List.mem_map.mp h2
    rw [List.mem_range] at hn'
    have := hb k' (by omega)
    have e1 : (m * mn M 59 k' + n') / m = (m * mn M 59 k + n) / m := by rw [e]
    rw [Nat.mul_add_div hm, Nat.mul_add_div hm, Nat.div_eq_of_lt (show n' < m by omega), Nat.div_eq_of_lt hn] at e1
    have := hd k' k (by omega) hk (by omega)
    omega
  · obtain ⟨n', hn', e⟩ := List.mem_map.mp h
    rw [List.mem_range] at hn'
    omega
/-! what is reached -/
theorem Tc.ix {M : Io} {c i : Nat} {e : Int32} (hb : ∀ i ∈ sq M 12 47 c, i < 144) (h : Tc M c e i) : i < 144 ∧ ixm M (sq M 12 47 c) (M 48 0 0 i) = some i := by
  have key : ∀ i x, i < 144 → me M c x = nI i → i < 144 ∧ ixm M (sq M 12 47 c) (M 48 0 0 i) = some i := fun i x hi h => by
    have h1 := me_some hb hi h
    rw [(ixm_k h1).2.1]
    exact ⟨hi, h1⟩
  exact h (fun i => i < 144 ∧ ixm M (sq M 12 47 c) (M 48 0 0 i) = some i) (fun i hi h => key i _ hi h) (fun _ j i' _ _ _ _ hi h => key i' _ hi h)
theorem Tc.base {M : Io} {c i : Nat} {e : Int32} (hi : i < 144) (h : me M c e = nI i) : Tc M c e i := fun S h1 _ => h1 i hi h
theorem Tc.step {M : Io} {c i j i' : Nat} {e : Int32} (h : Tc M c e i) (h2 : M 49 0 0 i ≠ 2) (hj : j ∈ sq M 16 52 c) (hs : rcI M i = slR M j) (hi : i' < 144) (hm : meR M c j = nI i') : Tc M c e i' := fun S h1 h3 => h3 i j i' (h S h1 h3) h2 hj hs hi hm
/-- the class's table without its marks -/
def MG3 (M ι : Io) (l : List Nat) (k : Nat) : Prop := ι 1 k 0 1 = srt M l (ι 1 k 0 0) ∧ (∀ i, ixm M l (ι 1 k 0 0) = some i → M 49 0 0 i ≠ 2 → ι 1 k 0 2 = nI (rcI M i) ∧ ι 1 k 0 3 = M 51 0 0 i) ∧ (srt M l (ι 1 k 0 0) ≠ 0 → ι 1 k 0 4 = grl M l (ι 1 k 0 0) 50 ∧ ι 1 k 0 5 = grl M l (ι 1 k 0 0) 51)
def T3 (M ι : Io) (ρ : Ro) (l : List Nat) (z : Nat) (kx : Nat → Nat) : Prop := ι 3 0 0 1 = nI z ∧ z ≤ l.length ∧ (∀ i ∈ l, kx i < z ∧ ι 1 (kx i) 0 0 = M 48 0 0 i ∧ ρ 33 0 0 i = some (1, kx i, 0)) ∧ (∀ k, k < z → ∃ i ∈ l, M 48 0 0 i = ι 1 k 0 0) ∧ (∀ k k', k < z → k' < z → ι 1 k 0 0 = ι 1 k' 0 0 → k = k') ∧ (∀ k, k < z → MG3 M ι l k) ∧ (ι 3 0 0 4 = nI (cmL M l).length ∧ ∀ t (h : t < (cmL M l).length), ρ 34 0 0 t = some (1, kx (cmL M l)[t], 0))
theorem TB.t3 {M ι : Io} {ρ : Ro} {l : List Nat} {z : Nat} {kx : Nat → Nat} (h : TB M ι ρ l z kx) : T3 M ι ρ l z kx := ⟨h.1, h.2.1, h.2.2.1, h.2.2.2.1, h.2.2.2.2.1, fun k hk => ⟨(h.2.2.2.2.2.1 k hk).1, (h.2.2.2.2.2.1 k hk).2.1, (h.2.2.2.2.2.1 k hk).2.2.1⟩, h.2.2.2.2.2.2⟩
theorem T3.cg {M ι ι' : Io} {ρ : Ro} {l : List Nat} {z : Nat} {kx : Nat → Nat} (h : T3 M ι ρ l z kx) (e : ∀ k f, f < 6 → ι' 1 k 0 f = ι 1 k 0 f) (e3 : ∀ f, ι' 3 0 0 f = ι 3 0 0 f) : T3 M ι' ρ l z kx := by
  unfold T3 MG3 at *
  simp only [e _ 0 (by omega), e _ 1 (by omega), e _ 2 (by omega), e _ 3 (by omega), e _ 4 (by omega), e _ 5 (by omega), e3]
  exact h
/-- what the number x means is marked -/
def Mx (M ι : Io) (c z : Nat) (x : Int32) : Prop := ∀ i, ixm M (sq M 12 47 c) x = some i → (M 49 0 0 i = 2 → ∃ k, k < z ∧ ι 1 k 0 0 = x ∧ ι 1 k 0 6 ≠ 0) ∧ (M 49 0 0 i ≠ 2 → ι 28 0 0 (rcI M i) ≠ 0)
def RQ (M ι : Io) (c z : Nat) (e : Int32) (q : Nat) (qs : Nat → Nat) : Prop := ι 0 0 0 6 = nI q ∧ (∀ t, t < q → ι 29 0 0 t = nI (qs t) ∧ qs t < 96 ∧ ι 28 0 0 (qs t) ≠ 0 ∧ ∃ i, Tc M c e i ∧ M 49 0 0 i ≠ 2 ∧ rcI M i = qs t) ∧ (∀ s, s < 96 → ι 28 0 0 s = 0 ∨ (ι 28 0 0 s = 1 ∧ ∃ t, t < q ∧ qs t = s)) ∧ (∀ t t', t < q → t' < q → qs t = qs t' → t = t') ∧ (∀ k, k < z → ι 1 k 0 6 = 0 ∨ (ι 1 k 0 6 = 1 ∧ ∃ i, Tc M c e i ∧ M 49 0 0 i = 2 ∧ M 48 0 0 i = ι 1 k 0 0))
theorem RQ.q96 {M ι : Io} {c z q : Nat} {e : Int32} {qs : Nat → Nat} (h : RQ M ι c z e q qs) : q ≤ 96 := pig 96 q qs (fun k hk => (h.2.1 k hk).2.1) h.2.2.2.1
/-- a slot more -/
theorem RQ.add {M ι : Io} {c z q s : Nat} {e : Int32} {qs : Nat → Nat} (h : RQ M ι c z e q qs) (hs : s < 96) (h0 : ι 28 0 0 s = 0) (ht : ∃ i, Tc M c e i ∧ M 49 0 0 i ≠ 2 ∧ rcI M i = s) : q < 96 ∧ RQ M (up4 (up4 (up4 ι 28 0 0 s 1) 29 0 0 q (nI s)) 0 0 0 6 (nI (q + 1))) c z e (q + 1) (fun t => if t = q then s else qs t) := by
  obtain ⟨h1, h2, h3, h4, h5⟩ := h
  have hne : ∀ t, t < q → qs t ≠ s := fun t ht z => (h2 t ht).2.2.1 (by rw [z]; exact h0)
  have e28 : ∀ t, (up4 (up4 (up4 ι 28 0 0 s 1) 29 0 0 q (nI s)) 0 0 0 6 (nI (q + 1))) 28 0 0 t = if t = s then 1 else ι 28 0 0 t := fun t => by
    rw [up4_ne (by omega), up4_ne (by omega)]
    by_cases hq : t = s
    · rw [if_pos hq, hq, up4_s]
    · rw [if_neg hq, up4_ne (by omega)]
  have e1 : ∀ k f, (up4 (up4 (up4 ι 28 0 0 s 1) 29 0 0 q (nI s)) 0 0 0 6 (nI (q + 1))) 1 k 0 f = ι 1 k 0 f := fun k f => by rw [up4_ne (by omega), up4_ne (by omega), up4_ne (by omega)]
  have hq96 : q + 1 ≤ 96 := by
    refine pig 96 (q + 1) (fun t => if t = q then s else qs t) (fun k hk => ?_) (fun k k' hk hk' he => ?_)
    · split
      · exact hs
      · exact (h2 k (by omega)).2.1
    · split at he <;> split at he
      · omega
      · exact absurd he.symm (hne k' (by omega))
      · exact absurd he (hne k (by omega))
      · exact h4 k k' (by omega) (by omega) he
  refine ⟨by omega, up4_s, fun t ht' => ?_, fun t ht' => ?_, fun k k' hk hk' he => ?_, fun k hk => ?_⟩
  · dsimp only
    by_cases hq : t = q
    · subst hq
      rw [if_pos rfl, e28, if_pos rfl, up4_ne (by omega), up4_s]
      exact ⟨rfl, hs, by decide, ht⟩
    · obtain ⟨a, b, d, f⟩ := h2 t (by omega)
      rw [if_neg hq, e28, if_neg (hne t (by omega)), up4_ne (by omega), up4_ne (by omega), up4_ne (by omega)]
      exact ⟨a, b, d, f⟩
  · rw [e28]
    by_cases hq : t = s
    · rw [if_pos hq]
      exact Or.inr ⟨rfl, q, by omega, (if_pos rfl).trans hq.symm⟩
    · rw [if_neg hq]
      rcases h3 t ht' with g | ⟨g, t', g1, g2⟩
      · exact Or.inl g
      · exact Or.inr ⟨g, t', by omega, (if_neg (by omega)).trans g2⟩
  · dsimp only at he
    split at he <;> split at he
    · omega
    · exact absurd he.symm (hne k' (by omega))
    · exact absurd he (hne k (by omega))
    · exact h4 k k' (by omega) (by omega) he
  · rw [e1, e1]
    exact h5 k hk
theorem RQ.com {M ι : Io} {c z q k0 : Nat} {e : Int32} {qs : Nat → Nat} (h : RQ M ι c z e q qs) (ht : ∃ i, Tc M c e i ∧ M 49 0 0 i = 2 ∧ M 48 0 0 i = ι 1 k0 0 0) : RQ M (up4 ι 1 k0 0 6 1) c z e q qs := by
  obtain ⟨h1, h2, h3, h4, h5⟩ := h
  refine ⟨h1, h2, h3, h4, fun k hk => ?_⟩
  rw [show up4 ι 1 k0 0 6 1 1 k 0 0 = ι 1 k 0 0 from up4_ne (by omega)]
  by_cases hq : k = k0
  · subst hq
    rw [up4_s]
    exact Or.inr ⟨rfl, ht⟩
  · rw [up4_ne (by omega)]
    exact h5 k hk
theorem Mx.add {M ι : Io} {c z s q : Nat} {x : Int32} (h : Mx M ι c z x) : Mx M (up4 (up4 (up4 ι 28 0 0 s 1) 29 0 0 q (nI s)) 0 0 0 6 (nI (q + 1))) c z x := by
  intro i hi
  obtain ⟨h1, h2⟩ := h i hi
  refine ⟨fun hk => ?_, fun hk => ?_⟩
  · obtain ⟨k, a, b, d⟩ := h1 hk
    refine ⟨k, a, ?_, ?_⟩
    · rw [up4_ne (by omega), up4_ne (by omega), up4_ne (by omega)]; exact b
    · rw [up4_ne (by omega), up4_ne (by omega), up4_ne (by omega)]; exact d
  · rw [up4_ne (by omega), up4_ne (by omega)]
    by_cases hq : rcI M i = s
    · rw [hq, up4_s]; decide
    · rw [up4_ne (by omega)]; exact h2 hk
theorem Mx.com {M ι : Io} {c z k0 : Nat} {x : Int32} (h : Mx M ι c z x) : Mx M (up4 ι 1 k0 0 6 1) c z x := by
  intro i hi
  obtain ⟨h1, h2⟩ := h i hi
  refine ⟨fun hk => ?_, fun hk => h2 hk⟩
  obtain ⟨k, a, b, d⟩ := h1 hk
  refine ⟨k, a, ?_, ?_⟩
  · rw [up4_ne (by omega)]; exact b
  · by_cases hq : k = k0
    · subst hq
      rw [up4_s]; decide
    · rw [up4_ne (by omega)]; exact d
/-- the reference's marks out of the class's -/
def mkL (M ι : Io) (c : Nat) (kx : Nat → Nat) (L : Ls) : Ls := fun r s => if r = 61 ∧ s < 96 then ι 28 0 0 s else if r = 62 ∧ s < 144 then (if s ∈ sq M 12 47 c ∧ M 49 0 0 s = 2 ∧ ixm M (sq M 12 47 c) (M 48 0 0 s) = some s ∧ ι 1 (kx s) 0 6 ≠ 0 then 1 else 0) else L r s
theorem RQ.rd {M ι : Io} {ρ : Ro} {c z q : Nat} {e : Int32} {qs kx : Nat → Nat} {L : Ls} (h : RQ M ι c z e q qs) (hT : T3 M ι ρ (sq M 12 47 c) z kx) (hb : ∀ i ∈ sq M 12 47 c, i < 144) (hrc : ∀ i ∈ sq M 12 47 c, M 49 0 0 i ≠ 2 → M 49 0 0 i ≠ 3 → rcI M i < 96) (he : Mx M ι c z e) (hcl : ∀ t, t < q → ∀ j ∈ sq M 16 52 c, slR M j = qs t → Mx M ι c z (nuR M j)) : Rd M c e (mkL M ι c kx L) := by
  have e61 : ∀ s, s < 96 → mkL M ι c kx L 61 s = ι 28 0 0 s := fun s hs => if_pos ⟨rfl, hs⟩
  have e62 : ∀ s, s < 144 → mkL M ι c kx L 62 s = if s ∈ sq M 12 47 c ∧ M 49 0 0 s = 2 ∧ ixm M (sq M 12 47 c) (M 48 0 0 s) = some s ∧ ι 1 (kx s) 0 6 ≠ 0 then 1 else 0 := fun s hs => by
    unfold mkL
    rw [if_neg (by omega), if_pos ⟨rfl, hs⟩]
  have mark : ∀ x i, Mx M ι c z x → ixm M (sq M 12 47 c) x = some i → mkL M ι c kx L (rcR M i) (rcI M i) ≠ 0 := by
    intro x i hx hi
    obtain ⟨m1, m2, m3⟩ := ixm_k hi
    obtain ⟨h1, h2⟩ := hx i hi
    by_cases hk : M 49 0 0 i = 2
    · unfold rcR rcI
      rw [if_pos hk, if_pos hk, e62 i (hb i m1)]
      obtain ⟨k, a, b, d⟩ := h1 hk
      obtain ⟨p1, p2, _⟩ := hT.2.2.1 i m1
      have : kx i = k := hT.2.2.2.2.1 _ _ p1 a (by rw [p2, b, m2])
      rw [if_pos ⟨m1, hk, by rw [m2]; exact hi, by rw [this]; exact d⟩]
      decide
    · have hr := hrc i m1 hk (by
        rw [m3]
        intro z9
        rw [ixm_3.mpr z9] at hi
        cases hi)
      have := h2 hk
      rw [show rcR M i = 61 from if_neg hk, e61 _ hr]
      exact this
  refine ⟨⟨fun s hs => ?_, fun i hi => ?_⟩, fun i hi => ?_⟩
  · rw [e61 s hs]
    rcases h.2.2.1 s hs with g | ⟨g, t, g1, g2⟩
    · exact Or.inl g
    · obtain ⟨i, a, b, d⟩ := (h.2.1 t g1).2.2.2
      exact Or.inr ⟨g, i, a, b, d.trans g2⟩
  · rw [e62 i hi]
    split
    · rename_i hq
      obtain ⟨a, b, d, f⟩ := hq
      obtain ⟨p1, p2, _⟩ := hT.2.2.1 i a
      obtain ⟨_, i', t1, t2, t3⟩ := (h.2.2.2.2 (kx i) p1).resolve_left f
      have hx := (Tc.ix hb t1).2
      rw [t3, p2, d] at hx
      cases hx
      exact Or.inr ⟨rfl, t1, b⟩
    · exact Or.inl rfl
  · refine (hi (fun i => i < 144 ∧ ixm M (sq M 12 47 c) (M 48 0 0 i) = some i ∧ mkL M ι c kx L (rcR M i) (rcI M i) ≠ 0) (fun i hi h9 => ?_) (fun i j i' hS h2 hj hs hi' hm => ?_)).2.2
    · have h1 := me_some hb hi h9
      exact ⟨hi, by rw [(ixm_k h1).2.1]; exact h1, mark e i he h1⟩
    · have h1 := me_some hb hi' hm
      refine ⟨hi', by rw [(ixm_k h1).2.1]; exact h1, mark (nuR M j) i' ?_ h1⟩
      obtain ⟨q1, q2, q3⟩ := hS
      have hr : rcI M i < 96 := by
        have m := ixm_k q2
        refine hrc i m.1 h2 (fun z9 => ?_)
        rw [m.2.2] at z9
        rw [ixm_3.mpr z9] at q2
        cases q2
      rw [show rcR M i = 61 from if_neg h2, e61 _ hr] at q3
      obtain ⟨_, t, t1, t2⟩ := (h.2.2.1 _ hr).resolve_left q3
      exact hcl t t1 j hj (by rw [t2]; exact hs.symm)
/-! the layout: the class's numbers beside the reference's -/
theorem al_bits {y m : BitVec 32} {q : Nat} (hq : q < 32) (hm : ∀ i, i < 32 → m.getLsbD i = decide (q ≤ i)) : (y.sshiftRight q) <<< q = y &&& m := by
  apply BitVec.eq_of_getLsbD_eq
  intro i hi
  rw [BitVec.getLsbD_shiftLeft, BitVec.getLsbD_and, BitVec.getLsbD_sshiftRight, hm i hi]
  by_cases h : q ≤ i
  · have h1 : ¬ i < q := by omega
    have h2 : q + (i - q) = i := by omega
    have h3 : ¬ 32 ≤ i - q := by omega
    simp [h, h1, h2, h3, hi]
  · have h1 : i < q := by omega
    simp [h, h1]
theorem nx_one {x a b d e : Int32} {q : Nat} {m : BitVec 32} (hq : q < 32) (ha : a - 1 = b) (hd : b ^^^ -1 = d) (hm : d.toBitVec = m) (hm2 : ∀ i, i < 32 → m.getLsbD i = decide (q ≤ i)) (he : (e.toBitVec.smod 32).toNat = q) : (x + b) &&& d = ((x + a - 1) >>> e) <<< e := by
  have h1 : x + a - 1 = x + b := by rw [← ha, Int32.sub_eq_add_neg, Int32.sub_eq_add_neg, Int32.add_assoc]
  rw [h1]
  apply Int32.toBitVec_inj.mp
  rw [Int32.toBitVec_and, Int32.toBitVec_shiftLeft, Int32.toBitVec_shiftRight, hm]
  have e1 : (x + b).toBitVec.sshiftRight' (e.toBitVec.smod 32) = (x + b).toBitVec.sshiftRight q := by
    unfold BitVec.sshiftRight'
    rw [he]
  have e2 : ∀ z : BitVec 32, z <<< (e.toBitVec.smod 32) = z <<< q := fun z => by
    rw [BitVec.shiftLeft_eq', he]
  rw [e1, e2]
  exact (al_bits hq hm2).symm
/-- the class's next place is the reference's -/
theorem nx_eq {x : Int32} {q : Nat} (hq : q ≤ 7) : (x + (((1 : Int32) <<< (nI q &&& 31)) - 1)) &&& ((((1 : Int32) <<< (nI q &&& 31)) - 1) ^^^ -1) = nxt x (nI q) := by
  unfold nxt
  rcases (show q = 0 ∨ q = 1 ∨ q = 2 ∨ q = 3 ∨ q = 4 ∨ q = 5 ∨ q = 6 ∨ q = 7 by omega) with rfl | rfl | rfl | rfl | rfl | rfl | rfl | rfl
  · exact nx_one (q := 0) (m := 0xffffffff#32) (by decide) rfl rfl (by decide) (by decide) (by decide)
  · exact nx_one (q := 1) (m := 0xfffffffe#32) (by decide) rfl rfl (by decide) (by decide) (by decide)
  · exact nx_one (q := 2) (m := 0xfffffffc#32) (by decide) rfl rfl (by decide) (by decide) (by decide)
  · exact nx_one (q := 3) (m := 0xfffffff8#32) (by decide) rfl rfl (by decide) (by decide) (by decide)
  · exact nx_one (q := 4) (m := 0xfffffff0#32) (by decide) rfl rfl (by decide) (by decide) (by decide)
  · exact nx_one (q := 5) (m := 0xffffffe0#32) (by decide) rfl rfl (by decide) (by decide) (by decide)
  · exact nx_one (q := 6) (m := 0xffffffc0#32) (by decide) rfl rfl (by decide) (by decide) (by decide)
  · exact nx_one (q := 7) (m := 0xffffff80#32) (by decide) rfl rfl (by decide) (by decide) (by decide)
theorem i_as {a b : Int32} : a + (b - a) = b := by rw [Int32.sub_eq_add_neg, Int32.add_comm b, ← Int32.add_assoc, Int32.add_right_neg, Int32.zero_add]
abbrev endI (ι : Io) : Int32 := ι 0 0 0 9 + ι 0 0 0 11
def npI (ι : Io) (q n : Int32) : Io := up4 (up4 ι 0 0 0 14 (ι 0 0 0 14 + (nxt (endI ι) q - endI ι))) 0 0 0 11 (nxt (endI ι) q + n - ι 0 0 0 9)
def LC (ι : Io) (L : Ls) : Prop := ι 0 0 0 9 = L 10 20 ∧ ι 0 0 0 11 = L 10 41 - L 10 20 ∧ ι 0 0 0 12 = L 10 30 ∧ ι 0 0 0 13 = L 10 32 ∧ ι 0 0 0 14 = L 10 31 ∧ (∀ s, s < 96 → L 64 s ≠ -1 → ι 30 0 0 s = L 64 s) ∧ (∀ s, s < 96 → ι 28 0 0 s = L 61 s)
theorem LC.en {ι : Io} {L : Ls} (h : LC ι L) : endI ι = L 10 41 := by
  unfold endI
  rw [h.1, h.2.1]
  exact i_as
abbrev scI (ι : Io) (s : Nat) (q n : Int32) : Io := up4 (up4 (npI ι q n) 30 0 0 s (nxt (endI ι) q)) 0 0 0 12 (ι 0 0 0 12 + 1)
theorem up2_s {L : Ls} {r k : Nat} {x : Int32} : up2 L r k x r k = x := if_pos ⟨rfl, rfl⟩
theorem LC.sec {M ι : Io} {L : Ls} {k s : Nat} (h : LC ι L) (hs : s < 96) (hr : L 61 s ≠ 0) (hk : M 43 0 0 s = nI k) : LC (scI ι s (M 44 0 0 s) (M 45 0 0 s)) (secS M k L s) := by
  have he := h.en
  obtain ⟨h1, h2, h3, h4, h5, h6, h7⟩ := h
  have e : secS M k L s = up2 (up2 (up2 (nxL L (M 44 0 0 s)) 64 s (nxt (L 10 41) (M 44 0 0 s))) 10 41 (nxt (L 10 41) (M 44 0 0 s) + M 45 0 0 s)) 10 30 (L 10 30 + 1) := if_pos ⟨hr, hk⟩
  rw [e]
  unfold scI npI nxL
  rw [he]
  refine ⟨?_, ?_, ?_, ?_, ?_, fun t ht hn => ?_, fun t ht => ?_⟩
  · simp (disch := omega) only [up4_ne, up2_ne]; exact h1
  · simp (disch := omega) only [up4_ne, up4_s, up2_ne, up2_s]; rw [h1]
  · simp (disch := omega) only [up4_ne, up4_s, up2_ne, up2_s]; rw [h3]
  · simp (disch := omega) only [up4_ne, up4_s, up2_ne, up2_s]; exact h4
  · simp (disch := omega) only [up4_ne, up4_s, up2_ne, up2_s]; rw [h5]
  · by_cases hq : t = s
    · subst hq
      simp (disch := omega) only [up4_ne, up4_s, up2_ne, up2_s]
    · simp (disch := omega) only [up4_ne, up4_s, up2_ne, up2_s] at hn ⊢
      exact h6 t ht hn
  · simp (disch := omega) only [up4_ne, up4_s, up2_ne, up2_s]
    exact h7 t ht
abbrev cmI (ι : Io) (k : Nat) (q n : Int32) : Io := up4 (up4 (npI ι q n) 1 k 0 7 (nxt (endI ι) q)) 0 0 0 13 (ι 0 0 0 13 + 1)
theorem LC.com {M ι : Io} {L : Ls} {c i k : Nat} (h : LC ι L) (hr : L 62 i ≠ 0) : LC (cmI ι k (gr M c (M 48 0 0 i) 50) (gr M c (M 48 0 0 i) 51)) (comS M c L i) ∧ comS M c L i 63 i = nxt (endI ι) (gr M c (M 48 0 0 i) 50) := by
  have he := h.en
  obtain ⟨h1, h2, h3, h4, h5, h6, h7⟩ := h
  have e : comS M c L i = up2 (up2 (up2 (nxL L (gr M c (M 48 0 0 i) 50)) 63 i (nxt (L 10 41) (gr M c (M 48 0 0 i) 50))) 10 41 (nxt (L 10 41) (gr M c (M 48 0 0 i) 50) + gr M c (M 48 0 0 i) 51)) 10 32 (L 10 32 + 1) := if_pos hr
  rw [e]
  unfold cmI npI nxL
  rw [he]
  refine ⟨⟨?_, ?_, ?_, ?_, ?_, fun t ht hn => ?_, fun t ht => ?_⟩, ?_⟩
  · simp (disch := omega) only [up4_ne, up2_ne]; exact h1
  · simp (disch := omega) only [up4_ne, up4_s, up2_ne, up2_s]; rw [h1]
  · simp (disch := omega) only [up4_ne, up4_s, up2_ne, up2_s]; exact h3
  · simp (disch := omega) only [up4_ne, up4_s, up2_ne, up2_s]; rw [h4]
  · simp (disch := omega) only [up4_ne, up4_s, up2_ne, up2_s]; rw [h5]
  · simp (disch := omega) only [up4_ne, up4_s, up2_ne, up2_s] at hn ⊢
    exact h6 t ht hn
  · simp (disch := omega) only [up4_ne, up4_s, up2_ne, up2_s]
    exact h7 t ht
  · simp (disch := omega) only [up2_ne, up2_s]
/-! commons -/
theorem cm_fs {M : Io} (l : List Nat) : ∀ i ∈ cmL M l, M 49 0 0 i = 2 ∧ fs M l (M 48 0 0 i) 2 = some i := by
  have : ∀ n (l : List Nat), l.length = n → ∀ i ∈ cmL M l, M 49 0 0 i = 2 ∧ fs M l (M 48 0 0 i) 2 = some i := by
    intro n
    induction n with
    | zero =>
      intro l h i hi
      rw [List.length_eq_zero_iff.mp h] at hi
      cases hi
    | succ n ih =>
      intro l h i hi
      have hne : l ≠ [] := by intro z; rw [z] at h; cases h
      have hd : l.dropLast.length = n := by simp [h]
      have hl := List.dropLast_concat_getLast hne
      rw [← hl] at hi ⊢
      rw [cmL_s] at hi
      rw [fs_s]
      rcases List.mem_append.mp hi with hi | hi
      · obtain ⟨a, b⟩ := ih _ hd i hi
        rw [b]
        exact ⟨a, rfl⟩
      · split at hi
        · rename_i ha
          rw [List.mem_singleton] at hi
          subst hi
          unfold appB at ha
          simp only [Bool.and_eq_true, beq_iff_eq, bne_iff_ne, ne_eq] at ha
          obtain ⟨⟨a1, a2⟩, a3⟩ := ha
          have : fs M l.dropLast (M 48 0 0 (l.getLast hne)) 2 = none := by
            cases hf : fs M l.dropLast (M 48 0 0 (l.getLast hne)) 2 with
            | none => rfl
            | some b =>
              exfalso
              unfold srt at a2 a3
              rw [hf] at a2 a3
              by_cases h0 : (fs M l.dropLast (M 48 0 0 (l.getLast hne)) 0).isSome = true
              · rw [if_pos h0] at a2; exact a2 rfl
              · rw [if_neg h0] at a3; exact a3 rfl
          rw [this, if_pos ⟨rfl, a1⟩]
          exact ⟨a1, rfl⟩
        · cases hi
  exact this _ l rfl
theorem cm_ix {M : Io} {l : List Nat} {i : Nat} (hi : i ∈ cmL M l) (h : srt M l (M 48 0 0 i) = 2) : ixm M l (M 48 0 0 i) = some i := by
  have h2 := (cm_fs l i hi).2
  unfold srt at h
  unfold ixm
  cases h0 : fs M l (M 48 0 0 i) 0 with
  | some a => rw [h0] at h; exact absurd (show (0 : Int32) = 2 from h) (by decide)
  | none => rw [h2]; rfl
theorem com62 {M : Io} {c i t : Nat} {L : Ls} : comS M c L i 62 t = L 62 t ∧ comS M c L i 61 t = L 61 t ∧ comS M c L i 64 t = L 64 t := by
  unfold comS
  split
  · unfold nxL
    refine ⟨?_, ?_, ?_⟩ <;> simp (disch := omega) only [up2_ne]
  · exact ⟨rfl, rfl, rfl⟩
theorem coms62 {M : Io} {c : Nat} {l : List Nat} : ∀ {L : Ls} {t : Nat}, l.foldl (comS M c) L 62 t = L 62 t := by
  induction l with
  | nil => intro L t; rfl
  | cons a l ih => intro L t; rw [List.foldl_cons, ih, com62.1]
/-- the commons that count stand in the class's list, in order -/
theorem com_fold {M : Io} {c : Nat} {L : Ls} {tot : List Nat} (hL : ∀ i ∈ tot, L 62 i ≠ 0 → M 49 0 0 i = 2 ∧ ixm M tot (M 48 0 0 i) = some i) (hnd : ∀ l i suf, tot = l ++ i :: suf → i ∉ l) : ∀ n (l suf : List Nat), l.length = n → tot = l ++ suf → l.foldl (comS M c) L = (cmL M l).foldl (comS M c) L := by
  intro n
  induction n with
  | zero =>
    intro l suf h _
    rw [List.length_eq_zero_iff.mp h]
    rfl
  | succ n ih =>
    intro l suf h ht
    have hne : l ≠ [] := by intro z; rw [z] at h; cases h
    have hd : l.dropLast.length = n := by simp [h]
    have hl := List.dropLast_concat_getLast hne
    generalize l.getLast hne = i at hl
    rw [← hl, List.append_assoc] at ht
    rw [← hl, cmL_s, List.foldl_append, List.foldl_append, ih l.dropLast (i :: suf) hd ht]
    have hni := hnd _ _ _ ht
    by_cases ha : appB M l.dropLast i = true
    · rw [if_pos ha]
    · rw [if_neg ha]
      have : (cmL M l.dropLast).foldl (comS M c) L 62 i = 0 := by
        rw [coms62]
        apply Classical.byContradiction
        intro hz
        obtain ⟨b1, b2⟩ := hL i (by rw [ht]; simp) hz
        apply ha
        have f0 : fs M tot (M 48 0 0 i) 0 = none := by
          cases hf : fs M tot (M 48 0 0 i) 0 with
          | none => rfl
          | some a =>
            unfold ixm at b2
            rw [hf] at b2
            simp at b2
            subst b2
            have := (fs_some hf).2.2
            rw [b1] at this
            exact absurd this (by decide)
        have f2 : fs M tot (M 48 0 0 i) 2 = some i := by
          unfold ixm at b2
          rw [f0] at b2
          cases hf : fs M tot (M 48 0 0 i) 2 with
          | some a => rw [hf] at b2; simp at b2; rw [b2]
          | none =>
            rw [hf] at b2
            simp at b2
            have := (fs_some b2).2.2
            rw [b1] at this
            exact absurd this (by decide)
        have g0 : fs M l.dropLast (M 48 0 0 i) 0 = none := by
          cases hf : fs M l.dropLast (M 48 0 0 i) 0 with
          | none => rfl
          | some a =>
            unfold fs at f0 hf
            rw [ht, List.find?_append, hf] at f0
            cases f0
        have g2 : fs M l.dropLast (M 48 0 0 i) 2 = none := by
          cases hf : fs M l.dropLast (M 48 0 0 i) 2 with
          | none => rfl
          | some a =>
            have hm := (fs_some hf).1
            unfold fs at f2 hf
            rw [ht, List.find?_append, hf] at f2
            simp at f2
            subst f2
            exact absurd hm hni
        have g9 : srt M l.dropLast (M 48 0 0 i) = 1 ∨ srt M l.dropLast (M 48 0 0 i) = 3 := by
          unfold srt
          rw [g0, g2]
          cases fs M l.dropLast (M 48 0 0 i) 1
          · exact Or.inr rfl
          · exact Or.inl rfl
        refine app_t b1 ?_ ?_ <;> rcases g9 with g9 | g9 <;> rw [g9] <;> decide
      show comS M c _ i = _
      exact if_neg (fun z => z this)
/-! blocks laid into a row -/
def bw (a n : Nat) (d g : Nat → Int32) : Nat → Int32 := fun k => if a ≤ k ∧ k < a + n then d (k - a) else g k
def bwF (A N : Nat → Nat) (D : Nat → Nat → Int32) (l : List Nat) (g : Nat → Int32) : Nat → Int32 := l.foldl (fun g s => bw (A s) (N s) (D s) g) g
theorem bwF_s {A N : Nat → Nat} {D : Nat → Nat → Int32} {l : List Nat} {s : Nat} {g : Nat → Int32} : bwF A N D (l ++ [s]) g = bw (A s) (N s) (D s) (bwF A N D l g) := by
  unfold bwF
  rw [List.foldl_append]
  rfl
theorem bw_f {A N : Nat → Nat} {D : Nat → Nat → Int32} {k : Nat} : ∀ {l : List Nat} {g : Nat → Int32}, (∀ s ∈ l, ∀ t ∈ l, (A s ≤ k ∧ k < A s + N s) → (A t ≤ k ∧ k < A t + N t) → s = t) → (∀ s ∈ l, (A s ≤ k ∧ k < A s + N s) → bwF A N D l g k = D s (k - A s)) ∧ ((∀ s ∈ l, ¬ (A s ≤ k ∧ k < A s + N s)) → bwF A N D l g k = g k) := by
  intro l
  induction l with
  | nil => intro g _; exact ⟨fun s hs => absurd hs List.not_mem_nil, fun _ => rfl⟩
  | cons a l ih =>
    intro g h
    have ih := ih (g := bw (A a) (N a) (D a) g) (fun s hs t ht => h s (List.mem_cons_of_mem _ hs) t (List.mem_cons_of_mem _ ht))
    refine ⟨fun s hs hc => ?_, fun hn => ?_⟩
    · show bwF A N D l (bw (A a) (N a) (D a) g) k = _
      by_cases hl : ∃ t ∈ l, A t ≤ k ∧ k < A t + N t
      · obtain ⟨t, ht, hct⟩ := hl
        have := h s hs t (List.mem_cons_of_mem _ ht) hc hct
        subst this
        exact ih.1 s ht hc
      · have hsa : s = a := by
          rcases List.mem_cons.mp hs with z | z
          · exact z
          · exact absurd ⟨s, z, hc⟩ hl
        subst hsa
        rw [ih.2 (fun t ht hct => hl ⟨t, ht, hct⟩)]
        exact if_pos hc
    · show bwF A N D l (bw (A a) (N a) (D a) g) k = _
      rw [ih.2 (fun t ht => hn t (List.mem_cons_of_mem _ ht))]
      exact if_neg (hn a List.mem_cons_self)
/-- two orders of the same blocks -/
theorem bw_2 {A N : Nat → Nat} {D : Nat → Nat → Int32} {l m : List Nat} {g h : Nat → Int32} {k : Nat} (hd : ∀ s t, (A s ≤ k ∧ k < A s + N s) → (A t ≤ k ∧ k < A t + N t) → s = t) (hm : ∀ s, (A s ≤ k ∧ k < A s + N s) → (s ∈ l ↔ s ∈ m)) (hg : g k = h k) : bwF A N D l g k = bwF A N D m h k := by
  have h1 := bw_f (A := A) (N := N) (D := D) (k := k) (l := l) (g := g) (fun s _ t _ a b => hd s t a b)
  have h2 := bw_f (A := A) (N := N) (D := D) (k := k) (l := m) (g := h) (fun s _ t _ a b => hd s t a b)
  by_cases hl : ∃ s ∈ l, A s ≤ k ∧ k < A s + N s
  · obtain ⟨s, hs, hc⟩ := hl
    rw [h1.1 s hs hc, h2.1 s ((hm s hc).mp hs) hc]
  · rw [h1.2 (fun s hs hc => hl ⟨s, hs, hc⟩), h2.2 (fun s hs hc => hl ⟨s, (hm s hc).mpr hs, hc⟩), hg]
/-! the copies -/
abbrev cA (L : Ls) (s : Nat) : Nat := (L 64 s - L 10 20).toNatClampNeg
def cNn (M : Io) (L : Ls) (s : Nat) : Nat := if s < 96 ∧ L 61 s ≠ 0 ∧ M 43 0 0 s ≠ 3 then mn M 45 s else 0
abbrev cD (M : Io) (s k : Nat) : Int32 := M 46 0 0 (128 * s + k)
theorem cp_f {M : Io} {L0 : Ls} : ∀ {l : List Nat} {L : Ls}, (∀ s ∈ l, s < 96) → (∀ r k, r ≠ 73 → L r k = L0 r k) → (∀ r k, r ≠ 73 → l.foldl (cpS M) L r k = L0 r k) ∧ ∀ k, l.foldl (cpS M) L 73 k = bwF (cA L0) (cNn M L0) (cD M) l (L 73) k := by
  intro l
  induction l with
  | nil => intro L _ h; exact ⟨h, fun k => rfl⟩
  | cons s l ih =>
    intro L hs h
    have h96 := hs s List.mem_cons_self
    have e : ∀ k, cpS M L s 73 k = bw (cA L0 s) (cNn M L0 s) (cD M s) (L 73) k := fun k => by
      unfold cpS cNn bw
      rw [h 61 s (by decide), h 64 s (by decide), h 10 20 (by decide)]
      by_cases hc : L0 61 s ≠ 0 ∧ M 43 0 0 s ≠ 3
      · rw [if_pos hc, if_pos (show s < 96 ∧ _ from ⟨h96, hc⟩)]
        unfold flF
        by_cases hk : cA L0 s ≤ k ∧ k < cA L0 s + mn M 45 s
        · rw [if_pos ⟨rfl, hk⟩, if_pos hk]
        · rw [if_neg (fun z => hk z.2), if_neg hk]
      · rw [if_neg hc, if_neg (show ¬ (s < 96 ∧ _) from fun z => hc z.2), if_neg (by omega)]
    have e2 : ∀ r k, r ≠ 73 → cpS M L s r k = L0 r k := fun r k hr => by
      unfold cpS
      split
      · unfold flF
        rw [if_neg (fun z => hr z.1)]
        exact h r k hr
      · exact h r k hr
    obtain ⟨i1, i2⟩ := ih (L := cpS M L s) (fun t ht => hs t (List.mem_cons_of_mem _ ht)) e2
    refine ⟨i1, fun k => ?_⟩
    rw [List.foldl_cons, i2 k]
    show bwF _ _ _ l (cpS M L s 73) k = bwF _ _ _ l (bw _ _ _ (L 73)) k
    rw [show cpS M L s 73 = bw (cA L0 s) (cNn M L0 s) (cD M s) (L 73) from funext e]
theorem cop_e {M : Io} {L : Ls} : (∀ r k, r ≠ 73 → copL M L r k = L r k) ∧ ∀ k, k < 4096 → copL M L 73 k = bwF (cA L) (cNn M L) (cD M) (List.range 96) (fun _ => 0) k := by
  have h := cp_f (M := M) (L0 := L) (l := List.range 96) (L := flL L 73 4096 0) (fun s hs => List.mem_range.mp hs) (fun r k hr => if_neg (fun z => hr z.1))
  refine ⟨h.1, fun k hk => ?_⟩
  unfold copL
  rw [h.2 k]
  have hg : flL L 73 4096 0 73 k = (fun _ => (0 : Int32)) k := if_pos ⟨rfl, hk⟩
  have : ∀ (l : List Nat) (g g' : Nat → Int32), g k = g' k → bwF (cA L) (cNn M L) (cD M) l g k = bwF (cA L) (cNn M L) (cD M) l g' k := by
    intro l
    induction l with
    | nil => intro g g' h; exact h
    | cons s l ih =>
      intro g g' h
      refine ih _ _ ?_
      show bw (cA L s) (cNn M L s) (cD M s) g k = bw (cA L s) (cNn M L s) (cD M s) g' k
      unfold bw
      rw [h]
  exact this _ _ _ hg
theorem cov_dj {M : Io} {L : Ls} {b N : Nat} (hl : LY M b N L) (hN : b + N ≤ 2000000) {k s t : Nat} (hs : cA L s ≤ k ∧ k < cA L s + cNn M L s) (ht : cA L t ≤ k ∧ k < cA L t + cNn M L t) (hnp : ∀ s, s < 96 → L 61 s ≠ 0 → L 64 s ≠ -1) : s = t := by
  obtain ⟨h20, e, he, hbe, heN, hP, hD⟩ := hl
  have key : ∀ s, cA L s ≤ k → k < cA L s + cNn M L s → s < 96 ∧ ∃ a, L 64 s = nI a ∧ a < 2147483648 ∧ b ≤ a ∧ cA L s = a - b ∧ cNn M L s = mn M 45 s := fun s h1 h2 => by
    unfold cNn at h2
    by_cases hc : s < 96 ∧ L 61 s ≠ 0 ∧ M 43 0 0 s ≠ 3
    · refine ⟨hc.1, ?_⟩
      rcases hP s hc.1 with g | ⟨_, a, g1, g2, g3⟩
      · exact absurd g (hnp s hc.1 hc.2.1)
      · refine ⟨a, g1, by omega, g2, ?_, if_pos hc⟩
        unfold cA
        rw [g1, h20, pk_sub g2, nI_clamp (by omega)]
    · rw [if_neg hc] at h2
      omega
  obtain ⟨s1, a, s2, s3, s4, s5, s6⟩ := key s hs.1 hs.2
  obtain ⟨t1, a', t2, t3, t4, t5, t6⟩ := key t ht.1 ht.2
  apply Classical.byContradiction
  intro hne
  rcases hD s t s1 t1 hne a a' s3 t3 s2 t2 with g | g <;> omega
theorem Rd.uq {M : Io} {c : Nat} {e : Int32} {L L' : Ls} (hb : ∀ i ∈ sq M 12 47 c, i < 144) (hrc : ∀ i ∈ sq M 12 47 c, M 49 0 0 i ≠ 2 → M 49 0 0 i ≠ 3 → rcI M i < 96) (h : Rd M c e L) (h' : Rd M c e L') : (∀ s, s < 96 → L 61 s = L' 61 s) ∧ (∀ i, i < 144 → L 62 i = L' 62 i) := by
  have half : ∀ {L L' : Ls}, Rd M c e L → Rd M c e L' → (∀ s, s < 96 → L 61 s ≠ 0 → L' 61 s ≠ 0) ∧ (∀ i, i < 144 → L 62 i ≠ 0 → L' 62 i ≠ 0) := by
    intro L L' h h'
    refine ⟨fun s hs hn => ?_, fun i hi hn => ?_⟩
    · obtain ⟨_, i, a, b, d⟩ := (h.1.1 s hs).resolve_left hn
      have := h'.2 i a
      rw [show rcR M i = 61 from if_neg b, d] at this
      exact this
    · obtain ⟨_, a, b⟩ := (h.1.2 i hi).resolve_left hn
      have := h'.2 i a
      rw [show rcR M i = 62 from if_pos b, show rcI M i = i from if_pos b] at this
      exact this
  have h1 := half h h'
  have h2 := half h' h
  refine ⟨fun s hs => ?_, fun i hi => ?_⟩
  · by_cases hn : L 61 s = 0
    · by_cases hn' : L' 61 s = 0
      · rw [hn, hn']
      · exact absurd hn (h2.1 s hs hn')
    · rw [((h.1.1 s hs).resolve_left hn).1, ((h'.1.1 s hs).resolve_left (h1.1 s hs hn)).1]
  · by_cases hn : L 62 i = 0
    · by_cases hn' : L' 62 i = 0
      · rw [hn, hn']
      · exact absurd hn (h2.2 i hi hn')
    · rw [((h.1.2 i hi).resolve_left hn).1, ((h'.1.2 i hi).resolve_left (h1.2 i hi hn)).1]
theorem byL_e {v : Int64} {w k : Nat} : byL v w k = ((v >>> ((8 * (nI w - 1 - nI k)).toInt64 &&& 63)).toInt32) &&& 255 := by
  unfold byL
  generalize v >>> ((8 * (nI w - 1 - nI k)).toInt64 &&& 63) = x
  apply Int32.toBitVec_inj.mp
  rw [Int32.toBitVec_and, Int64.toBitVec_toInt32, Int64.toBitVec_toInt32, Int64.toBitVec_and]
  apply BitVec.eq_of_getLsbD_eq
  intro i hi
  rw [BitVec.getLsbD_and, BitVec.getLsbD_signExtend, BitVec.getLsbD_signExtend, BitVec.getLsbD_and]
  have h64 : i < 64 := by omega
  simp only [hi, h64, if_true, decide_true, Bool.true_and]
  rfl
/-! the end of a linking -/
def PF (ι : Io) (L : Ls) : Prop := ι 0 0 0 15 = L 10 25 ∧ ι 0 0 0 16 = L 10 26 ∧ ι 0 0 0 17 = L 10 27
def PG (ι : Io) (L : Ls) (n : Nat) : Prop := ι 0 0 0 11 = nI n ∧ L 10 29 = nI n ∧ n ≤ 4096 ∧ ι 0 0 0 12 = L 10 30 ∧ ι 0 0 0 13 = L 10 32 ∧ ι 0 0 0 14 = L 10 31 ∧ (∀ k, k < n → ι 31 0 0 k = L 73 k)
def PP (ι : Io) (L : Ls) : Prop := ∀ s, s < 96 → plC ι s = if L 64 s < 0 then -1 else L 64 s - L 10 20
def naL (L : Ls) (x : Int32) (c : Nat) : Int32 := match (List.range c).find? (fun k => L 75 k == x) with
  | some k => L 76 k
  | none => -1
def PN (ι : Io) (L : Ls) (z kn : Nat) : Prop := ι 3 0 0 1 = nI z ∧ z ≤ 144 ∧ (∀ k, k < z → ι 1 k 0 1 = 3 ∨ ι 1 k 0 1 = 2 ∨ ∃ s, s < 96 ∧ ι 1 k 0 2 = nI s) ∧ L 10 34 = nI kn ∧ kn ≤ 144 ∧ (∀ x, naC ι x z = naL L x kn)
def PA (ι : Io) (L : Ls) : Prop := PF ι L ∧ (∃ n, PG ι L n) ∧ PP ι L ∧ ∃ z kn, PN ι L z kn
abbrev lkI (ι : Io) (L : Ls) : Io := up4 (setL ι (if L 10 28 = 0 then up2 L 10 0 3 else L)) 10 0 0 18 0
theorem lk_L {ι : Io} {L : Ls} {r k : Nat} (h : isL r k = true) (hk : ¬ (r = 10 ∧ (k = 0 ∨ k = 18))) : lkI ι L r 0 0 k = L r k := by
  unfold lkI setL
  rw [up4_ne (by omega), if_pos ⟨rfl, rfl, h⟩]
  split
  · exact if_neg (by omega)
  · rfl
theorem lk_o {ι : Io} {L : Ls} {r i j k : Nat} (h : isL r k = false) (hk : ¬ (r = 10 ∧ k = 18)) : lkI ι L r i j k = ι r i j k := by
  unfold lkI setL
  rw [up4_ne (by omega), if_neg (fun z => by rw [h] at z; cases z.2.2)]
def isCl (r : Nat) : Prop := r = 0 ∨ r = 1 ∨ r = 3 ∨ r = 28 ∨ r = 29 ∨ r = 30 ∨ r = 31
/-- what a linking of the class leaves alone -/
def LFr (ι ι1 : Io) : Prop := ∀ r i j k, ¬ isCl r → ι1 r i j k = ι r i j k
def LFq (ρ ρ1 : Ro) : Prop := ∀ r i j k, r ≠ 33 → r ≠ 34 → ρ1 r i j k = ρ r i j k
theorem bd.cg {ι ι' : Io} {r N Mx : Nat} (h : bd ι r N Mx) (e : ∀ k, ι' r 0 0 k = ι r 0 0 k) : bd ι' r N Mx := fun t ht => by rw [e]; exact h t ht
def rc (ι : Io) : Io := fun r i j k => cond (Nat.beq r 0 || Nat.beq r 1 || Nat.beq r 3 || Nat.beq r 28 || Nat.beq r 29 || Nat.beq r 30 || Nat.beq r 31 || Nat.beq r 61 || Nat.beq r 62 || Nat.beq r 63 || Nat.beq r 64 || Nat.beq r 73 || Nat.beq r 75 || Nat.beq r 76 || (Nat.beq r 10 && (Nat.beq k 0 || Nat.beq k 18 || Nat.beq k 20 || Nat.beq k 25 || Nat.beq k 26 || Nat.beq k 27 || Nat.beq k 28 || Nat.beq k 29 || Nat.beq k 30 || Nat.beq k 31 || Nat.beq k 32 || Nat.beq k 34 || Nat.beq k 41))) 0 (ι r i j k)
def rcq (ρ : Ro) : Ro := fun r i j k => cond (Nat.beq r 33 || Nat.beq r 34) none (ρ r i j k)
theorem isL_f {r k : Nat} (h : isL r k = true) : r = 61 ∨ r = 62 ∨ r = 63 ∨ r = 64 ∨ r = 73 ∨ r = 75 ∨ r = 76 ∨ (r = 10 ∧ (k = 0 ∨ k = 20 ∨ k = 25 ∨ k = 26 ∨ k = 27 ∨ k = 28 ∨ k = 29 ∨ k = 30 ∨ k = 31 ∨ k = 32 ∨ k = 34 ∨ k = 41)) := by
  unfold isL at h
  split at h
  · split at h <;> first | omega | (cases h; done)
  all_goals first | omega | (cases h; done)
theorem lk_rc {ι ι1 : Io} {L : Ls} (h : LFr ι ι1) : rc (lkI ι1 L) = rc ι := by
  funext r i j k
  unfold rc
  generalize hb : (Nat.beq r 0 || Nat.beq r 1 || Nat.beq r 3 || Nat.beq r 28 || Nat.beq r 29 || Nat.beq r 30 || Nat.beq r 31 || Nat.beq r 61 || Nat.beq r 62 || Nat.beq r 63 || Nat.beq r 64 || Nat.beq r 73 || Nat.beq r 75 || Nat.beq r 76 || (Nat.beq r 10 && (Nat.beq k 0 || Nat.beq k 18 || Nat.beq k 20 || Nat.beq k 25 || Nat.beq k 26 || Nat.beq k 27 || Nat.beq k 28 || Nat.beq k 29 || Nat.beq k 30 || Nat.beq k 31 || Nat.beq k 32 || Nat.beq k 34 || Nat.beq k 41))) = b
  cases b with
  | true => rfl
  | false =>
    simp only [Bool.or_eq_false_iff, Bool.and_eq_false_iff, nbf] at hb
    have hl : isL r k = false := by
      cases hq : isL r k with
      | false => rfl
      | true => exact absurd (isL_f hq) (by omega)
    show lkI ι1 L r i j k = ι r i j k
    rw [lk_o hl (by omega)]
    exact h r i j k (by unfold isCl; omega)
theorem LFq_rc {ρ ρ1 : Ro} (h : LFq ρ ρ1) : rcq ρ1 = rcq ρ := by
  funext r i j k
  unfold rcq
  generalize hb : (Nat.beq r 33 || Nat.beq r 34) = b
  cases b with
  | true => rfl
  | false =>
    simp only [Bool.or_eq_false_iff, nbf] at hb
    exact h r i j k hb.1 hb.2
theorem IV_lk {ν : Nu} {ι ι1 : Io} {ρ ρ1 : Ro} {N c w n z kn g : Nat} {L : Ls} (h : IV ν ι ρ N c w n z kn g) (hf : LFr ι ι1) (hq : LFq ρ ρ1) (h2 : ι1 0 0 0 2 = 0) (hP : PA ι1 L) : ∃ n' z' kn', IV ν (lkI ι1 L) ρ1 N 0 w n' z' kn' g := by
  obtain ⟨⟨f1, f2, f3⟩, ⟨n', g1, g2, g3, g4, g5, g6, g7⟩, hp, z', kn', k1, k2, k3, k4, k5, k6⟩ := hP
  have er := lk_rc (L := L) hf
  have eq := LFq_rc hq
  have h1 : OS ν (rcq ρ) := h.os
  have hm : MoS ν (rcq ρ) := h.mo
  have hB : BM (rc ι) := h.bm
  have hU : IU ν (rc ι) (rcq ρ) N := h.iu
  have hO : IO (rc ι) w := h.io
  rw [← eq] at h1 hm
  rw [← er] at hB hO
  rw [← er, ← eq] at hU
  refine ⟨n', z', kn', h1, hm, hB, hU, ⟨?_, ?_, by omega, fun k hk => absurd hk (by omega), fun k _ hk => absurd hk (by omega)⟩, hO, ⟨?_, ?_, ?_⟩, ⟨?_, ?_, g3, ?_, ?_, ?_, fun k hk => ?_⟩, fun s hs => ?_, ⟨?_, k2, fun k hk => ?_, ?_, k5, fun x => ?_⟩, h.ir⟩
  · rw [lk_o rfl (by omega)]; exact h2
  · exact up4_s
  · rw [lk_o rfl (by omega), lk_L rfl (by omega)]; exact f1
  · rw [lk_o rfl (by omega), lk_L rfl (by omega)]; exact f2
  · rw [lk_o rfl (by omega), lk_L rfl (by omega)]; exact f3
  · rw [lk_o rfl (by omega)]; exact g1
  · rw [lk_L rfl (by omega)]; exact g2
  · rw [lk_o rfl (by omega), lk_L rfl (by omega)]; exact g4
  · rw [lk_o rfl (by omega), lk_L rfl (by omega)]; exact g5
  · rw [lk_o rfl (by omega), lk_L rfl (by omega)]; exact g6
  · rw [lk_o rfl (by omega), lk_L rfl (by omega)]; exact g7 k hk
  · have e1 : plC (lkI ι1 L) s = plC ι1 s := by
      unfold plC
      rw [lk_o rfl (by omega), lk_o rfl (by omega), lk_o rfl (by omega), lk_o rfl (by omega)]
    rw [e1, hp s hs]
    unfold plM
    rw [lk_L rfl (by omega), lk_L rfl (by omega)]
  · rw [lk_o rfl (by omega)]; exact k1
  · rw [lk_o rfl (by omega), lk_o rfl (by omega)]; exact k3 k hk
  · rw [lk_L rfl (by omega)]; exact k4
  · have e1 : naC (lkI ι1 L) x z' = naC ι1 x z' := by
      have e0 : ∀ k f, lkI ι1 L 1 k 0 f = ι1 1 k 0 f := fun k f => lk_o rfl (by omega)
      have ea : ∀ k, adC (lkI ι1 L) k = adC ι1 k := fun k => by
        unfold adC
        simp only [e0, show ∀ t, lkI ι1 L 28 0 0 t = ι1 28 0 0 t from fun t => lk_o rfl (by omega), show ∀ t, lkI ι1 L 30 0 0 t = ι1 30 0 0 t from fun t => lk_o rfl (by omega)]
      unfold naC
      simp only [e0, ea, show lkI ι1 L 0 0 0 8 = ι1 0 0 0 8 from lk_o rfl (by omega)]
    rw [e1, k6 x]
    unfold naM naL
    simp only [show ∀ t, lkI ι1 L 75 0 0 t = L 75 t from fun t => lk_L rfl (by omega), show ∀ t, lkI ι1 L 76 0 0 t = L 76 t from fun t => lk_L rfl (by omega)]
    generalize (List.range kn').find? (fun k => L 75 k == x) = q
    cases q <;> rfl
/-! a fault -/
theorem PA.flt {ι : Io} {L Lx : Ls} {z : Nat} (h8 : ι 0 0 0 8 = 0) (h11 : ι 0 0 0 11 = 0) (h12 : ι 0 0 0 12 = 0) (h13 : ι 0 0 0 13 = 0) (h14 : ι 0 0 0 14 = 0) (hz : ι 3 0 0 1 = nI z) (hz2 : z ≤ 144) (ht : ∀ k, k < z → ι 1 k 0 1 = 3 ∨ ι 1 k 0 1 = 2 ∨ ∃ s, s < 96 ∧ ι 1 k 0 2 = nI s) (h15 : ι 0 0 0 15 = Lx 10 25) (h16 : ι 0 0 0 16 = Lx 10 26) (h17 : ι 0 0 0 17 = Lx 10 27) (hL : L = noL (up2 Lx 10 28 0)) : PA ι L ∧ L 10 28 = 0 := by
  subst hL
  have e : ∀ k, k = 25 ∨ k = 26 ∨ k = 27 → noL (up2 Lx 10 28 0) 10 k = Lx 10 k := fun k hk => by
    unfold noL flL
    rw [if_neg (by omega), up2_ne (by omega), up2_ne (by omega), up2_ne (by omega), up2_ne (by omega), up2_ne (by omega), up2_ne (by omega), up2_ne (by omega)]
  have e2 : ∀ k, k = 28 ∨ k = 29 ∨ k = 30 ∨ k = 31 ∨ k = 32 ∨ k = 34 → noL (up2 Lx 10 28 0) 10 k = 0 := fun k hk => by
    unfold noL flL
    rw [if_neg (by omega)]
    rcases hk with rfl | rfl | rfl | rfl | rfl | rfl <;> simp (disch := omega) only [up2_ne, up2_s]
  have e3 : ∀ s, s < 96 → noL (up2 Lx 10 28 0) 64 s = -1 := fun s hs => if_pos ⟨rfl, hs⟩
  refine ⟨⟨⟨?_, ?_, ?_⟩, ⟨0, h11, e2 29 (by omega), by omega, ?_, ?_, ?_, fun k hk => absurd hk (by omega)⟩, fun s hs => ?_, z, 0, hz, hz2, ht, e2 34 (by omega), by omega, fun x => ?_⟩, e2 28 (by omega)⟩
  · rw [e 25 (by omega)]; exact h15
  · rw [e 26 (by omega)]; exact h16
  · rw [e 27 (by omega)]; exact h17
  · rw [e2 30 (by omega)]; exact h12
  · rw [e2 32 (by omega)]; exact h13
  · rw [e2 31 (by omega)]; exact h14
  · rw [e3 s hs, if_pos (show (-1 : Int32) < 0 by decide)]
    unfold plC
    exact if_neg (fun z => z.1 h8)
  · unfold naC
    rw [if_pos h8]
    rfl
def B0 (x : Int32) (L : Ls) : Prop := L 10 20 = x ∧ L 10 25 = 0 ∧ L 10 26 = -1 ∧ L 10 27 = -1
theorem LE.f {M : Io} {c : Nat} {L Lf : Ls} (h : LE M c L Lf) (hn : L 10 25 ≠ 0) : Lf = noL (up2 L 10 28 0) := by
  rcases h with h | h
  · exact h.2
  · exact absurd h.1 hn
theorem LE.s {M : Io} {c : Nat} {L Lf : Ls} (h : LE M c L Lf) (hn : L 10 25 = 0) : knI M c (up2 L 10 28 1) (sq M 12 47 c) Lf := by
  rcases h with h | h
  · exact absurd hn h.1
  · exact h.2
theorem ex_db {M : Io} {c i : Nat} {en x : Int32} {L0 Lf : Ls} {l suf : List Nat} (h : LR M c en L0 Lf) (h0 : B0 x L0) (hs : sq M 12 47 c = l ++ i :: suf) (hn : ∀ i ∈ l, ¬ dbB M c i) (hi : dbB M c i) : ∃ Lx, Lf = noL (up2 Lx 10 28 0) ∧ Lx 10 25 = 1 ∧ Lx 10 26 = nI (i / 12) ∧ Lx 10 27 = nI (i % 12) := by
  have e : (sq M 12 47 c).foldl (dbS M c) L0 = tlL L0 1 (nI (i / 12)) (nI (i % 12)) := by rw [hs]; exact db_hit hn hi h0.2.1
  have t := tlL_25 (L := L0) (a := 1) (b := nI (i / 12)) (d := nI (i % 12)) h0.2.1
  unfold LR at h
  rw [e] at h
  refine ⟨_, ?_, t.1, t.2.1, t.2.2.1⟩
  rcases h with h | h
  · exact h.2.f h.1
  · rw [t.1] at h
    exact absurd h.1 (by decide)
theorem lr_1 {M : Io} {c : Nat} {en x : Int32} {L0 Lf : Ls} (h : LR M c en L0 Lf) (h0 : B0 x L0) (hn : ∀ i ∈ sq M 12 47 c, ¬ dbB M c i) : ∃ L1, Rd M c en L1 ∧ (∀ r k, ¬ (r = 61 ∧ k < 96) → ¬ (r = 62 ∧ k < 144) → L1 r k = (if me M c en < 0 then tlL L0 2 (-1) en else L0) r k) ∧ LR2 M c ((sq M 16 52 c).foldl (miS M c) L1) Lf := by
  unfold LR at h
  rw [db_no hn] at h
  rcases h with h | h
  · exact absurd h0.2.1 h.1
  · exact h.2
theorem ex_en {M : Io} {c : Nat} {en x : Int32} {L0 Lf : Ls} (h : LR M c en L0 Lf) (h0 : B0 x L0) (hn : ∀ i ∈ sq M 12 47 c, ¬ dbB M c i) (hm : me M c en < 0) : ∃ Lx, Lf = noL (up2 Lx 10 28 0) ∧ Lx 10 25 = 2 ∧ Lx 10 26 = -1 ∧ Lx 10 27 = en := by
  obtain ⟨L1, _, hf, h2⟩ := lr_1 h h0 hn
  have t := tlL_25 (L := L0) (a := 2) (b := -1) (d := en) h0.2.1
  have e : ∀ k, L1 10 k = tlL L0 2 (-1) en 10 k := fun k => by rw [hf 10 k (by omega) (by omega), if_pos hm]
  have e2 : (sq M 16 52 c).foldl (miS M c) L1 = L1 := fd_no (fun j _ => by
    unfold miS
    split
    · exact tlL_st (by rw [e, t.1]; decide)
    · rfl)
  rw [e2] at h2
  refine ⟨L1, ?_, by rw [e]; exact t.1, by rw [e]; exact t.2.1, by rw [e]; exact t.2.2.1⟩
  have h25 : L1 10 25 ≠ 0 := by rw [e, t.1]; decide
  rcases h2 with h2 | h2
  · exact h2.2.f h2.1
  · exact absurd h2.1 h25
theorem lr_2 {M ι : Io} {c : Nat} {en x : Int32} {L0 Lf : Ls} {kx : Nat → Nat} (h : LR M c en L0 Lf) (h0 : B0 x L0) (hb : ∀ i ∈ sq M 12 47 c, i < 144) (hrc : ∀ i ∈ sq M 12 47 c, M 49 0 0 i ≠ 2 → M 49 0 0 i ≠ 3 → rcI M i < 96) (hn : ∀ i ∈ sq M 12 47 c, ¬ dbB M c i) (hm : ¬ me M c en < 0) (hr : Rd M c en (mkL M ι c kx L0)) : LR2 M c ((sq M 16 52 c).foldl (miS M c) (mkL M ι c kx L0)) Lf := by
  obtain ⟨L1, h1, hf, h2⟩ := lr_1 h h0 hn
  have u := Rd.uq hb hrc h1 hr
  have : L1 = mkL M ι c kx L0 := by
    funext r k
    by_cases ha : r = 61 ∧ k < 96
    · obtain ⟨rfl, hk⟩ := ha
      exact u.1 k hk
    · by_cases hc : r = 62 ∧ k < 144
      · obtain ⟨rfl, hk⟩ := hc
        exact u.2 k hk
      · rw [hf r k ha hc, if_neg hm]
        unfold mkL
        rw [if_neg ha, if_neg hc]
  rw [this] at h2
  exact h2
theorem mk10 {M ι : Io} {c : Nat} {kx : Nat → Nat} {L : Ls} {k : Nat} : mkL M ι c kx L 10 k = L 10 k := by
  unfold mkL
  rw [if_neg (by omega), if_neg (by omega)]
theorem ex_mi {M ι : Io} {c j : Nat} {x : Int32} {L1 Lf : Ls} {l suf : List Nat} (h : LR2 M c ((sq M 16 52 c).foldl (miS M c) L1) Lf) (h0 : B0 x L1) (hs : sq M 16 52 c = l ++ j :: suf) (hn : ∀ j ∈ l, ¬ (L1 61 (slR M j) ≠ 0 ∧ meR M c j < 0)) (hj : L1 61 (slR M j) ≠ 0 ∧ meR M c j < 0) : ∃ Lx, Lf = noL (up2 Lx 10 28 0) ∧ Lx 10 25 = 2 ∧ Lx 10 26 = nI (j / 16) ∧ Lx 10 27 = nI (j % 16) := by
  rw [hs, mi_hit hn hj h0.2.1] at h
  have t := tlL_25 (L := L1) (a := 2) (b := nI (j / 16)) (d := nI (j % 16)) h0.2.1
  refine ⟨_, ?_, t.1, t.2.1, t.2.2.1⟩
  rcases h with h | h
  · exact h.2.f h.1
  · rw [t.1] at h
    exact absurd h.1 (by decide)
theorem lr_3 {M : Io} {c : Nat} {x : Int32} {L1 Lf : Ls} (h : LR2 M c ((sq M 16 52 c).foldl (miS M c) L1) Lf) (h0 : B0 x L1) (hn : ∀ j ∈ sq M 16 52 c, ¬ (L1 61 (slR M j) ≠ 0 ∧ meR M c j < 0)) : LR3 M c (ordL M c L1) Lf := by
  rw [mi_no hn] at h
  rcases h with h | h
  · exact absurd h0.2.1 h.1
  · exact h.2
/-- the image laid out, before its length is judged -/
abbrev orL (M : Io) (c : Nat) (L : Ls) : Ls := (sq M 12 47 c).foldl (comS M c) (kinL M c 4 (bgL L))
theorem fr_k {M : Io} {c n : Nat} {L : Ls} {k : Nat} (hk : k = 20 ∨ k = 25 ∨ k = 26 ∨ k = 27) : kinL M c n L 10 k = L 10 k := kin_fr (fun a s L => by
  unfold secS
  split
  · unfold nxL
    rcases hk with rfl | rfl | rfl | rfl <;> simp (disch := omega) only [up2_ne]
  · rfl)
theorem fr_c {M : Io} {c : Nat} {l : List Nat} {L : Ls} {k : Nat} (hk : k = 20 ∨ k = 25 ∨ k = 26 ∨ k = 27) : l.foldl (comS M c) L 10 k = L 10 k := fold_fr (fun L s => by
  unfold comS
  split
  · unfold nxL
    rcases hk with rfl | rfl | rfl | rfl <;> simp (disch := omega) only [up2_ne]
  · rfl)
theorem or_10 {M : Io} {c : Nat} {L : Ls} {k : Nat} (hk : k = 20 ∨ k = 25 ∨ k = 26 ∨ k = 27) : orL M c L 10 k = L 10 k := by
  unfold orL
  rw [fr_c hk, fr_k hk]
  unfold bgL bg0 flL
  rw [if_neg (by omega)]
  rcases hk with rfl | rfl | rfl | rfl <;> simp (disch := omega) only [up2_ne]
theorem ex_lo {M : Io} {c : Nat} {x : Int32} {L1 Lf : Ls} (h : LR3 M c (ordL M c L1) Lf) (h0 : B0 x L1) (hl : 4096 < orL M c L1 10 41 - orL M c L1 10 20) : ∃ Lx, Lf = noL (up2 Lx 10 28 0) ∧ Lx 10 25 = 6 ∧ Lx 10 26 = -1 ∧ Lx 10 27 = -1 := by
  have e : ordL M c L1 = tlL (up2 (orL M c L1) 10 29 (orL M c L1 10 41 - orL M c L1 10 20)) 6 (-1) (-1) := if_pos hl
  have t := tlL_25 (L := up2 (orL M c L1) 10 29 (orL M c L1 10 41 - orL M c L1 10 20)) (a := 6) (b := -1) (d := -1) (by rw [up2_ne (by omega), or_10 (by omega)]; exact h0.2.1)
  rw [e] at h
  refine ⟨_, ?_, t.1, t.2.1, t.2.2.1⟩
  rcases h with h | h
  · exact h.2.f h.1
  · rw [t.1] at h
    exact absurd h.1 (by decide)
abbrev oeL (M : Io) (c : Nat) (L : Ls) : Ls := up2 (orL M c L) 10 29 (orL M c L 10 41 - orL M c L 10 20)
theorem ord_e {M : Io} {c : Nat} {L1 : Ls} (hl : ¬ 4096 < orL M c L1 10 41 - orL M c L1 10 20) : ordL M c L1 = oeL M c L1 := if_neg hl
theorem lr_4 {M : Io} {c : Nat} {x : Int32} {L1 Lf : Ls} (h : LR3 M c (ordL M c L1) Lf) (h0 : B0 x L1) (hl : ¬ 4096 < orL M c L1 10 41 - orL M c L1 10 20) : LE M c ((sq M 16 52 c).foldl (wkT M c) (copL M (oeL M c L1))) Lf := by
  rw [ord_e hl] at h
  have h25 : oeL M c L1 10 25 = 0 := by
    unfold oeL
    rw [up2_ne (by omega), or_10 (by omega)]
    exact h0.2.1
  rcases h with h | h
  · exact absurd h25 h.1
  · exact h.2
theorem tl_fr {L : Ls} {a b d : Int32} {r k : Nat} (h : ¬ (r = 10 ∧ (k = 25 ∨ k = 26 ∨ k = 27))) : tlL L a b d r k = L r k := by
  unfold tlL
  split
  · rfl
  · rw [up2_ne (by omega), up2_ne (by omega), up2_ne (by omega)]
theorem pu_fr {L : Ls} {q : Int32} {v : Int64} {w r k : Nat} (h : r ≠ 73) : puL L q v w r k = L r k := by
  unfold puL flF
  exact if_neg (fun z => h z.1)
theorem t0_fr {L : Ls} {f a b : Int32} {r k : Nat} (h : ¬ (r = 10 ∧ (k = 25 ∨ k = 26 ∨ k = 27))) : tl0 L f a b r k = L r k := by
  unfold tl0
  split
  · rfl
  · exact tl_fr h
theorem wk_fr {M : Io} {c j : Nat} {L : Ls} {r k : Nat} (h : r ≠ 73) (h2 : ¬ (r = 10 ∧ (k = 25 ∨ k = 26 ∨ k = 27))) : wkT M c L j r k = L r k := by
  unfold wkT
  split
  · unfold wkS
    split
    · exact tl_fr h2
    · rw [pu_fr h]
      exact t0_fr h2
  · rfl
theorem wk_f {M : Io} {c j : Nat} {L : Ls} {f : Int32} (h0 : L 10 25 = 0) (hr : L 61 (slR M j) ≠ 0) (hf : f ≠ 0) (hc : (mn M 45 (slR M j) < mn M 54 j + wd (mn M 55 j) ∧ f = 3) ∨ (¬ mn M 45 (slR M j) < mn M 54 j + wd (mn M 55 j) ∧ f = fltV (mn M 55 j) (sm M c L j) (ap M c L j))) : wkT M c L j 10 25 = f ∧ wkT M c L j 10 26 = nI (j / 16) ∧ wkT M c L j 10 27 = nI (j % 16) := by
  unfold wkT
  rw [if_pos ⟨h0, hr⟩]
  unfold wkS
  rcases hc with ⟨h1, rfl⟩ | ⟨h1, rfl⟩
  · rw [if_pos h1]
    exact ⟨(tlL_25 h0).1, (tlL_25 h0).2.1, (tlL_25 h0).2.2.1⟩
  · rw [if_neg h1, pu_fr (by decide), pu_fr (by decide), pu_fr (by decide)]
    unfold tl0
    rw [if_neg hf]
    exact ⟨(tlL_25 h0).1, (tlL_25 h0).2.1, (tlL_25 h0).2.2.1⟩
theorem wks_fr {M : Io} {c : Nat} {l : List Nat} {L : Ls} {r k : Nat} (h : r ≠ 73) (h2 : ¬ (r = 10 ∧ (k = 25 ∨ k = 26 ∨ k = 27))) : l.foldl (wkT M c) L r k = L r k := fold_fr (fun L s => wk_fr h h2)
theorem wk_st {M : Io} {c : Nat} {l : List Nat} {L : Ls} (h : L 10 25 ≠ 0) : l.foldl (wkT M c) L = L := fd_no (fun j _ => if_neg (fun z => h z.1))
theorem ex_wk {M : Io} {c j : Nat} {L2 Lf : Ls} {l suf : List Nat} {f : Int32} (h : LE M c ((sq M 16 52 c).foldl (wkT M c) L2) Lf) (hs : sq M 16 52 c = l ++ j :: suf) (h0 : l.foldl (wkT M c) L2 10 25 = 0) (hr : l.foldl (wkT M c) L2 61 (slR M j) ≠ 0) (hf : f ≠ 0) (hc : (mn M 45 (slR M j) < mn M 54 j + wd (mn M 55 j) ∧ f = 3) ∨ (¬ mn M 45 (slR M j) < mn M 54 j + wd (mn M 55 j) ∧ f = fltV (mn M 55 j) (sm M c (l.foldl (wkT M c) L2) j) (ap M c (l.foldl (wkT M c) L2) j))) : ∃ Lx, Lf = noL (up2 Lx 10 28 0) ∧ Lx 10 25 = f ∧ Lx 10 26 = nI (j / 16) ∧ Lx 10 27 = nI (j % 16) := by
  have key := wk_f (M := M) (c := c) h0 hr hf hc
  have e : (sq M 16 52 c).foldl (wkT M c) L2 = wkT M c (l.foldl (wkT M c) L2) j := by
    rw [hs, List.foldl_append, List.foldl_cons]
    exact wk_st (by rw [key.1]; exact hf)
  rw [e] at h
  exact ⟨_, h.f (by rw [key.1]; exact hf), key⟩
theorem wk_ok {M : Io} {c j : Nat} {L : Ls} (h0 : L 10 25 = 0) (hr : L 61 (slR M j) ≠ 0) (h1 : ¬ mn M 45 (slR M j) < mn M 54 j + wd (mn M 55 j)) (hf : fltV (mn M 55 j) (sm M c L j) (ap M c L j) = 0) : wkT M c L j = puL L (pR M L j) (vluV (mn M 55 j) (sm M c L j) (ap M c L j)) (wd (mn M 55 j)) := by
  unfold wkT
  rw [if_pos ⟨h0, hr⟩]
  unfold wkS
  rw [if_neg h1]
  unfold tl0
  rw [if_pos hf]
theorem wk_nr {M : Io} {c j : Nat} {L : Ls} (hr : L 61 (slR M j) = 0) : wkT M c L j = L := if_neg (fun z => z.2 hr)
/-! the addresses -/
def FN (M ι : Io) (ρ : Ro) (c z : Nat) (kx : Nat → Nat) (L : Ls) : Prop := T3 M ι ρ (sq M 12 47 c) z kx ∧ LC ι L ∧ (∀ i ∈ sq M 12 47 c, M 49 0 0 i = 2 → ixm M (sq M 12 47 c) (M 48 0 0 i) = some i → ι 1 (kx i) 0 7 = if L 62 i = 0 then -1 else L 63 i) ∧ (∀ s, s < 96 → L 61 s ≠ 0 → L 64 s ≠ -1) ∧ (∀ s, s < 96 → L 61 s = 0 → L 64 s = -1)
theorem rc_n2 {M : Io} {i : Nat} (h : M 49 0 0 i ≠ 2) : rcI M i = 8 * (i / 12) + mn M 50 i := if_neg h
theorem FN.ad {M ι : Io} {ρ : Ro} {c z k : Nat} {kx : Nat → Nat} {L : Ls} (h : FN M ι ρ c z kx L) (hb : ∀ i ∈ sq M 12 47 c, i < 144) (hrc : ∀ i ∈ sq M 12 47 c, M 49 0 0 i ≠ 2 → M 49 0 0 i ≠ 3 → rcI M i < 96) (hk : k < z) : adC ι k = pmL M L (me M c (ι 1 k 0 0)) := by
  obtain ⟨hT, hL, hA, hP, hQ⟩ := h
  obtain ⟨m1, m2, m3⟩ := hT.2.2.2.2.2.1 k hk
  unfold adC pmL
  rw [m1]
  by_cases h3 : srt M (sq M 12 47 c) (ι 1 k 0 0) = 3
  · rw [if_pos h3, if_pos ((me_neg hb).mpr h3)]
  · rw [if_neg h3, if_neg (fun z => h3 ((me_neg hb).mp z))]
    cases hx : ixm M (sq M 12 47 c) (ι 1 k 0 0) with
    | none => exact absurd (ixm_3.mp hx) h3
    | some i =>
      obtain ⟨i1, i2, i3⟩ := ixm_k hx
      rw [me_of hb hx, nI_clamp (by have := hb i i1; omega), ← i3]
      by_cases h2 : M 49 0 0 i = 2
      · rw [if_pos h2, if_pos h2]
        obtain ⟨p1, p2, _⟩ := hT.2.2.1 i i1
        have : kx i = k := hT.2.2.2.2.1 _ _ p1 hk (by rw [p2, i2])
        rw [← this]
        exact hA i i1 h2 (by rw [i2]; exact hx)
      · rw [if_neg h2, if_neg h2]
        have hr := hrc i i1 h2 (by rw [i3]; exact h3)
        obtain ⟨a1, a2⟩ := m2 i hx h2
        rw [a1, a2]
        show (if ι 28 0 0 ((nI (rcI M i)).toNatClampNeg) = 0 then -1 else ι 30 0 0 ((nI (rcI M i)).toNatClampNeg) + M 51 0 0 i) = _
        rw [nI_clamp (by omega), ← rc_n2 h2, hL.2.2.2.2.2.2 _ hr]
        by_cases h0 : L 61 (rcI M i) = 0
        · rw [if_pos h0, if_pos h0]
        · rw [if_neg h0, if_neg h0, hL.2.2.2.2.2.1 _ hr (hP _ hr h0)]
theorem find_r {n k : Nat} {p : Nat → Bool} (hk : k < n) (hp : p k = true) : ∃ t, (List.range n).find? p = some t ∧ t < n ∧ p t = true := by
  cases h : (List.range n).find? p with
  | none => exact absurd hp (by have := List.find?_eq_none.mp h k (List.mem_range.mpr hk); exact this)
  | some t => exact ⟨t, rfl, List.mem_range.mp (List.mem_of_find?_eq_some h), List.find?_some h⟩
theorem find_rn {n : Nat} {p : Nat → Bool} (hp : ∀ k, k < n → p k = false) : (List.range n).find? p = none := List.find?_eq_none.mpr (fun k hk => by rw [hp k (List.mem_range.mp hk)]; decide)
theorem PA.ok {M ι : Io} {ρ : Ro} {c z n b N : Nat} {kx : Nat → Nat} {L Lf : Ls} (h : FN M ι ρ c z kx L) (hb : ∀ i ∈ sq M 12 47 c, i < 144) (hrc : ∀ i ∈ sq M 12 47 c, M 49 0 0 i ≠ 2 → M 49 0 0 i ≠ 3 → rcI M i < 96) (hlen : (sq M 12 47 c).length ≤ 144) (hk : knI M c (up2 L 10 28 1) (sq M 12 47 c) Lf) (h8 : ι 0 0 0 8 = 1) (h15 : ι 0 0 0 15 = L 10 25) (h16 : ι 0 0 0 16 = L 10 26) (h17 : ι 0 0 0 17 = L 10 27) (hn : L 10 41 - L 10 20 = nI n) (hn4 : n ≤ 4096) (h29 : L 10 29 = nI n) (hc : ∀ k, k < n → ι 31 0 0 k = L 73 k) (hY : LY M b N L) (hN : b + N ≤ 2000000) : PA ι Lf ∧ Lf 10 28 = 1 := by
  have had := fun k hk => h.ad (k := k) hb hrc hk
  obtain ⟨hT, hL, hA, hP, hQ⟩ := h
  obtain ⟨k1, k2, k3⟩ := hk
  have e : ∀ r k, r ≠ 75 → r ≠ 76 → ¬ (r = 10 ∧ (k = 34 ∨ k = 28)) → Lf r k = L r k := fun r k h1 h2 h3 => by
    rw [k3 r k (fun z => h1 z.1) (fun z => h2 z.1) (fun z => h3 ⟨z.1, Or.inl z.2⟩), up2_ne (fun z => h3 ⟨z.1, Or.inr z.2⟩)]
  obtain ⟨h20, e9, he9, hbe, heN, hPl, hDj⟩ := hY
  refine ⟨⟨⟨?_, ?_, ?_⟩, ⟨n, ?_, ?_, hn4, ?_, ?_, ?_, fun k hk => ?_⟩, fun s hs => ?_, z, (sq M 12 47 c).length, hT.1, Nat.le_trans hT.2.1 hlen, fun k hk => ?_, k1, hlen, fun x => ?_⟩, ?_⟩
  · rw [e 10 25 (by decide) (by decide) (by omega)]; exact h15
  · rw [e 10 26 (by decide) (by decide) (by omega)]; exact h16
  · rw [e 10 27 (by decide) (by decide) (by omega)]; exact h17
  · rw [hL.2.1]; exact hn
  · rw [e 10 29 (by decide) (by decide) (by omega)]; exact h29
  · rw [e 10 30 (by decide) (by decide) (by omega)]; exact hL.2.2.1
  · rw [e 10 32 (by decide) (by decide) (by omega)]; exact hL.2.2.2.1
  · rw [e 10 31 (by decide) (by decide) (by omega)]; exact hL.2.2.2.2.1
  · rw [e 73 k (by decide) (by decide) (by omega)]; exact hc k hk
  · rw [e 64 s (by decide) (by decide) (by omega), e 10 20 (by decide) (by decide) (by omega)]
    unfold plC
    rw [h8, hL.2.2.2.2.2.2 s hs, hL.1]
    by_cases h0 : L 61 s = 0
    · rw [if_neg (fun z => z.2 h0), hQ s hs h0, if_pos (show (-1 : Int32) < 0 by decide)]
    · rw [if_pos ⟨by decide, h0⟩, hL.2.2.2.2.2.1 s hs (hP s hs h0)]
      rcases hPl s hs with g | ⟨_, a, g1, g2, g3⟩
      · exact absurd g (hP s hs h0)
      · rw [if_neg]
        rw [g1]
        exact nI_nneg (by omega)
  · obtain ⟨m1, m2, m3⟩ := hT.2.2.2.2.2.1 k hk
    rcases srt_4 (ι := M) (l := sq M 12 47 c) (x := ι 1 k 0 0) with g | g | g | g
    · cases hx : ixm M (sq M 12 47 c) (ι 1 k 0 0) with
      | none => rw [ixm_3.mp hx] at g; exact absurd g (by decide)
      | some i =>
        obtain ⟨i1, i2, i3⟩ := ixm_k hx
        have hne : M 49 0 0 i ≠ 2 := by rw [i3, g]; decide
        exact Or.inr (Or.inr ⟨rcI M i, hrc i i1 hne (by rw [i3, g]; decide), (m2 i hx hne).1⟩)
    · cases hx : ixm M (sq M 12 47 c) (ι 1 k 0 0) with
      | none => rw [ixm_3.mp hx] at g; exact absurd g (by decide)
      | some i =>
        obtain ⟨i1, i2, i3⟩ := ixm_k hx
        have hne : M 49 0 0 i ≠ 2 := by rw [i3, g]; decide
        exact Or.inr (Or.inr ⟨rcI M i, hrc i i1 hne (by rw [i3, g]; decide), (m2 i hx hne).1⟩)
    · exact Or.inr (Or.inl (m1.trans g))
    · exact Or.inl (m1.trans g)
  · unfold naC naL
    rw [h8, if_neg (by decide)]
    by_cases hx : ∃ k, k < z ∧ ι 1 k 0 0 = x
    · obtain ⟨k, hk, ek⟩ := hx
      obtain ⟨k', f1, f2, f3⟩ := find_r (p := fun k => ι 1 k 0 0 == x) hk (by simp [ek])
      rw [f1]
      obtain ⟨i, i1, i2⟩ := hT.2.2.2.1 k hk
      obtain ⟨t, t1, t2⟩ := List.getElem_of_mem i1
      obtain ⟨t', q1, q2, q3⟩ := find_r (p := fun t => Lf 75 t == x) t1 (by rw [(k2 t t1).1, t2, i2, ek]; simp)
      rw [q1]
      have q4 : Lf 75 t' = x := by simpa using q3
      have f4 : ι 1 k' 0 0 = x := by simpa using f3
      show adC ι k' = Lf 76 t'
      rw [had k' f2, f4, (k2 t' q2).2, ← (k2 t' q2).1, q4]
      rfl
    · rw [find_rn (fun k hk => by simpa using fun z9 => hx ⟨k, hk, z9⟩), find_rn (fun t ht => by
        rw [(k2 t ht).1]
        simp only [beq_eq_false_iff_ne, ne_eq]
        intro z9
        obtain ⟨p1, p2, _⟩ := hT.2.2.1 _ (List.getElem_mem ht)
        exact hx ⟨_, p1, p2.trans z9⟩)]
  · rw [k3 10 28 (by omega) (by omega) (by omega), up2_s]
theorem fnd_of {ι : Io} {x : Int32} {z k : Nat} (hk : k < z) (h : ι 1 k 0 0 = x) (hd : ∀ a b, a < z → b < z → ι 1 a 0 0 = ι 1 b 0 0 → a = b) : fnd ι x z = some k := by
  obtain ⟨t, h1, h2, h3⟩ := find_r (p := fun k => ι 1 k 0 0 == x) hk (by simp [h])
  have : ι 1 t 0 0 = x := by simpa using h3
  unfold fnd
  rw [h1, hd t k h2 hk (this.trans h.symm)]
theorem fnd_no {ι : Io} {x : Int32} {z : Nat} (h : ∀ k, k < z → ¬ ι 1 k 0 0 = x) : fnd ι x z = none := find_rn (fun k hk => by simpa using h k hk)
/-- which cells may change -/
def Eqx (P : Nat → Nat → Prop) (ι ι1 : Io) : Prop := ∀ r i j k, ¬ P r k → ι1 r i j k = ι r i j k
theorem Eqx.rf {P : Nat → Nat → Prop} {ι : Io} : Eqx P ι ι := fun _ _ _ _ _ => rfl
theorem Eqx.up {P : Nat → Nat → Prop} {ι ι1 : Io} {r i j k : Nat} {x : Int32} (h : Eqx P ι ι1) (hp : P r k) : Eqx P ι (up4 ι1 r i j k x) := fun r' i' j' k' hn => by
  rw [up4_ne (fun z => hn (by rw [z.1, z.2.2.2]; exact hp))]
  exact h r' i' j' k' hn
theorem Eqx.tr {P : Nat → Nat → Prop} {ι ι1 ι2 : Io} (h : Eqx P ι ι1) (h2 : Eqx P ι1 ι2) : Eqx P ι ι2 := fun r i j k hn => (h2 r i j k hn).trans (h r i j k hn)
theorem Eqx.mo {P Q : Nat → Nat → Prop} {ι ι1 : Io} (h : Eqx P ι ι1) (hq : ∀ r k, P r k → Q r k) : Eqx Q ι ι1 := fun r i j k hn => h r i j k (fun z => hn (hq r k z))
/-- the state inside of a linking -/
def CuL (M ι : Io) (ρ0 ρ : Ro) (c : Nat) : Prop := LFr M ι ∧ LFq ρ0 ρ ∧ ι 0 0 0 2 = nI c
theorem CuL.os {M ι : Io} {ν : Nu} {ρ0 ρ : Ro} {c : Nat} (h : CuL M ι ρ0 ρ c) (hO : OS ν ρ0) : OS ν ρ := by
  have h1 : OS ν (rcq ρ0) := hO
  rw [← LFq_rc h.2.1] at h1
  exact h1
theorem isU.cl {r : Nat} (h : isU r) : ¬ isCl r ∧ r ≠ 33 ∧ r ≠ 34 := by unfold isU at h; unfold isCl; omega
theorem CuL.un {M ι : Io} {ν : Nu} {ρ0 ρ : Ro} {N c w n z kn g k : Nat} (h : CuL M ι ρ0 ρ c) (hI : IV ν M ρ0 N c w n z kn g) (hk : k < c) : mn M 59 k < N ∧ ι 27 0 0 k = nI (mn M 59 k) ∧ ρ 26 0 0 (mn M 59 k) = some (8, mn M 59 k, 0) ∧ UI ν ι ρ (mn M 59 k) (mn M 42 (mn M 59 k)) (mn M 47 (mn M 59 k)) (mn M 52 (mn M 59 k)) := by
  have hc := hI.ic.2.2.1
  obtain ⟨h1, h2, h3⟩ := hI.ic.2.2.2.1 k hk
  refine ⟨h2, ?_, ?_, ?_⟩
  · rw [h.1 27 0 0 k (by unfold isCl; omega), h1]
    exact hI.bm.2.2.eq (by omega)
  · rw [h.2.1 26 0 0 _ (by decide) (by decide)]
    exact h3
  · exact (hI.um h2).cg (fun _ _ _ => rfl) (fun r j t hr => h.1 r _ j t hr.cl.1) (fun r j t hr => h.2.1 r _ j t hr.cl.2.1 hr.cl.2.2)
theorem CuL.up {M ι : Io} {ρ0 ρ : Ro} {c r i j k : Nat} {x : Int32} (h : CuL M ι ρ0 ρ c) (hr : isCl r) (hk : ¬ (r = 0 ∧ k = 2)) : CuL M (up4 ι r i j k x) ρ0 ρ c := by
  refine ⟨fun r' i' j' k' hn => ?_, h.2.1, ?_⟩
  · rw [up4_ne (fun z => hn (by rw [z.1]; exact hr))]
    exact h.1 r' i' j' k' hn
  · rw [up4_ne (by omega)]
    exact h.2.2
theorem CuL.eqx {M ι ι1 : Io} {ρ0 ρ ρ1 : Ro} {c : Nat} {P : Nat → Nat → Prop} (h : CuL M ι ρ0 ρ c) (he : Eqx P ι ι1) (hp : ∀ r k, P r k → isCl r ∧ ¬ (r = 0 ∧ k = 2)) (hq : LFq ρ ρ1) : CuL M ι1 ρ0 ρ1 c := by
  refine ⟨fun r i j k hn => ?_, fun r i j k h1 h2 => (hq r i j k h1 h2).trans (h.2.1 r i j k h1 h2), ?_⟩
  · rw [he r i j k (fun z => hn (hp r k z).1)]
    exact h.1 r i j k hn
  · rw [he 0 0 0 2 (fun z => (hp 0 2 z).2 ⟨rfl, rfl⟩)]
    exact h.2.2
theorem LFq.rf {ρ : Ro} : LFq ρ ρ := fun _ _ _ _ _ _ => rfl
theorem LFq.up {ρ ρ1 : Ro} {r i j k : Nat} {x : Option Pt3} (h : LFq ρ ρ1) (hr : r = 33 ∨ r = 34) : LFq ρ (up4 ρ1 r i j k x) := fun r' i' j' k' h1 h2 => by
  rw [up4_ne (by omega)]
  exact h r' i' j' k' h1 h2
theorem LFq.tr {ρ ρ1 ρ2 : Ro} (h : LFq ρ ρ1) (h2 : LFq ρ1 ρ2) : LFq ρ ρ2 := fun r i j k a b => (h2 r i j k a b).trans (h r i j k a b)
theorem IV.lk {ν : Nu} {M : Io} {ρ : Ro} {N c w n z kn g : Nat} (h : IV ν M ρ N c w n z kn g) : LK M c := ⟨h.ic.2.1, h.ic.2.2.1, h.bm.2.2, h.bd.b47, h.bd.b42, h.bd.b52, h.bd.b43, h.bd.b44, h.bd.b45, h.bd.b50, h.bd.b51, h.bd.b53, h.bd.b54, h.bd.b55, h.bd.b56⟩
theorem IV.nd {ν : Nu} {M : Io} {ρ : Ro} {N c w n z kn g : Nat} (h : IV ν M ρ N c w n z kn g) : NDc M c := h.ic.2.2.2.2
theorem IV.nb {ν : Nu} {M : Io} {ρ : Ro} {N c w n z kn g : Nat} (h : IV ν M ρ N c w n z kn g) : ∀ i ∈ sq M 12 47 c, i < 144 := fun i hi => h.lk.nm hi
theorem IV.di {ν : Nu} {M : Io} {ρ : Ro} {N c w n z kn g : Nat} (h : IV ν M ρ N c w n z kn g) : DI M c := by
  have hB := h.bd
  have hc := h.ic.2.2.1
  have hN := h.N12
  refine ⟨fun i hi h2 h3 => ?_, fun j hj => ?_⟩
  · obtain ⟨k, hk, h4⟩ := List.mem_flatMap.mp hi
    rw [List.mem_range] at hk
    obtain ⟨t, ht, rfl⟩ := List.mem_map.mp h4
    rw [List.mem_range] at ht
    have ho := (h.ic.2.2.2.1 k hk).2.1
    have l := hB.b47.le (t := mn M 59 k) (by omega)
    rw [show (12 * mn M 59 k + t) / 12 = mn M 59 k by omega]
    exact (h.dd ho).1 t ht h2 h3
  · obtain ⟨k, hk, h4⟩ := List.mem_flatMap.mp hj
    rw [List.mem_range] at hk
    obtain ⟨t, ht, rfl⟩ := List.mem_map.mp h4
    rw [List.mem_range] at ht
    have ho := (h.ic.2.2.2.1 k hk).2.1
    have l := hB.b52.le (t := mn M 59 k) (by omega)
    rw [show (16 * mn M 59 k + t) / 16 = mn M 59 k by omega]
    exact (h.dd ho).2 t ht
theorem IV.rc {ν : Nu} {M : Io} {ρ : Ro} {N c w n z kn g : Nat} (h : IV ν M ρ N c w n z kn g) : ∀ i ∈ sq M 12 47 c, M 49 0 0 i ≠ 2 → M 49 0 0 i ≠ 3 → rcI M i < 96 := fun i hi h2 h3 => by
  have h4 := h.di.1 i hi h2 h3
  have hi2 := h.nb i hi
  have := h.bd.b42.le (t := i / 12) (by omega)
  rw [rc_n2 h2]
  omega
theorem sq_el {M : Io} {m fld c i : Nat} (hi : i ∈ sq M m fld c) : ∃ k t, k < c ∧ t < mn M fld (mn M 59 k) ∧ i = m * mn M 59 k + t := by
  obtain ⟨k, hk, h4⟩ := List.mem_flatMap.mp hi
  rw [List.mem_range] at hk
  obtain ⟨t, ht, rfl⟩ := List.mem_map.mp h4
  exact ⟨k, t, hk, List.mem_range.mp ht, rfl⟩
theorem cm_in {M : Io} {l : List Nat} {i : Nat} (h0 : fs M l (M 48 0 0 i) 0 = none) (h2 : fs M l (M 48 0 0 i) 2 = some i) : i ∈ cmL M l := by
  have : ∀ n (l : List Nat), l.length = n → fs M l (M 48 0 0 i) 0 = none → fs M l (M 48 0 0 i) 2 = some i → i ∈ cmL M l := by
    intro n
    induction n with
    | zero =>
      intro l h _ h2
      rw [List.length_eq_zero_iff.mp h] at h2
      cases h2
    | succ n ih =>
      intro l h h0 h2
      have hne : l ≠ [] := by intro z; rw [z] at h; cases h
      have hd : l.dropLast.length = n := by simp [h]
      have hl := List.dropLast_concat_getLast hne
      generalize l.getLast hne = j at hl
      rw [← hl] at h0 h2 ⊢
      rw [fs_s] at h0 h2
      rw [cmL_s]
      have g0 : fs M l.dropLast (M 48 0 0 i) 0 = none := by
        cases hf : fs M l.dropLast (M 48 0 0 i) 0 with
        | none => rfl
        | some a => rw [hf] at h0; cases h0
      cases hf : fs M l.dropLast (M 48 0 0 i) 2 with
      | some a =>
        rw [hf] at h2
        simp at h2
        subst h2
        exact List.mem_append_left _ (ih _ hd g0 hf)
      | none =>
        rw [hf] at h2
        by_cases hc : M 48 0 0 j = M 48 0 0 i ∧ M 49 0 0 j = 2
        · rw [if_pos hc] at h2
          simp at h2
          subst h2
          refine List.mem_append_right _ ?_
          have g9 : srt M l.dropLast (M 48 0 0 j) = 1 ∨ srt M l.dropLast (M 48 0 0 j) = 3 := by
            unfold srt
            rw [g0, hf]
            cases fs M l.dropLast (M 48 0 0 j) 1
            · exact Or.inr rfl
            · exact Or.inl rfl
          rw [if_pos (app_t hc.2 (by rcases g9 with g | g <;> rw [g] <;> decide) (by rcases g9 with g | g <;> rw [g] <;> decide))]
          exact List.mem_cons_self
        · rw [if_neg hc] at h2
          cases h2
  exact this _ l rfl h0 h2
theorem ix_02 {M : Io} {l : List Nat} {i : Nat} {x : Int32} (h : ixm M l x = some i) (h2 : M 49 0 0 i = 2) : fs M l x 0 = none ∧ fs M l x 2 = some i := by
  unfold ixm at h
  cases h0 : fs M l x 0 with
  | some a =>
    rw [h0] at h
    simp at h
    subst h
    have := (fs_some h0).2.2
    rw [h2] at this
    exact absurd this (by decide)
  | none =>
    rw [h0] at h
    refine ⟨rfl, ?_⟩
    cases hf : fs M l x 2 with
    | some a => rw [hf] at h; simp at h; rw [h]
    | none =>
      rw [hf] at h
      simp at h
      have := (fs_some h).2.2
      rw [h2] at this
      exact absurd this (by decide)
/-- the marks of the commons: class and reference -/
def CM (M ι : Io) (c : Nat) (kx : Nat → Nat) (L : Ls) : Prop := ∀ i, i < 144 → (L 62 i ≠ 0 ↔ (i ∈ sq M 12 47 c ∧ M 49 0 0 i = 2 ∧ ixm M (sq M 12 47 c) (M 48 0 0 i) = some i ∧ ι 1 (kx i) 0 6 ≠ 0))
theorem mk_cm {M ι : Io} {c : Nat} {kx : Nat → Nat} {L : Ls} : CM M ι c kx (mkL M ι c kx L) := by
  intro i hi
  unfold mkL
  rw [if_neg (by omega), if_pos ⟨rfl, hi⟩]
  split
  · rename_i h
    exact ⟨fun _ => h, fun _ => by decide⟩
  · rename_i h
    exact ⟨fun z => absurd rfl z, fun z => absurd z h⟩
theorem CM.cm {M ι : Io} {ρ : Ro} {c z i : Nat} {kx : Nat → Nat} {L : Ls} (h : CM M ι c kx L) (hT : T3 M ι ρ (sq M 12 47 c) z kx) (hb : ∀ i ∈ sq M 12 47 c, i < 144) (hi : i ∈ cmL M (sq M 12 47 c)) : L 62 i ≠ 0 ↔ (ι 1 (kx i) 0 1 = 2 ∧ ι 1 (kx i) 0 6 ≠ 0) := by
  have hs := (cmL_sub (M := M) _).1 i hi
  have hm := hT.2.2.2.2.2.1 (kx i) (hT.2.2.1 i hs).1
  have hn := (hT.2.2.1 i hs).2.1
  have e : ι 1 (kx i) 0 1 = srt M (sq M 12 47 c) (M 48 0 0 i) := by rw [hm.1, hn]
  rw [h i (hb i hs), e]
  constructor
  · rintro ⟨_, a, b, d⟩
    refine ⟨?_, d⟩
    rw [← (ixm_k b).2.2]
    exact a
  · rintro ⟨a, b⟩
    exact ⟨hs, (cm_fs _ i hi).1, cm_ix hi a, b⟩
/-- the class's commons, laid so far: of the list cs -/
def AC (ι : Io) (z : Nat) (kx : Nat → Nat) (cs : List Nat) (L : Ls) : Prop := (∀ i ∈ cs, L 62 i ≠ 0 → ι 1 (kx i) 0 7 = L 63 i) ∧ ∀ k, k < z → ι 1 k 0 6 = 0 → ι 1 k 0 7 = -1
theorem cm_kx {M ι : Io} {ρ : Ro} {c z i i' : Nat} {kx : Nat → Nat} (hT : T3 M ι ρ (sq M 12 47 c) z kx) (hi : i ∈ cmL M (sq M 12 47 c)) (hi' : i' ∈ cmL M (sq M 12 47 c)) (h : kx i = kx i') : i = i' := by
  have h1 := (hT.2.2.1 i ((cmL_sub (M := M) _).1 i hi)).2.1
  have h2 := (hT.2.2.1 i' ((cmL_sub (M := M) _).1 i' hi')).2.1
  have f1 := (cm_fs _ i hi).2
  have f2 := (cm_fs _ i' hi').2
  rw [← h1, h, h2, f2] at f1
  cases f1
  rfl
theorem np1 {ι : Io} {q n : Int32} {r i j k : Nat} (h : ¬ (r = 0 ∧ (k = 11 ∨ k = 14))) : npI ι q n r i j k = ι r i j k := by
  unfold npI
  rw [up4_ne (by omega), up4_ne (by omega)]
theorem AC.add {M ι : Io} {ρ : Ro} {c z i : Nat} {kx : Nat → Nat} {cs : List Nat} {L : Ls} (h : AC ι z kx cs L) (hT : T3 M ι ρ (sq M 12 47 c) z kx) (hcs : ∀ i ∈ cs, i ∈ cmL M (sq M 12 47 c)) (hi : i ∈ cmL M (sq M 12 47 c)) (hL : LC ι L) (hr : L 62 i ≠ 0) (h6 : ι 1 (kx i) 0 6 ≠ 0) : AC (cmI ι (kx i) (gr M c (M 48 0 0 i) 50) (gr M c (M 48 0 0 i) 51)) z kx (cs ++ [i]) (comS M c L i) := by
  have hl := hL.com (M := M) (c := c) (k := kx i) hr
  have e7 : ∀ k, k ≠ kx i → cmI ι (kx i) (gr M c (M 48 0 0 i) 50) (gr M c (M 48 0 0 i) 51) 1 k 0 7 = ι 1 k 0 7 := fun k hk => by
    unfold cmI
    rw [up4_ne (by omega), up4_ne (by omega), np1 (by omega)]
  have e7s : cmI ι (kx i) (gr M c (M 48 0 0 i) 50) (gr M c (M 48 0 0 i) 51) 1 (kx i) 0 7 = nxt (endI ι) (gr M c (M 48 0 0 i) 50) := by
    unfold cmI
    rw [up4_ne (by omega), up4_s]
  have e6 : ∀ k, cmI ι (kx i) (gr M c (M 48 0 0 i) 50) (gr M c (M 48 0 0 i) 51) 1 k 0 6 = ι 1 k 0 6 := fun k => by
    unfold cmI
    rw [up4_ne (by omega), up4_ne (by omega), np1 (by omega)]
  have e63 : ∀ j, j ≠ i → comS M c L i 63 j = L 63 j := fun j hj => by
    unfold comS nxL
    rw [if_pos hr]
    simp (disch := omega) only [up2_ne]
  refine ⟨fun j hj hjr => ?_, fun k hk h0 => ?_⟩
  · by_cases hq : j = i
    · rw [hq, e7s, hl.2]
    · have hj2 : j ∈ cs := (List.mem_append.mp hj).resolve_right (fun z => hq (List.mem_singleton.mp z))
      rw [com62.1] at hjr
      rw [e7 _ (fun z => hq (cm_kx hT (hcs j hj2) hi z)), e63 j hq]
      exact h.1 j hj2 hjr
  · rw [e6] at h0
    rw [e7 k (fun z => h6 (by rw [← z]; exact h0))]
    exact h.2 k hk h0
theorem AC.skip {ι : Io} {z i : Nat} {kx : Nat → Nat} {cs : List Nat} {L : Ls} (h : AC ι z kx cs L) (hr : L 62 i = 0) : AC ι z kx (cs ++ [i]) L := ⟨fun j hj hjr => by
  rcases List.mem_append.mp hj with z | z
  · exact h.1 j z hjr
  · rw [List.mem_singleton.mp z] at hjr
    exact absurd hr hjr, h.2⟩
theorem com_sk {M : Io} {c i : Nat} {L : Ls} (hr : L 62 i = 0) : comS M c L i = L := if_neg (fun z => z hr)
theorem sec_sk {M : Io} {k s : Nat} {L : Ls} (h : ¬ (L 61 s ≠ 0 ∧ M 43 0 0 s = nI k)) : secS M k L s = L := if_neg h
theorem kin_62 {M : Io} {c n : Nat} {L : Ls} {t : Nat} : kinL M c n L 62 t = L 62 t ∧ kinL M c n L 61 t = L 61 t := ⟨kin_fr (fun a s L => by
  unfold secS nxL
  split
  · simp (disch := omega) only [up2_ne]
  · rfl), kin_fr (fun a s L => by
  unfold secS nxL
  split
  · simp (disch := omega) only [up2_ne]
  · rfl)⟩
theorem bg_62 {L : Ls} {r t : Nat} (h : r ≠ 64) (h2 : r ≠ 10) : bgL L r t = L r t := by
  unfold bgL bg0 flL
  rw [if_neg (fun z => h z.1)]
  rw [up2_ne (fun z => h2 z.1), up2_ne (fun z => h2 z.1), up2_ne (fun z => h2 z.1), up2_ne (fun z => h2 z.1)]
theorem LC.bg {ι : Io} {L : Ls} {x : Int32} (h : L 10 20 = x) (h9 : ι 0 0 0 9 = x) (h11 : ι 0 0 0 11 = 0) (h12 : ι 0 0 0 12 = 0) (h13 : ι 0 0 0 13 = 0) (h14 : ι 0 0 0 14 = 0) (h28 : ∀ s, s < 96 → ι 28 0 0 s = L 61 s) : LC ι (bgL L) := by
  have e : ∀ k, bgL L 10 k = bg0 L 10 k := fun k => by unfold bgL flL; exact if_neg (by omega)
  refine ⟨?_, ?_, ?_, ?_, ?_, fun s hs hn => ?_, fun s hs => ?_⟩
  · rw [e]; unfold bg0; simp (disch := omega) only [up2_ne]; rw [h]; exact h9
  · rw [e, e]; unfold bg0; simp (disch := omega) only [up2_ne, up2_s]; rw [h11, Int32.sub_self]
  · rw [e]; unfold bg0; simp (disch := omega) only [up2_ne, up2_s]; exact h12
  · rw [e]; unfold bg0; simp (disch := omega) only [up2_ne, up2_s]; exact h13
  · rw [e]; unfold bg0; simp (disch := omega) only [up2_ne, up2_s]; exact h14
  · exact absurd (show bgL L 64 s = -1 from if_pos ⟨rfl, hs⟩) hn
  · rw [bg_62 (by decide) (by decide)]; exact h28 s hs
theorem LC.cgL {ι : Io} {L L' : Ls} (h : LC ι L) (e : ∀ r k, r ≠ 73 → ¬ (r = 10 ∧ (k = 25 ∨ k = 26 ∨ k = 27 ∨ k = 29)) → L' r k = L r k) : LC ι L' := by
  have e61 : ∀ s, L' 61 s = L 61 s := fun s => e 61 s (by decide) (by omega)
  have e62 : ∀ s, L' 62 s = L 62 s := fun s => e 62 s (by decide) (by omega)
  have e63 : ∀ s, L' 63 s = L 63 s := fun s => e 63 s (by decide) (by omega)
  have e64 : ∀ s, L' 64 s = L 64 s := fun s => e 64 s (by decide) (by omega)
  unfold LC at *
  simp only [e 10 20 (by decide) (by omega), e 10 41 (by decide) (by omega), e 10 30 (by decide) (by omega), e 10 32 (by decide) (by omega), e 10 31 (by decide) (by omega), e64, e61]
  exact h
theorem FN.cgL {M ι : Io} {ρ : Ro} {c z : Nat} {kx : Nat → Nat} {L L' : Ls} (h : FN M ι ρ c z kx L) (e : ∀ r k, r ≠ 73 → ¬ (r = 10 ∧ (k = 25 ∨ k = 26 ∨ k = 27 ∨ k = 29)) → L' r k = L r k) : FN M ι ρ c z kx L' := by
  obtain ⟨h1, h2, h3, h4, h5⟩ := h
  have e61 : ∀ s, L' 61 s = L 61 s := fun s => e 61 s (by decide) (by omega)
  have e62 : ∀ s, L' 62 s = L 62 s := fun s => e 62 s (by decide) (by omega)
  have e63 : ∀ s, L' 63 s = L 63 s := fun s => e 63 s (by decide) (by omega)
  have e64 : ∀ s, L' 64 s = L 64 s := fun s => e 64 s (by decide) (by omega)
  refine ⟨h1, h2.cgL e, ?_, ?_, ?_⟩
  · simp only [e62, e63]; exact h3
  · simp only [e61, e64]; exact h4
  · simp only [e61, e64]; exact h5
theorem LY.cgL {M : Io} {b N : Nat} {L L' : Ls} (h : LY M b N L) (e : ∀ r k, r ≠ 73 → ¬ (r = 10 ∧ (k = 25 ∨ k = 26 ∨ k = 27 ∨ k = 29)) → L' r k = L r k) : LY M b N L' := by
  have e61 : ∀ s, L' 61 s = L 61 s := fun s => e 61 s (by decide) (by omega)
  have e62 : ∀ s, L' 62 s = L 62 s := fun s => e 62 s (by decide) (by omega)
  have e63 : ∀ s, L' 63 s = L 63 s := fun s => e 63 s (by decide) (by omega)
  have e64 : ∀ s, L' 64 s = L 64 s := fun s => e 64 s (by decide) (by omega)
  unfold LY Pl Dj at *
  simp only [e 10 20 (by decide) (by omega), e 10 41 (by decide) (by omega), e64, e61]
  exact h
theorem or_61 {M : Io} {c : Nat} {L : Ls} {s : Nat} : orL M c L 61 s = L 61 s := by
  unfold orL
  rw [fold_fr (fun L i => com62.2.1), kin_62.2, bg_62 (by decide) (by decide)]
theorem or_62 {M : Io} {c : Nat} {L : Ls} {s : Nat} : orL M c L 62 s = L 62 s := by
  unfold orL
  rw [coms62, kin_62.1, bg_62 (by decide) (by decide)]
theorem or_pl {M : Io} {c9 b s : Nat} {e : Int32} {L : Ls} (K : LK M c9) (hD : DI M c9) (hJ : Jus M c9 e L) (h : L 10 20 = nI b) (hb : b ≤ 1000000) (hs : s < 96) (hr : L 61 s ≠ 0) : orL M c9 L 64 s ≠ -1 := by
  unfold orL
  rw [fold_fr (fun L i => com62.2.2)]
  have hin := re_in K hD hJ hs hr
  refine kin_do K (LY.bg h) hb hin (by rw [bg_62 (by decide) (by decide)]; exact hr) 4 (by omega) ?_
  have := K.b43.le (t := s) (by omega)
  omega
/-- all of it together: the layout's end -/
theorem FN.mk {M ι : Io} {ρ : Ro} {c z b : Nat} {kx : Nat → Nat} {e : Int32} {L : Ls} (hT : T3 M ι ρ (sq M 12 47 c) z kx) (hb : ∀ i ∈ sq M 12 47 c, i < 144) (K : LK M c) (hD : DI M c) (hJ : Jus M c e L) (h20 : L 10 20 = nI b) (hbb : b ≤ 1000000) (hC : CM M ι c kx L) (hL : LC ι (orL M c L)) (hA : AC ι z kx (cmL M (sq M 12 47 c)) (orL M c L)) : FN M ι ρ c z kx (orL M c L) ∧ LY M b 264192 (orL M c L) := by
  have hY := ord_ly K h20 hbb
  refine ⟨⟨hT, hL, fun i hi h2 hx => ?_, fun s hs hr => ?_, fun s hs hr => ?_⟩, hY⟩
  · by_cases h0 : orL M c L 62 i = 0
    · rw [if_pos h0]
      rw [or_62] at h0
      refine hA.2 (kx i) (hT.2.2.1 i hi).1 ?_
      apply Classical.byContradiction
      intro h6
      exact (hC i (hb i hi)).mpr ⟨hi, h2, hx, h6⟩ h0
    · rw [if_neg h0]
      have := ix_02 hx h2
      exact hA.1 i (cm_in this.1 this.2) h0
  · rw [or_61] at hr
    exact or_pl K hD hJ h20 hbb hs hr
  · obtain ⟨_, _, _, _, _, hP, _⟩ := hY
    rcases hP s hs with g | g
    · exact g
    · exact absurd hr g.1
theorem LY.n {M : Io} {b N : Nat} {L : Ls} (h : LY M b N L) (hN : b + N ≤ 2000000) : ∃ n, L 10 41 - L 10 20 = nI n ∧ n ≤ N := by
  obtain ⟨h20, e, he, hbe, heN, _⟩ := h
  exact ⟨e - b, by rw [he, h20, pk_sub hbe], by omega⟩
theorem LY.hl {M : Io} {b N n s : Nat} {L : Ls} (h : LY M b N L) (hN : b + N ≤ 2000000) (hn : L 10 41 - L 10 20 = nI n) (hn4 : n ≤ 4096) (hs : s < 96) (hp : L 64 s ≠ -1) : ∃ a, L 64 s = nI a ∧ b ≤ a ∧ a ≤ 2000000 ∧ L 64 s - L 10 20 = nI (a - b) ∧ a - b + mn M 45 s ≤ n := by
  obtain ⟨h20, e, he, hbe, heN, hP, _⟩ := h
  rcases hP s hs with g | ⟨_, a, g1, g2, g3⟩
  · exact absurd g hp
  · rw [he, h20, pk_sub hbe] at hn
    have := nI_inj (by omega) (by omega) hn
    exact ⟨a, g1, g2, by omega, by rw [g1, h20, pk_sub g2], by omega⟩
theorem sq_nd {M : Io} {m fld c : Nat} (hd : NDc M c) (hm : 0 < m) (hb : ∀ k, k < c → mn M fld (mn M 59 k) ≤ m) : (sq M m fld c).Nodup := by
  have : ∀ n, n ≤ c → (sq M m fld n).Nodup := by
    intro n
    induction n with
    | zero => intro _; exact List.nodup_nil
    | succ n ih =>
      intro hn
      rw [sq_s]
      unfold sqP
      rw [List.nodup_append]
      refine ⟨ih (by omega), ?_, fun a ha b hb2 => ?_⟩
      · rw [List.nodup_iff_pairwise_ne]
        rw [List.pairwise_map]
        exact (List.nodup_iff_pairwise_ne.mp List.nodup_range).imp (fun h z => h (by omega))
      · intro e
        subst e
        obtain ⟨k', t', h1, h2, e1⟩ := sq_el ha
        obtain ⟨t, ht, e2⟩ := List.mem_map.mp hb2
        rw [List.mem_range] at ht
        have q1 := hb k' (by omega)
        have q2 := hb n (by omega)
        have e3 : (m * mn M 59 k' + t') / m = (m * mn M 59 n + t) / m := by rw [← e1, e2]
        rw [Nat.mul_add_div hm, Nat.mul_add_div hm, Nat.div_eq_of_lt (show t' < m by omega), Nat.div_eq_of_lt (show t < m by omega)] at e3
        have := hd k' n (by omega) (by omega) (by omega)
        omega
  exact this c (Nat.le_refl _)
theorem nd_mid {l suf : List Nat} {i : Nat} (h : (l ++ i :: suf).Nodup) : i ∉ l := fun hi => by
  rw [List.nodup_append] at h
  exact h.2.2 i hi i List.mem_cons_self rfl
theorem IV.n7 {ν : Nu} {M : Io} {ρ : Ro} {N c w n z kn g : Nat} (h : IV ν M ρ N c w n z kn g) : (sq M 12 47 c).Nodup := sq_nd h.nd (by omega) (fun k hk => h.bd.b47.le (t := mn M 59 k) (by have := (h.ic.2.2.2.1 k hk).2.1; have := h.N12; omega))
theorem kin_s {M : Io} {c n : Nat} {L : Ls} : kinL M c (n + 1) L = (sq M 8 42 c).foldl (secS M n) (kinL M c n L) := by
  unfold kinL
  rw [List.range_succ, List.foldl_append]
  rfl
theorem CM.cg {M ι ι1 : Io} {c : Nat} {kx : Nat → Nat} {L L' : Ls} (h : CM M ι c kx L) (e : ∀ k, ι1 1 k 0 6 = ι 1 k 0 6) (e2 : ∀ i, L' 62 i = L 62 i) : CM M ι1 c kx L' := by
  intro i hi
  rw [e2, e]
  exact h i hi
theorem or_cm {M ι : Io} {c : Nat} {kx : Nat → Nat} {L : Ls} (h : CM M ι c kx L) (hb : ∀ i ∈ sq M 12 47 c, i < 144) (hn : (sq M 12 47 c).Nodup) : orL M c L = (cmL M (sq M 12 47 c)).foldl (comS M c) (kinL M c 4 (bgL L)) := by
  refine com_fold (fun i hi hz => ?_) (fun l i suf e => nd_mid (by rw [← e]; exact hn)) _ (sq M 12 47 c) [] rfl (List.append_nil _).symm
  rw [kin_62.1, bg_62 (by decide) (by decide)] at hz
  have := (h i (hb i hi)).mp hz
  exact ⟨this.2.1, this.2.2.1⟩
def LZ (x : Int32) : Ls := up2 (up2 (up2 (fun _ _ => 0) 10 20 x) 10 26 (-1)) 10 27 (-1)
theorem LZ.b {x : Int32} : B0 x (LZ x) := by
  unfold B0 LZ
  refine ⟨?_, ?_, ?_, ?_⟩ <;> simp (disch := omega) only [up2_ne, up2_s]
theorem upA_A {β : Type} {f : Nat → Nat → Nat → Nat → β} {r i j : Nat} {g h : Nat → β} : upA (upA f r i j g) r i j h = upA f r i j h := by
  funext a b d e
  unfold upA
  split <;> rfl
theorem upA_id {β : Type} {f : Nat → Nat → Nat → Nat → β} {r i j : Nat} : upA f r i j (f r i j) = f := by
  funext a b d e
  unfold upA
  split
  · rename_i h
    rw [h.1, h.2.1, h.2.2]
  · rfl
theorem bw_c {a n : Nat} {d d' g : Nat → Int32} (h : ∀ k, k < n → d k = d' k) : bw a n d g = bw a n d' g := by
  funext k
  unfold bw
  split
  · exact h _ (by omega)
  · rfl
/-- a section that is reached: where it stands in the class -/
theorem IV.rs {ν : Nu} {M : Io} {ρ : Ro} {N c w n z kn g s i : Nat} (h : IV ν M ρ N c w n z kn g) (hi : i ∈ sq M 12 47 c) (h2 : M 49 0 0 i ≠ 2) (h3 : M 49 0 0 i ≠ 3) (hs : rcI M i = s) : ∃ k t, k < c ∧ t < mn M 42 (mn M 59 k) ∧ s = 8 * mn M 59 k + t ∧ s / 8 = mn M 59 k ∧ s % 8 = t := by
  have hd := h.di.1 i hi h2 h3
  have hb := h.nb i hi
  obtain ⟨k, t, h4, h5, e⟩ := sq_el hi
  have l47 := h.bd.b47.le (t := mn M 59 k) (by have := (h.ic.2.2.2.1 k h4).2.1; have := h.N12; omega)
  have e2 : i / 12 = mn M 59 k := by omega
  rw [e2] at hd
  have l42 := h.bd.b42.le (t := mn M 59 k) (by have := (h.ic.2.2.2.1 k h4).2.1; have := h.N12; omega)
  rw [rc_n2 h2, e2] at hs
  exact ⟨k, mn M 50 i, h4, hd, hs.symm, by omega, by omega⟩
abbrev sC (M ι : Io) (kx : Nat → Nat) (j : Nat) : Int64 := (adC ι (kx (12 * (j / 16) + mn M 56 j))).toInt64 + (M 57 0 0 j).toInt64
abbrev oC (M ι : Io) (j : Nat) : Int32 := ι 30 0 0 (slR M j) + M 54 0 0 j
abbrev aC (M ι : Io) (kx : Nat → Nat) (j : Nat) : Int64 := sC M ι kx j - (oC M ι j).toInt64
def fC (M ι : Io) (kx : Nat → Nat) (j : Nat) : Int32 := if ι 28 0 0 (slR M j) = 0 then 0 else if mn M 45 (slR M j) < mn M 54 j + wd (mn M 55 j) then 3 else fltV (mn M 55 j) (sC M ι kx j) (aC M ι kx j)
def iC (M ι : Io) (kx : Nat → Nat) (j : Nat) : Io := if ι 28 0 0 (slR M j) = 0 then ι else if mn M 45 (slR M j) < mn M 54 j + wd (mn M 55 j) then ι else if fltV (mn M 55 j) (sC M ι kx j) (aC M ι kx j) = 0 then filG ι 31 0 0 (oC M ι j - ι 0 0 0 9).toNatClampNeg (wd (mn M 55 j)) (byL (vluV (mn M 55 j) (sC M ι kx j) (aC M ι kx j)) (wd (mn M 55 j))) else ι
theorem iC_e {M ι : Io} {kx : Nat → Nat} {j r i i' k : Nat} (h : r ≠ 31) : iC M ι kx j r i i' k = ι r i i' k := by
  unfold iC
  split
  · rfl
  · split
    · rfl
    · split
      · exact filG_ne (fun z => h z.1)
      · rfl
theorem FN.cgi {M ι ι1 : Io} {ρ : Ro} {c z : Nat} {kx : Nat → Nat} {L : Ls} (h : FN M ι ρ c z kx L) (e : ∀ r i j k, r ≠ 31 → ι1 r i j k = ι r i j k) : FN M ι1 ρ c z kx L := by
  obtain ⟨h1, h2, h3, h4, h5⟩ := h
  refine ⟨h1.cg (fun k f _ => e 1 k 0 f (by decide)) (fun f => e 3 0 0 f (by decide)), ?_, fun i hi a b => ?_, h4, h5⟩
  · unfold LC at h2 ⊢
    have e30 : ∀ s, ι1 30 0 0 s = ι 30 0 0 s := fun s => e 30 0 0 s (by decide)
    have e28 : ∀ s, ι1 28 0 0 s = ι 28 0 0 s := fun s => e 28 0 0 s (by decide)
    have e0 : ∀ k, ι1 0 0 0 k = ι 0 0 0 k := fun k => e 0 0 0 k (by decide)
    simp only [e30, e28, e0]
    exact h2
  · rw [e 1 _ 0 7 (by decide)]
    exact h3 i hi a b
/-- one reference: the class beside the reference -/
theorem wk_rel {M ι : Io} {ρ : Ro} {c z j : Nat} {kx : Nat → Nat} {L : Ls} (h : FN M ι ρ c z kx L) (hb : ∀ i ∈ sq M 12 47 c, i < 144) (hrc : ∀ i ∈ sq M 12 47 c, M 49 0 0 i ≠ 2 → M 49 0 0 i ≠ 3 → rcI M i < 96) (hin : 12 * (j / 16) + mn M 56 j ∈ sq M 12 47 c) (hs : slR M j < 96) (hr : L 61 (slR M j) ≠ 0) : sC M ι kx j = sm M c L j ∧ oC M ι j = pR M L j ∧ aC M ι kx j = ap M c L j := by
  obtain ⟨p1, p2, _⟩ := h.1.2.2.1 _ hin
  have e1 : sC M ι kx j = sm M c L j := by
    unfold sC sm meR nuR
    rw [h.ad hb hrc p1, p2]
  have e2 : oC M ι j = pR M L j := by
    unfold oC pR
    rw [h.2.1.2.2.2.2.2.1 _ hs (h.2.2.2.1 _ hs hr)]
  refine ⟨e1, e2, ?_⟩
  unfold aC ap
  rw [e1, e2]
theorem wk_step {M ι : Io} {ρ : Ro} {c z j n b N : Nat} {kx : Nat → Nat} {L : Ls} (h : FN M ι ρ c z kx L) (hb : ∀ i ∈ sq M 12 47 c, i < 144) (hrc : ∀ i ∈ sq M 12 47 c, M 49 0 0 i ≠ 2 → M 49 0 0 i ≠ 3 → rcI M i < 96) (hin : 12 * (j / 16) + mn M 56 j ∈ sq M 12 47 c) (hs : slR M j < 96) (h0 : L 10 25 = 0) (hc : ∀ k, k < n → ι 31 0 0 k = L 73 k) : (fC M ι kx j = 0 → FN M (iC M ι kx j) ρ c z kx (wkT M c L j) ∧ wkT M c L j 10 25 = 0 ∧ (∀ k, k < n → iC M ι kx j 31 0 0 k = wkT M c L j 73 k)) ∧ (fC M ι kx j ≠ 0 → iC M ι kx j = ι ∧ L 61 (slR M j) ≠ 0 ∧ ((mn M 45 (slR M j) < mn M 54 j + wd (mn M 55 j) ∧ fC M ι kx j = 3) ∨ (¬ mn M 45 (slR M j) < mn M 54 j + wd (mn M 55 j) ∧ fC M ι kx j = fltV (mn M 55 j) (sm M c L j) (ap M c L j)))) := by
  have e28 : ι 28 0 0 (slR M j) = L 61 (slR M j) := h.2.1.2.2.2.2.2.2 _ hs
  by_cases hr : L 61 (slR M j) = 0
  · have f0 : fC M ι kx j = 0 := by unfold fC; rw [e28, if_pos hr]
    have i0 : iC M ι kx j = ι := by unfold iC; rw [e28, if_pos hr]
    rw [i0, f0, wk_nr hr]
    exact ⟨fun _ => ⟨h, h0, hc⟩, fun z => absurd rfl z⟩
  · obtain ⟨r1, r2, r3⟩ := wk_rel h hb hrc hin hs hr
    by_cases hl : mn M 45 (slR M j) < mn M 54 j + wd (mn M 55 j)
    · have f0 : fC M ι kx j = 3 := by unfold fC; rw [e28, if_neg hr, if_pos hl]
      have i0 : iC M ι kx j = ι := by unfold iC; rw [e28, if_neg hr, if_pos hl]
      rw [i0, f0]
      exact ⟨fun z => absurd z (by decide), fun _ => ⟨rfl, hr, Or.inl ⟨hl, rfl⟩⟩⟩
    · have f0 : fC M ι kx j = fltV (mn M 55 j) (sm M c L j) (ap M c L j) := by unfold fC; rw [e28, if_neg hr, if_neg hl, r3, r1]
      refine ⟨fun hz => ?_, fun hz => ?_⟩
      · have hz2 : fltV (mn M 55 j) (sm M c L j) (ap M c L j) = 0 := f0.symm.trans hz
        have i0 : iC M ι kx j = filG ι 31 0 0 (pR M L j - L 10 20).toNatClampNeg (wd (mn M 55 j)) (byL (vluV (mn M 55 j) (sm M c L j) (ap M c L j)) (wd (mn M 55 j))) := by
          unfold iC
          rw [e28, if_neg hr, if_neg hl, r3, r1, if_pos hz2, r2, h.2.1.1]
        refine ⟨?_, ?_, fun k hk => ?_⟩
        · exact (h.cgi (fun r i i' k hr9 => iC_e hr9)).cgL (fun r k h1 h2 => wk_fr h1 (by omega))
        · rw [wk_ok h0 hr hl hz2, pu_fr (by decide)]
          exact h0
        · rw [wk_ok h0 hr hl hz2, i0]
          unfold puL flF
          by_cases hk2 : (pR M L j - L 10 20).toNatClampNeg ≤ k ∧ k < (pR M L j - L 10 20).toNatClampNeg + wd (mn M 55 j)
          · rw [filG_in hk2, if_pos ⟨rfl, hk2⟩]
          · rw [filG_ne (fun z => hk2 z.2.2.2), if_neg (fun z => hk2 z.2)]
            exact hc k hk
      · have i0 : iC M ι kx j = ι := by
          unfold iC
          rw [e28, if_neg hr, if_neg hl, r3, r1, if_neg (fun z => hz (f0.trans z))]
        exact ⟨i0, hr, Or.inr ⟨hl, f0⟩⟩
/-- where the bytes of a reference go -/
theorem wk_at {M ι : Io} {ρ : Ro} {c z j n b N : Nat} {kx : Nat → Nat} {L : Ls} (h : FN M ι ρ c z kx L) (hY : LY M b N L) (hN : b + N ≤ 2000000) (hn : L 10 41 - L 10 20 = nI n) (hn4 : n ≤ 4096) (hs : slR M j < 96) (hr : L 61 (slR M j) ≠ 0) (hl : ¬ mn M 45 (slR M j) < mn M 54 j + wd (mn M 55 j)) (h54 : M 54 0 0 j = nI (mn M 54 j)) : ∃ a, oC M ι j - ι 0 0 0 9 = nI a ∧ a + wd (mn M 55 j) ≤ n := by
  obtain ⟨a, h1, h2, h3, h4, h5⟩ := hY.hl hN hn hn4 hs (h.2.2.2.1 _ hs hr)
  refine ⟨a - b + mn M 54 j, ?_, by omega⟩
  unfold oC
  rw [h.2.1.2.2.2.2.2.1 _ hs (h.2.2.2.1 _ hs hr), h.2.1.1, h1, h54, hY.1, nI_add, pk_sub (by omega)]
  congr 1
  omega
