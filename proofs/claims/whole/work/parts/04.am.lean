/-! the abstract machine: cells have names (role, i, j); a state is: which are there, their whole numbers, their references, their longs -/
abbrev Pt3 : Type := Nat × Nat × Nat
abbrev SV : Type := Int32 ⊕ (Int64 ⊕ Option Pt3)
abbrev Ad : Type := Nat → Nat → Nat → Nat
abbrev Nu : Type := Nat → Nat → Nat → Option Nat
abbrev Io : Type := Nat → Nat → Nat → Nat → Int32
abbrev Ro : Type := Nat → Nat → Nat → Nat → Option Pt3
abbrev Lo : Type := Nat → Nat → Nat → Nat → Int64
abbrev GD : Type := (Nat → ClassId) × (Nat → Nat → Nat) × (Nat → ClassId)
abbrev sI (x : Int32) : SV := Sum.inl x
abbrev sL (x : Int64) : SV := Sum.inr (Sum.inl x)
abbrev sQ (q : Option Pt3) : SV := Sum.inr (Sum.inr q)
abbrev sN : SV := Sum.inr (Sum.inr none)
abbrev sR (r i j : Nat) : SV := Sum.inr (Sum.inr (some (r, i, j)))
def ad3 (α : Ad) (q : Pt3) : Nat := α q.1 q.2.1 q.2.2
def enc (α : Ad) : SV → Value
  | .inl x => .int x
  | .inr (.inl x) => .long x
  | .inr (.inr none) => .null
  | .inr (.inr (some q)) => .ref (ad3 α q)
def scat : SV → Nat
  | .inr (.inl _) => 2
  | _ => 1
theorem enc_cat (α : Ad) (v : SV) : (enc α v).category = scat v := by
  rcases v with x | x | _ | q <;> rfl
def up3 {β : Type} (f : Nat → Nat → Nat → β) (r i j : Nat) (x : β) : Nat → Nat → Nat → β := fun r' i' j' => if r' = r ∧ i' = i ∧ j' = j then x else f r' i' j'
def up4 {β : Type} (f : Nat → Nat → Nat → Nat → β) (r i j k : Nat) (x : β) : Nat → Nat → Nat → Nat → β := fun r' i' j' k' => if r' = r ∧ i' = i ∧ j' = j ∧ k' = k then x else f r' i' j' k'
def upA {β : Type} (f : Nat → Nat → Nat → Nat → β) (r i j : Nat) (x : Nat → β) : Nat → Nat → Nat → Nat → β := fun r' i' j' k' => if r' = r ∧ i' = i ∧ j' = j then x k' else f r' i' j' k'
theorem up3_s {β : Type} {f : Nat → Nat → Nat → β} {r i j : Nat} {x : β} : up3 f r i j x r i j = x := by simp [up3]
theorem up4_s {β : Type} {f : Nat → Nat → Nat → Nat → β} {r i j k : Nat} {x : β} : up4 f r i j k x r i j k = x := by simp [up4]
theorem upA_s {β : Type} {f : Nat → Nat → Nat → Nat → β} {r i j k : Nat} {x : Nat → β} : upA f r i j x r i j k = x k := by simp [upA]
def cont (α : Ad) (ι : Io) (ρ : Ro) (ℓ : Lo) (r i j k : Nat) : Value := match kd (slt r k) with
  | 0 => .int (ι r i j k)
  | 1 => enc α (sQ (ρ r i j k))
  | _ => .long (ℓ r i j k)
theorem cont_I {α : Ad} {ι : Io} {ρ : Ro} {ℓ : Lo} {r i j k : Nat} (h : kd (slt r k) = 0) : cont α ι ρ ℓ r i j k = .int (ι r i j k) := by simp [cont, h]
theorem cont_R {α : Ad} {ι : Io} {ρ : Ro} {ℓ : Lo} {r i j k : Nat} (h : kd (slt r k) = 1) : cont α ι ρ ℓ r i j k = enc α (sQ (ρ r i j k)) := by simp [cont, h]
theorem cont_L {α : Ad} {ι : Io} {ρ : Ro} {ℓ : Lo} {r i j k : Nat} (h : kd (slt r k) = 2) : cont α ι ρ ℓ r i j k = .long (ℓ r i j k) := by simp [cont, h]
def cellA (D : GD) (α : Ad) (ι : Io) (ρ : Ro) (ℓ : Lo) (r i j n : Nat) (H : Heap) : Prop :=
  (r < 20 → ∃ q : vw_C, cls_[r]? = some q ∧ n = q.2.2 ∧ t_OB (α r i j) (D.1 r) q.2.2 (D.2.1 r) H (cont α ι ρ ℓ r i j)) ∧
  (20 ≤ r → H[α r i j]? = some (arrV (D.2.2 (art r)) n (cont α ι ρ ℓ r i j)))
theorem arrV_congr {c : ClassId} {n : Nat} {f g : Nat → Value} (h : ∀ k, k < n → f k = g k) : arrV c n f = arrV c n g := by
  unfold arrV
  congr 2
  funext j
  exact h j.val j.isLt
theorem cellA.to {D : GD} {α α' : Ad} {ι ι' : Io} {ρ ρ' : Ro} {ℓ ℓ' : Lo} {r i j n : Nat} {H H' : Heap} (h : cellA D α ι ρ ℓ r i j n H) (ha : α' r i j = α r i j) (hH : H'[α r i j]? = H[α r i j]?) (hc : ∀ k, k < n → cont α ι ρ ℓ r i j k = cont α' ι' ρ' ℓ' r i j k) : cellA D α' ι' ρ' ℓ' r i j n H' := by
  refine ⟨fun hr => ?_, fun hr => ?_⟩
  · obtain ⟨q, h1, h2, h3⟩ := h.1 hr
    refine ⟨q, h1, h2, ?_⟩
    rw [ha]
    exact (h3.kept hH).to (fun k hk => hc k (by omega))
  · rw [ha, hH, h.2 hr, arrV_congr hc]
theorem cellA.lt {D : GD} {α : Ad} {ι : Io} {ρ : Ro} {ℓ : Lo} {r i j n : Nat} {H : Heap} (h : cellA D α ι ρ ℓ r i j n H) : α r i j < H.size := by
  by_cases hr : r < 20
  · obtain ⟨q, -, -, cell, h3, -⟩ := h.1 hr
    exact (Array.getElem?_eq_some_iff.mp h3).1
  · exact (Array.getElem?_eq_some_iff.mp (h.2 (by omega))).1
/-- a name that may stand on a stack: its cell is there; or one of the two given arrays -/
def alv (ν : Nu) (q : Pt3) : Prop := ν q.1 q.2.1 q.2.2 ≠ none ∨ 98 ≤ q.1
def wfv (ν : Nu) (v : SV) : Prop := ∀ q, v = sQ (some q) → alv ν q
def wfl (ν : Nu) (l : List SV) : Prop := ∀ v ∈ l, wfv ν v
theorem wfv_I {ν : Nu} {x : Int32} : wfv ν (sI x) := fun q h => by cases h
theorem wfv_L {ν : Nu} {x : Int64} : wfv ν (sL x) := fun q h => by cases h
theorem wfv_N {ν : Nu} : wfv ν sN := fun q h => by cases h
theorem wfl_c {ν : Nu} {v : SV} {l : List SV} (h : wfv ν v) (h2 : wfl ν l) : wfl ν (v :: l) := fun w hw => by
  rcases List.mem_cons.mp hw with e | e
  · rw [e]; exact h
  · exact h2 w e
theorem wfl_h {ν : Nu} {v : SV} {l : List SV} (h : wfl ν (v :: l)) : wfv ν v := h v List.mem_cons_self
theorem wfl_t {ν : Nu} {v : SV} {l : List SV} (h : wfl ν (v :: l)) : wfl ν l := fun w hw => h w (List.mem_cons_of_mem _ hw)
theorem wfl_n {ν : Nu} : wfl ν [] := fun w hw => by cases hw
theorem wfl_up {ν ν' : Nu} {l : List SV} (h : wfl ν l) (hn : ∀ q, alv ν q → alv ν' q) : wfl ν' l := fun v hv q e => hn q (h v hv q e)
def Rh (D : GD) (B : Nat) (α : Ad) (ν : Nu) (ι : Io) (ρ : Ro) (ℓ : Lo) (H : Heap) : Prop :=
  (∀ a b c a' b' c', a < 98 → a' < 98 → α a b c = α a' b' c' → a = a' ∧ b = b' ∧ c = c') ∧
  (∀ r i j n, ν r i j = some n → r < 98 ∧ n < 2147483648 ∧ cellA D α ι ρ ℓ r i j n H ∧ B ≤ α r i j) ∧
  (∀ r i j n k q, ν r i j = some n → k < n → kd (slt r k) = 1 → ρ r i j k = some q → alv ν q) ∧ B ≤ H.size
theorem enc_ag {α α' : Ad} {ν : Nu} {v : SV} (hw : wfv ν v) (h : ∀ r i j, 98 ≤ r ∨ ν r i j ≠ none → α' r i j = α r i j) : enc α' v = enc α v := by
  rcases v with x | x | _ | q
  · rfl
  · rfl
  · rfl
  · have := hw q rfl
    show Value.ref (ad3 α' q) = Value.ref (ad3 α q)
    unfold ad3
    rw [h q.1 q.2.1 q.2.2 (this.elim Or.inr Or.inl)]
theorem encl_ag {α α' : Ad} {ν : Nu} {l : List SV} (hw : wfl ν l) (h : ∀ r i j, 98 ≤ r ∨ ν r i j ≠ none → α' r i j = α r i j) : l.map (enc α') = l.map (enc α) :=
  List.map_congr_left fun v hv => enc_ag (hw v hv) h
def nwM : List (String × Nat × MethodName × String) := [("ObjectLinks", 17, ⟨"ObjectLinks$Linker", "<init>", "()V"⟩, "ObjectLinks"), ("ObjectLinks$NameTable", 23, ⟨"ObjectLinks$Meaning", "<init>", "()V"⟩, "ObjectLinks"), ("ObjectLinks", 24, ⟨"ObjectLinks$Octets", "<init>", "()V"⟩, "ObjectLinks"), ("ObjectLinks", 40, ⟨"ObjectLinks$Unit", "<init>", "()V"⟩, "ObjectLinks"), ("ObjectLinks$NameTable", 55, ⟨"ObjectLinks", "slotOf", "(II)I"⟩, "ObjectLinks"), ("ObjectLinks$Linker", 168, ⟨"ObjectLinks", "slotOf", "(II)I"⟩, "ObjectLinks"), ("ObjectLinks$Reader", 29, ⟨"ObjectLinks$Unit", "<init>", "()V"⟩, "ObjectLinks")]
def nwF : List (String × Nat × String × String × String × String) := [("ObjectLinks$Unit", 60, "ObjectLinks", "WIDTHS", "[I", "ObjectLinks"), ("ObjectLinks$Linker", 224, "ObjectLinks", "WIDTHS", "[I", "ObjectLinks")]
def nwC : List (String × String) := [("java/lang/UnsupportedOperationException", "java/lang/UnsupportedOperationException"), ("java/lang/IndexOutOfBoundsException", "java/lang/IndexOutOfBoundsException"), ("java/lang/IllegalArgumentException", "java/lang/IllegalArgumentException"), ("java/lang/IllegalStateException", "java/lang/IllegalStateException")]
def ao_ : List String := ["ObjectLinks$Unit", "ObjectLinks$Meaning", "ObjectLinks$Section", "ObjectLinks$Name", "ObjectLinks$Reference"]
def nc_ : List (String × String) := [("java/lang/IndexOutOfBoundsException", "java/lang/UnsupportedOperationException"), ("java/lang/IllegalArgumentException", "java/lang/UnsupportedOperationException"), ("java/lang/IllegalStateException", "java/lang/UnsupportedOperationException"), ("java/lang/UnsupportedOperationException", "java/lang/IndexOutOfBoundsException"), ("java/lang/IllegalArgumentException", "java/lang/IndexOutOfBoundsException"), ("java/lang/IllegalStateException", "java/lang/IndexOutOfBoundsException"), ("java/lang/UnsupportedOperationException", "java/lang/IllegalArgumentException"), ("java/lang/IndexOutOfBoundsException", "java/lang/IllegalArgumentException"), ("java/lang/IllegalStateException", "java/lang/IllegalArgumentException"), ("java/lang/UnsupportedOperationException", "java/lang/IllegalStateException"), ("java/lang/IndexOutOfBoundsException", "java/lang/IllegalStateException"), ("java/lang/IllegalArgumentException", "java/lang/IllegalStateException")]
def st_ : List (String × Nat × String) := [("ObjectLinks", 35, "there are twelve objects"), ("ObjectLinks", 230, "no such object"), ("ObjectLinks", 57, "no such kind, alignment or length"), ("ObjectLinks", 63, "there are eight sections"), ("ObjectLinks", 79, "no such section, or it is empty"), ("ObjectLinks", 85, "the section has no such byte"), ("ObjectLinks", 95, "such a name can not be, or is there already"), ("ObjectLinks", 100, "there are twelve names"), ("ObjectLinks", 114, "no such section, place, way or name"), ("ObjectLinks", 119, "there are sixteen references"), ("ObjectLinks", 134, "the object is chosen already"), ("ObjectLinks", 141, "no such base"), ("ObjectLinks", 148, "nothing is chosen"), ("ObjectLinks", 155, "the linking has a fault"), ("ObjectLinks", 171, "a fault is told by 0, 1 and 2"), ("ObjectLinks", 174, "the image has no such byte"), ("ObjectLinks", 179, "no such section"), ("ObjectLinks", 196, "no such byte was written"), ("ObjectLinks", 201, "that is no byte"), ("ObjectLinks", 203, "no so many bytes to cut"), ("ObjectLinks", 214, "those are no object as bytes")]
def wid_ : Nat → Value := fun j => match j with
  | 0 => .int 4
  | 1 => .int 2
  | 2 => .int 2
  | 3 => .int 1
  | _ => .int 2
abbrev uB (B : Nat) : Nat → Prop := fun q => B ≤ q
/-- the given cells of the start that throws and the static array need -/
def KH (B tW : Nat) (U : State) (H : Heap) : Prop := vx_Zq Bundle.tN "UNASSIGNED_STACK" Bundle.steD (uB B) U H ∧ vx_Zq Bundle.tN "SUPPRESSED_SENTINEL" Bundle.listD (uB B) U H ∧ va_Z "ObjectLinks" "WIDTHS" "[I" (.ref tW) (uB B) U H ∧ va_T .int tW 5 wid_ (uB B) U H
def dc_ : List String := ["java/lang/RuntimeException", "java/lang/Exception", "java/lang/Throwable"]
theorem nwD {x : MethodName} {s U : State} (hW : s.WarmedH U.vm) (hZ : va_Nw (.declares x) s) : va_Nw (.declares x) U := va_tabs rfl (rfl : (s.setVm U.vm).vm = U.vm) (by rw [Cond.declares_setVm hW.alike]; exact hZ)
def KT (D : GD) (U : State) : Prop :=
  (∀ (c : Nat) (q : vw_C), cls_[c]? = some q → u_Kn U q.1 q.2.1 q.2.2 (D.1 c) (D.2.1 c)) ∧ (∀ t, t < 8 → ArrOfT U (D.2.2 t) (aty t) ∧ va_RA U (D.2.2 t) (aty t)) ∧
  (∀ q ∈ nwM, va_Nw (.methodLinkNest q.1 q.2.1 q.2.2.1 q.2.2.2) U) ∧ (∀ q ∈ nwF, va_Nw (.fieldLinkNest q.1 q.2.1 q.2.2.1 q.2.2.2.1 q.2.2.2.2.1 q.2.2.2.2.2) U) ∧ (∀ q ∈ nwC, va_Nw (.castable q.1 q.2) U) ∧
  (∀ C ∈ ao_, va_AO C U) ∧ (∀ q ∈ nc_, va_Nc q.1 q.2 U) ∧ (∀ q ∈ st_, ∃ a, vk_R q.1 q.2.1 q.2.2 a U) ∧ (∀ q ∈ dc_, va_Nw (.declares ⟨q, "<init>", "(Ljava/lang/String;)V"⟩) U)
def KS (D : GD) (B tW : Nat) (U : State) : Prop := KT D U ∧ KH B tW U U.heap
theorem KT.to {D : GD} {s U : State} (h : KT D s) (hW : s.WarmedH U.vm) : KT D U := by
  obtain ⟨h1, h2, h3, h4, h5, h6, h7, h8, h9⟩ := h
  refine ⟨fun c q hq => u_Kn_moved hW.alike (h1 c q hq), fun t ht => ⟨arrOfT_moved hW.alike (h2 t ht).1, (h2 t ht).2.moved hW.alike⟩, fun q hq => va_Nw.warmM hW (h3 q hq), fun q hq => va_Nw.warmF hW (h4 q hq), fun q hq => va_Nw.warmC hW (h5 q hq), fun C hC => va_AO.moved hW.alike (h6 C hC), fun q hq => va_Nc.moved hW.alike (h7 q hq), fun q hq => ?_, fun q hq => nwD hW (h9 q hq)⟩
  obtain ⟨a, ha⟩ := h8 q hq
  exact ⟨a, vk_R.warm hW ha⟩
theorem KH.to {B tW : Nat} {s U : State} {H H' : Heap} (h : KH B tW s H) (hW : s.vm.Alike U.vm) (hq : ∀ q : Nat, q < H.size → ¬ uB B q → H'[q]? = H[q]?) : KH B tW U H' :=
  ⟨(h.1.kept hq).moved hW, (h.2.1.kept hq).moved hW, (h.2.2.1.kept hq).moved hW, (h.2.2.2.kept hq).moved hW⟩
theorem KS.to {D : GD} {B tW : Nat} {s U : State} (h : KS D B tW s) (hW : s.WarmedH U.vm) (hq : ∀ q : Nat, q < s.heap.size → ¬ uB B q → U.heap[q]? = s.heap[q]?) : KS D B tW U :=
  ⟨h.1.to hW, h.2.to hW.alike hq⟩
abbrev PoT : Type := Option SV → Nu → Io → Ro → Lo → Prop
abbrev PxT : Type := String → Nu → Io → Ro → Lo → Prop
/-- names that were there stay, at their places -/
def agr (α0 : Ad) (ν0 : Nu) (α : Ad) (ν : Nu) : Prop := (∀ r i j, ν0 r i j ≠ none → ν r i j ≠ none) ∧ ∀ r i j, 98 ≤ r ∨ ν0 r i j ≠ none → α r i j = α0 r i j
theorem agr.rf {α : Ad} {ν : Nu} : agr α ν α ν := ⟨fun _ _ _ h => h, fun _ _ _ _ => rfl⟩
theorem agr.tr {α0 α1 α2 : Ad} {ν0 ν1 ν2 : Nu} (h : agr α0 ν0 α1 ν1) (k : agr α1 ν1 α2 ν2) : agr α0 ν0 α2 ν2 :=
  ⟨fun r i j h0 => k.1 r i j (h.1 r i j h0), fun r i j h0 => by rw [k.2 r i j (h0.imp id (h.1 r i j)), h.2 r i j h0]⟩
theorem agr.alv {α0 α1 : Ad} {ν0 ν1 : Nu} (h : agr α0 ν0 α1 ν1) (q : Pt3) (hq : alv ν0 q) : alv ν1 q := hq.imp (h.1 _ _ _) id
def cP (D : GD) (B tW : Nat) (α : Ad) (ν : Nu) (ι : Io) (ρ : Ro) (ℓ : Lo) (as : List SV) : Array Value → State → Prop := fun a U => a = (as.map (enc α)).toArray ∧ Rh D B α ν ι ρ ℓ U.heap ∧ KS D B tW U ∧ α 99 0 0 = tW ∧ wfl ν as
def cQ (D : GD) (B : Nat) (α0 : Ad) (ν0 : Nu) (Po : PoT) : Array Value → State → Outcome → State → Prop := fun _ st oc t => (∃ (α : Ad) (ν : Nu) (ι : Io) (ρ : Ro) (ℓ : Lo) (v : Option SV), oc = .returned (v.map (enc α)) ∧ Po v ν ι ρ ℓ ∧ Rh D B α ν ι ρ ℓ t.heap ∧ agr α0 ν0 α ν ∧ (∀ w, v = some w → wfv ν w)) ∧ va_F (uB B) st t
def cX (D : GD) (B : Nat) (α0 : Ad) (ν0 : Nu) (PX : PxT) : String → State → State → Prop := fun E st t => (∃ (α : Ad) (ν : Nu) (ι : Io) (ρ : Ro) (ℓ : Lo), PX E ν ι ρ ℓ ∧ Rh D B α ν ι ρ ℓ t.heap ∧ agr α0 ν0 α ν) ∧ va_F (uB B) st t
/-- THE CONTRACT of a method: from the named state, at these arguments: it returns with Po, or throws with PX -/
def Ct (y : MethodName) (ws : List Cond) (rm : Room) (as : List SV) (ν : Nu) (ι : Io) (ρ : Ro) (ℓ : Lo) (Po : PoT) (PX : PxT) : Prop :=
  ∀ (l : Launch) (D : GD) (B tW : Nat) (α : Ad), l.stackTraces = false → vx_Met l y ws rm (cP D B tW α ν ι ρ ℓ as) (cQ D B α ν Po) (cX D B α ν PX) rm.cells rm.slots (uB B)
abbrev noX : PxT := fun _ _ _ _ _ => False
