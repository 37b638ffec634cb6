def R_Li : String := "ObjectLinks$Linker"
def F_Li : u_T := fun k => match k with
  | 0 => ("ObjectLinks$Linker", "units", "[LObjectLinks$Unit;", true)
  | 1 => ("ObjectLinks$Linker", "order", "[I", true)
  | 2 => ("ObjectLinks$Linker", "chosen", "I", false)
  | 3 => ("ObjectLinks$Linker", "table", "LObjectLinks$NameTable;", true)
  | 4 => ("ObjectLinks$Linker", "reached", "[Z", true)
  | 5 => ("ObjectLinks$Linker", "queue", "[I", true)
  | 6 => ("ObjectLinks$Linker", "queued", "I", false)
  | 7 => ("ObjectLinks$Linker", "places", "[I", true)
  | 8 => ("ObjectLinks$Linker", "present", "Z", false)
  | 9 => ("ObjectLinks$Linker", "base", "I", false)
  | 10 => ("ObjectLinks$Linker", "content", "[I", true)
  | 11 => ("ObjectLinks$Linker", "length", "I", false)
  | 12 => ("ObjectLinks$Linker", "sectionsIn", "I", false)
  | 13 => ("ObjectLinks$Linker", "commonsIn", "I", false)
  | 14 => ("ObjectLinks$Linker", "gapBytes", "I", false)
  | 15 => ("ObjectLinks$Linker", "faultSort", "I", false)
  | 16 => ("ObjectLinks$Linker", "faultObject", "I", false)
  | _ => ("ObjectLinks$Linker", "faultNumber", "I", false)
def t_Li : Nat → FieldType := fun k => match k with
  | 0 => .array (.object "ObjectLinks$Unit")
  | 1 => .array .int
  | 2 => .int
  | 3 => .object "ObjectLinks$NameTable"
  | 4 => .array .boolean
  | 5 => .array .int
  | 6 => .int
  | 7 => .array .int
  | 8 => .boolean
  | 9 => .int
  | 10 => .array .int
  | 11 => .int
  | 12 => .int
  | 13 => .int
  | 14 => .int
  | 15 => .int
  | 16 => .int
  | _ => .int
theorem n_Li : ∀ a, a < 18 → ∀ b, b < 18 → a ≠ b → (F_Li a).2.1 ≠ (F_Li b).2.1 := by decide +kernel
theorem t_Li_ok : ∀ k, k < 18 → parseFieldDescriptor (F_Li k).2.2.1 = some (t_Li k) := by decide +kernel
def R_Me : String := "ObjectLinks$Meaning"
def F_Me : u_T := fun k => match k with
  | 0 => ("ObjectLinks$Meaning", "number", "I", false)
  | 1 => ("ObjectLinks$Meaning", "sort", "I", false)
  | 2 => ("ObjectLinks$Meaning", "slot", "I", false)
  | 3 => ("ObjectLinks$Meaning", "place", "I", false)
  | 4 => ("ObjectLinks$Meaning", "power", "I", false)
  | 5 => ("ObjectLinks$Meaning", "size", "I", false)
  | 6 => ("ObjectLinks$Meaning", "reached", "Z", false)
  | _ => ("ObjectLinks$Meaning", "address", "I", false)
def t_Me : Nat → FieldType := fun k => match k with
  | 0 => .int
  | 1 => .int
  | 2 => .int
  | 3 => .int
  | 4 => .int
  | 5 => .int
  | 6 => .boolean
  | _ => .int
theorem n_Me : ∀ a, a < 8 → ∀ b, b < 8 → a ≠ b → (F_Me a).2.1 ≠ (F_Me b).2.1 := by decide +kernel
theorem t_Me_ok : ∀ k, k < 8 → parseFieldDescriptor (F_Me k).2.2.1 = some (t_Me k) := by decide +kernel
def R_Na : String := "ObjectLinks$Name"
def F_Na : u_T := fun k => match k with
  | 0 => ("ObjectLinks$Name", "number", "I", true)
  | 1 => ("ObjectLinks$Name", "sort", "I", true)
  | 2 => ("ObjectLinks$Name", "section", "I", true)
  | _ => ("ObjectLinks$Name", "place", "I", true)
def t_Na : Nat → FieldType := fun k => match k with
  | 0 => .int
  | 1 => .int
  | 2 => .int
  | _ => .int
theorem n_Na : ∀ a, a < 4 → ∀ b, b < 4 → a ≠ b → (F_Na a).2.1 ≠ (F_Na b).2.1 := by decide +kernel
theorem t_Na_ok : ∀ k, k < 4 → parseFieldDescriptor (F_Na k).2.2.1 = some (t_Na k) := by decide +kernel
def R_NT : String := "ObjectLinks$NameTable"
def F_NT : u_T := fun k => match k with
  | 0 => ("ObjectLinks$NameTable", "meanings", "[LObjectLinks$Meaning;", true)
  | 1 => ("ObjectLinks$NameTable", "size", "I", false)
  | 2 => ("ObjectLinks$NameTable", "meant", "[LObjectLinks$Meaning;", true)
  | 3 => ("ObjectLinks$NameTable", "commons", "[LObjectLinks$Meaning;", true)
  | _ => ("ObjectLinks$NameTable", "commonCount", "I", false)
def t_NT : Nat → FieldType := fun k => match k with
  | 0 => .array (.object "ObjectLinks$Meaning")
  | 1 => .int
  | 2 => .array (.object "ObjectLinks$Meaning")
  | 3 => .array (.object "ObjectLinks$Meaning")
  | _ => .int
theorem n_NT : ∀ a, a < 5 → ∀ b, b < 5 → a ≠ b → (F_NT a).2.1 ≠ (F_NT b).2.1 := by decide +kernel
theorem t_NT_ok : ∀ k, k < 5 → parseFieldDescriptor (F_NT k).2.2.1 = some (t_NT k) := by decide +kernel
def R_Oc : String := "ObjectLinks$Octets"
def F_Oc : u_T := fun k => match k with
  | 0 => ("ObjectLinks$Octets", "row", "[I", true)
  | _ => ("ObjectLinks$Octets", "length", "I", false)
def t_Oc : Nat → FieldType := fun k => match k with
  | 0 => .array .int
  | _ => .int
theorem n_Oc : ∀ a, a < 2 → ∀ b, b < 2 → a ≠ b → (F_Oc a).2.1 ≠ (F_Oc b).2.1 := by decide +kernel
theorem t_Oc_ok : ∀ k, k < 2 → parseFieldDescriptor (F_Oc k).2.2.1 = some (t_Oc k) := by decide +kernel
def R_Re : String := "ObjectLinks$Reader"
def F_Re : u_T := fun k => match k with
  | 0 => ("ObjectLinks$Reader", "row", "[I", true)
  | 1 => ("ObjectLinks$Reader", "end", "I", true)
  | 2 => ("ObjectLinks$Reader", "at", "I", false)
  | _ => ("ObjectLinks$Reader", "broken", "Z", false)
def t_Re : Nat → FieldType := fun k => match k with
  | 0 => .array .int
  | 1 => .int
  | 2 => .int
  | _ => .boolean
theorem n_Re : ∀ a, a < 4 → ∀ b, b < 4 → a ≠ b → (F_Re a).2.1 ≠ (F_Re b).2.1 := by decide +kernel
theorem t_Re_ok : ∀ k, k < 4 → parseFieldDescriptor (F_Re k).2.2.1 = some (t_Re k) := by decide +kernel
def R_Rf : String := "ObjectLinks$Reference"
def F_Rf : u_T := fun k => match k with
  | 0 => ("ObjectLinks$Reference", "section", "I", true)
  | 1 => ("ObjectLinks$Reference", "place", "I", true)
  | 2 => ("ObjectLinks$Reference", "way", "I", true)
  | 3 => ("ObjectLinks$Reference", "name", "I", true)
  | _ => ("ObjectLinks$Reference", "addend", "I", true)
def t_Rf : Nat → FieldType := fun k => match k with
  | 0 => .int
  | 1 => .int
  | 2 => .int
  | 3 => .int
  | _ => .int
theorem n_Rf : ∀ a, a < 5 → ∀ b, b < 5 → a ≠ b → (F_Rf a).2.1 ≠ (F_Rf b).2.1 := by decide +kernel
theorem t_Rf_ok : ∀ k, k < 5 → parseFieldDescriptor (F_Rf k).2.2.1 = some (t_Rf k) := by decide +kernel
def R_Se : String := "ObjectLinks$Section"
def F_Se : u_T := fun k => match k with
  | 0 => ("ObjectLinks$Section", "kind", "I", true)
  | 1 => ("ObjectLinks$Section", "power", "I", true)
  | 2 => ("ObjectLinks$Section", "length", "I", true)
  | _ => ("ObjectLinks$Section", "data", "[I", true)
def t_Se : Nat → FieldType := fun k => match k with
  | 0 => .int
  | 1 => .int
  | 2 => .int
  | _ => .array .int
theorem n_Se : ∀ a, a < 4 → ∀ b, b < 4 → a ≠ b → (F_Se a).2.1 ≠ (F_Se b).2.1 := by decide +kernel
theorem t_Se_ok : ∀ k, k < 4 → parseFieldDescriptor (F_Se k).2.2.1 = some (t_Se k) := by decide +kernel
def R_Un : String := "ObjectLinks$Unit"
def F_Un : u_T := fun k => match k with
  | 0 => ("ObjectLinks$Unit", "sections", "[LObjectLinks$Section;", true)
  | 1 => ("ObjectLinks$Unit", "sectionCount", "I", false)
  | 2 => ("ObjectLinks$Unit", "names", "[LObjectLinks$Name;", true)
  | 3 => ("ObjectLinks$Unit", "nameCount", "I", false)
  | 4 => ("ObjectLinks$Unit", "references", "[LObjectLinks$Reference;", true)
  | _ => ("ObjectLinks$Unit", "referenceCount", "I", false)
def t_Un : Nat → FieldType := fun k => match k with
  | 0 => .array (.object "ObjectLinks$Section")
  | 1 => .int
  | 2 => .array (.object "ObjectLinks$Name")
  | 3 => .int
  | 4 => .array (.object "ObjectLinks$Reference")
  | _ => .int
theorem n_Un : ∀ a, a < 6 → ∀ b, b < 6 → a ≠ b → (F_Un a).2.1 ≠ (F_Un b).2.1 := by decide +kernel
theorem t_Un_ok : ∀ k, k < 6 → parseFieldDescriptor (F_Un k).2.2.1 = some (t_Un k) := by decide +kernel
def R_OL : String := "ObjectLinks"
def F_OL : u_T := fun k => match k with
  | 0 => ("ObjectLinks", "units", "[LObjectLinks$Unit;", true)
  | 1 => ("ObjectLinks", "unitCount", "I", false)
  | 2 => ("ObjectLinks", "linker", "LObjectLinks$Linker;", true)
  | _ => ("ObjectLinks", "octets", "LObjectLinks$Octets;", true)
def t_OL : Nat → FieldType := fun k => match k with
  | 0 => .array (.object "ObjectLinks$Unit")
  | 1 => .int
  | 2 => .object "ObjectLinks$Linker"
  | _ => .object "ObjectLinks$Octets"
theorem n_OL : ∀ a, a < 4 → ∀ b, b < 4 → a ≠ b → (F_OL a).2.1 ≠ (F_OL b).2.1 := by decide +kernel
theorem t_OL_ok : ∀ k, k < 4 → parseFieldDescriptor (F_OL k).2.2.1 = some (t_OL k) := by decide +kernel
def R_Mo : String := "ObjectLinksModel"
def F_Mo : u_T := fun k => match k with
  | 0 => ("ObjectLinksModel", "thrown", "I", false)
  | 1 => ("ObjectLinksModel", "objects", "I", false)
  | 2 => ("ObjectLinksModel", "sections", "[I", true)
  | 3 => ("ObjectLinksModel", "kind", "[I", true)
  | 4 => ("ObjectLinksModel", "power", "[I", true)
  | 5 => ("ObjectLinksModel", "length", "[I", true)
  | 6 => ("ObjectLinksModel", "data", "[I", true)
  | 7 => ("ObjectLinksModel", "names", "[I", true)
  | 8 => ("ObjectLinksModel", "number", "[I", true)
  | 9 => ("ObjectLinksModel", "sort", "[I", true)
  | 10 => ("ObjectLinksModel", "where", "[I", true)
  | 11 => ("ObjectLinksModel", "size", "[I", true)
  | 12 => ("ObjectLinksModel", "references", "[I", true)
  | 13 => ("ObjectLinksModel", "refSection", "[I", true)
  | 14 => ("ObjectLinksModel", "refPlace", "[I", true)
  | 15 => ("ObjectLinksModel", "refWay", "[I", true)
  | 16 => ("ObjectLinksModel", "refName", "[I", true)
  | 17 => ("ObjectLinksModel", "refAddend", "[I", true)
  | 18 => ("ObjectLinksModel", "chosen", "I", false)
  | 19 => ("ObjectLinksModel", "choice", "[I", true)
  | 20 => ("ObjectLinksModel", "base", "I", false)
  | 21 => ("ObjectLinksModel", "reached", "[Z", true)
  | 22 => ("ObjectLinksModel", "common", "[Z", true)
  | 23 => ("ObjectLinksModel", "commonAt", "[I", true)
  | 24 => ("ObjectLinksModel", "lies", "[I", true)
  | 25 => ("ObjectLinksModel", "fault", "I", false)
  | 26 => ("ObjectLinksModel", "faultObject", "I", false)
  | 27 => ("ObjectLinksModel", "faultNumber", "I", false)
  | 28 => ("ObjectLinksModel", "isImage", "Z", false)
  | 29 => ("ObjectLinksModel", "imageSize", "I", false)
  | 30 => ("ObjectLinksModel", "imageSections", "I", false)
  | 31 => ("ObjectLinksModel", "imageGaps", "I", false)
  | 32 => ("ObjectLinksModel", "imageCommons", "I", false)
  | 33 => ("ObjectLinksModel", "image", "[I", true)
  | 34 => ("ObjectLinksModel", "known", "I", false)
  | 35 => ("ObjectLinksModel", "knownName", "[I", true)
  | 36 => ("ObjectLinksModel", "knownAt", "[I", true)
  | 37 => ("ObjectLinksModel", "written", "I", false)
  | 38 => ("ObjectLinksModel", "bytes", "[I", true)
  | 39 => ("ObjectLinksModel", "at", "I", false)
  | 40 => ("ObjectLinksModel", "good", "Z", false)
  | _ => ("ObjectLinksModel", "end", "I", false)
def t_Mo : Nat → FieldType := fun k => match k with
  | 0 => .int
  | 1 => .int
  | 2 => .array .int
  | 3 => .array .int
  | 4 => .array .int
  | 5 => .array .int
  | 6 => .array .int
  | 7 => .array .int
  | 8 => .array .int
  | 9 => .array .int
  | 10 => .array .int
  | 11 => .array .int
  | 12 => .array .int
  | 13 => .array .int
  | 14 => .array .int
  | 15 => .array .int
  | 16 => .array .int
  | 17 => .array .int
  | 18 => .int
  | 19 => .array .int
  | 20 => .int
  | 21 => .array .boolean
  | 22 => .array .boolean
  | 23 => .array .int
  | 24 => .array .int
  | 25 => .int
  | 26 => .int
  | 27 => .int
  | 28 => .boolean
  | 29 => .int
  | 30 => .int
  | 31 => .int
  | 32 => .int
  | 33 => .array .int
  | 34 => .int
  | 35 => .array .int
  | 36 => .array .int
  | 37 => .int
  | 38 => .array .int
  | 39 => .int
  | 40 => .boolean
  | _ => .int
theorem n_Mo : ∀ a, a < 42 → ∀ b, b < 42 → a ≠ b → (F_Mo a).2.1 ≠ (F_Mo b).2.1 := by decide +kernel
theorem t_Mo_ok : ∀ k, k < 42 → parseFieldDescriptor (F_Mo k).2.2.1 = some (t_Mo k) := by decide +kernel
def R_La : String := "ObjectLinksLaw"
abbrev cls_ : List vw_C := [(R_Li, F_Li, 18), (R_Me, F_Me, 8), (R_Na, F_Na, 4), (R_NT, F_NT, 5), (R_Oc, F_Oc, 2), (R_Re, F_Re, 4), (R_Rf, F_Rf, 5), (R_Se, F_Se, 4), (R_Un, F_Un, 6), (R_OL, F_OL, 4), (R_Mo, F_Mo, 42)]
def oty (r : Nat) (k : Nat) : FieldType := match r with
  | 0 => t_Li k
  | 1 => t_Me k
  | 2 => t_Na k
  | 3 => t_NT k
  | 4 => t_Oc k
  | 5 => t_Re k
  | 6 => t_Rf k
  | 7 => t_Se k
  | 8 => t_Un k
  | 9 => t_OL k
  | _ => t_Mo k
def aty (t : Nat) : FieldType := match t with
  | 0 => .int
  | 1 => .boolean
  | 2 => .long
  | 3 => .object "ObjectLinks$Unit"
  | 4 => .object "ObjectLinks$Section"
  | 5 => .object "ObjectLinks$Name"
  | 6 => .object "ObjectLinks$Reference"
  | _ => .object "ObjectLinks$Meaning"
/-- which kind of array a role is -/
def art (r : Nat) : Nat := match r with
  | 20 => 3
  | 21 => 4
  | 22 => 5
  | 23 => 6
  | 26 => 3
  | 28 => 1
  | 32 => 7
  | 33 => 7
  | 34 => 7
  | 61 => 1
  | 62 => 1
  | 90 => 2
  | _ => 0
def slt (r k : Nat) : FieldType := if r < 20 then oty r k else aty (art r)
def kd (t : FieldType) : Nat := match t with
  | .int => 0 | .boolean => 0 | .long => 2 | .object _ => 1 | .array _ => 1 | _ => 3
def tb_ : List Cond := lw_tbl.filter goodWord
theorem tb_in {w : Cond} (i : Nat) (h : lw_tbl[i]? = some w) (hg : goodWord w = true) : w ∈ tb_ := List.mem_filter.mpr ⟨List.mem_of_getElem? h, hg⟩
theorem tb_good : ∀ w ∈ tb_, goodWord w = true := fun w h => (List.mem_filter.mp h).2
theorem i_Li : ∀ w ∈ u_ws R_Li F_Li 18, w ∈ tb_ := by
  intro w h
  exact List.mem_filter.mpr ⟨(by revert w; decide +kernel : ∀ w ∈ u_ws R_Li F_Li 18, w ∈ lw_tbl) w h, (by revert w; decide +kernel : ∀ w ∈ u_ws R_Li F_Li 18, goodWord w = true) w h⟩
theorem i_Me : ∀ w ∈ u_ws R_Me F_Me 8, w ∈ tb_ := by
  intro w h
  exact List.mem_filter.mpr ⟨(by revert w; decide +kernel : ∀ w ∈ u_ws R_Me F_Me 8, w ∈ lw_tbl) w h, (by revert w; decide +kernel : ∀ w ∈ u_ws R_Me F_Me 8, goodWord w = true) w h⟩
theorem i_Na : ∀ w ∈ u_ws R_Na F_Na 4, w ∈ tb_ := by
  intro w h
  exact List.mem_filter.mpr ⟨(by revert w; decide +kernel : ∀ w ∈ u_ws R_Na F_Na 4, w ∈ lw_tbl) w h, (by revert w; decide +kernel : ∀ w ∈ u_ws R_Na F_Na 4, goodWord w = true) w h⟩
theorem i_NT : ∀ w ∈ u_ws R_NT F_NT 5, w ∈ tb_ := by
  intro w h
  exact List.mem_filter.mpr ⟨(by revert w; decide +kernel : ∀ w ∈ u_ws R_NT F_NT 5, w ∈ lw_tbl) w h, (by revert w; decide +kernel : ∀ w ∈ u_ws R_NT F_NT 5, goodWord w = true) w h⟩
theorem i_Oc : ∀ w ∈ u_ws R_Oc F_Oc 2, w ∈ tb_ := by
  intro w h
  exact List.mem_filter.mpr ⟨(by revert w; decide +kernel : ∀ w ∈ u_ws R_Oc F_Oc 2, w ∈ lw_tbl) w h, (by revert w; decide +kernel : ∀ w ∈ u_ws R_Oc F_Oc 2, goodWord w = true) w h⟩
theorem i_Re : ∀ w ∈ u_ws R_Re F_Re 4, w ∈ tb_ := by
  intro w h
  exact List.mem_filter.mpr ⟨(by revert w; decide +kernel : ∀ w ∈ u_ws R_Re F_Re 4, w ∈ lw_tbl) w h, (by revert w; decide +kernel : ∀ w ∈ u_ws R_Re F_Re 4, goodWord w = true) w h⟩
theorem i_Rf : ∀ w ∈ u_ws R_Rf F_Rf 5, w ∈ tb_ := by
  intro w h
  exact List.mem_filter.mpr ⟨(by revert w; decide +kernel : ∀ w ∈ u_ws R_Rf F_Rf 5, w ∈ lw_tbl) w h, (by revert w; decide +kernel : ∀ w ∈ u_ws R_Rf F_Rf 5, goodWord w = true) w h⟩
theorem i_Se : ∀ w ∈ u_ws R_Se F_Se 4, w ∈ tb_ := by
  intro w h
  exact List.mem_filter.mpr ⟨(by revert w; decide +kernel : ∀ w ∈ u_ws R_Se F_Se 4, w ∈ lw_tbl) w h, (by revert w; decide +kernel : ∀ w ∈ u_ws R_Se F_Se 4, goodWord w = true) w h⟩
theorem i_Un : ∀ w ∈ u_ws R_Un F_Un 6, w ∈ tb_ := by
  intro w h
  exact List.mem_filter.mpr ⟨(by revert w; decide +kernel : ∀ w ∈ u_ws R_Un F_Un 6, w ∈ lw_tbl) w h, (by revert w; decide +kernel : ∀ w ∈ u_ws R_Un F_Un 6, goodWord w = true) w h⟩
theorem i_OL : ∀ w ∈ u_ws R_OL F_OL 4, w ∈ tb_ := by
  intro w h
  exact List.mem_filter.mpr ⟨(by revert w; decide +kernel : ∀ w ∈ u_ws R_OL F_OL 4, w ∈ lw_tbl) w h, (by revert w; decide +kernel : ∀ w ∈ u_ws R_OL F_OL 4, goodWord w = true) w h⟩
theorem i_Mo : ∀ w ∈ u_ws R_Mo F_Mo 42, w ∈ tb_ := by
  intro w h
  exact List.mem_filter.mpr ⟨(by revert w; decide +kernel : ∀ w ∈ u_ws R_Mo F_Mo 42, w ∈ lw_tbl) w h, (by revert w; decide +kernel : ∀ w ∈ u_ws R_Mo F_Mo 42, goodWord w = true) w h⟩
