/-! classes, their fields in the order of the slots, and all words at once -/
def F_D : u_T := fun k => match k with
  | 0 => ("PatternValidator$Document", "nodes", "[LPatternValidator$Node;", true)
  | 1 => ("PatternValidator$Document", "size", "I", false)
  | 2 => ("PatternValidator$Document", "path", "[I", true)
  | _ => ("PatternValidator$Document", "deep", "I", false)
def ft_D : Nat → FieldType := fun k => match k with
  | 0 => .array (.object "PatternValidator$Node")
  | 1 => .int
  | 2 => .array .int
  | _ => .int
theorem n_D : ∀ a, a < 4 → ∀ b, b < 4 → a ≠ b → (F_D a).2.1 ≠ (F_D b).2.1 := by decide +kernel
theorem ft_D_ok : ∀ k, k < 4 → parseFieldDescriptor (F_D k).2.2.1 = some (ft_D k) := by decide +kernel
def F_G : u_T := fun k => match k with
  | 0 => ("PatternValidator$Grammar", "kinds", "[I", true)
  | 1 => ("PatternValidator$Grammar", "firsts", "[I", true)
  | 2 => ("PatternValidator$Grammar", "seconds", "[I", true)
  | 3 => ("PatternValidator$Grammar", "depths", "[I", true)
  | 4 => ("PatternValidator$Grammar", "made", "I", false)
  | 5 => ("PatternValidator$Grammar", "given", "[I", true)
  | 6 => ("PatternValidator$Grammar", "order", "[I", true)
  | 7 => ("PatternValidator$Grammar", "listed", "I", false)
  | _ => ("PatternValidator$Grammar", "seen", "J", false)
def ft_G : Nat → FieldType := fun k => match k with
  | 0 => .array .int
  | 1 => .array .int
  | 2 => .array .int
  | 3 => .array .int
  | 4 => .int
  | 5 => .array .int
  | 6 => .array .int
  | 7 => .int
  | _ => .long
theorem n_G : ∀ a, a < 9 → ∀ b, b < 9 → a ≠ b → (F_G a).2.1 ≠ (F_G b).2.1 := by decide +kernel
theorem ft_G_ok : ∀ k, k < 9 → parseFieldDescriptor (F_G k).2.2.1 = some (ft_G k) := by decide +kernel
def F_T : u_T := fun k => match k with
  | 0 => ("PatternValidator$Matcher", "grammar", "LPatternValidator$Grammar;", true)
  | 1 => ("PatternValidator$Matcher", "document", "LPatternValidator$Document;", true)
  | 2 => ("PatternValidator$Matcher", "beside", "[J", true)
  | 3 => ("PatternValidator$Matcher", "behind", "[J", true)
  | 4 => ("PatternValidator$Matcher", "rows", "[J", true)
  | 5 => ("PatternValidator$Matcher", "sets", "I", false)
  | _ => ("PatternValidator$Matcher", "lone", "LPatternValidator$Node;", true)
def ft_T : Nat → FieldType := fun k => match k with
  | 0 => .object "PatternValidator$Grammar"
  | 1 => .object "PatternValidator$Document"
  | 2 => .array .long
  | 3 => .array .long
  | 4 => .array .long
  | 5 => .int
  | _ => .object "PatternValidator$Node"
theorem n_T : ∀ a, a < 7 → ∀ b, b < 7 → a ≠ b → (F_T a).2.1 ≠ (F_T b).2.1 := by decide +kernel
theorem ft_T_ok : ∀ k, k < 7 → parseFieldDescriptor (F_T k).2.2.1 = some (ft_T k) := by decide +kernel
def F_N : u_T := fun k => match k with
  | 0 => ("PatternValidator$Node", "name", "I", false)
  | 1 => ("PatternValidator$Node", "attributeNames", "[I", true)
  | 2 => ("PatternValidator$Node", "attributeValues", "[I", true)
  | 3 => ("PatternValidator$Node", "valueSuited", "[J", true)
  | 4 => ("PatternValidator$Node", "attributes", "I", false)
  | 5 => ("PatternValidator$Node", "childNodes", "[I", true)
  | 6 => ("PatternValidator$Node", "childTexts", "[I", true)
  | 7 => ("PatternValidator$Node", "children", "I", false)
  | _ => ("PatternValidator$Node", "suited", "J", false)
def ft_N : Nat → FieldType := fun k => match k with
  | 0 => .int
  | 1 => .array .int
  | 2 => .array .int
  | 3 => .array .long
  | 4 => .int
  | 5 => .array .int
  | 6 => .array .int
  | 7 => .int
  | _ => .long
theorem n_N : ∀ a, a < 9 → ∀ b, b < 9 → a ≠ b → (F_N a).2.1 ≠ (F_N b).2.1 := by decide +kernel
theorem ft_N_ok : ∀ k, k < 9 → parseFieldDescriptor (F_N k).2.2.1 = some (ft_N k) := by decide +kernel
def F_V : u_T := fun k => match k with
  | 0 => ("PatternValidator", "grammar", "LPatternValidator$Grammar;", true)
  | 1 => ("PatternValidator", "document", "LPatternValidator$Document;", true)
  | _ => ("PatternValidator", "matcher", "LPatternValidator$Matcher;", true)
def ft_V : Nat → FieldType := fun k => match k with
  | 0 => .object "PatternValidator$Grammar"
  | 1 => .object "PatternValidator$Document"
  | _ => .object "PatternValidator$Matcher"
theorem n_V : ∀ a, a < 3 → ∀ b, b < 3 → a ≠ b → (F_V a).2.1 ≠ (F_V b).2.1 := by decide +kernel
theorem ft_V_ok : ∀ k, k < 3 → parseFieldDescriptor (F_V k).2.2.1 = some (ft_V k) := by decide +kernel
def F_R : u_T := fun k => match k with
  | 0 => ("PatternValidatorModel", "thrown", "I", false)
  | 1 => ("PatternValidatorModel", "kind", "[I", true)
  | 2 => ("PatternValidatorModel", "pa", "[I", true)
  | 3 => ("PatternValidatorModel", "pb", "[I", true)
  | 4 => ("PatternValidatorModel", "depth", "[I", true)
  | 5 => ("PatternValidatorModel", "patterns", "I", false)
  | 6 => ("PatternValidatorModel", "given", "[I", true)
  | 7 => ("PatternValidatorModel", "name", "[I", true)
  | 8 => ("PatternValidatorModel", "above", "[I", true)
  | 9 => ("PatternValidatorModel", "deep", "[I", true)
  | 10 => ("PatternValidatorModel", "has", "[Z", true)
  | 11 => ("PatternValidatorModel", "value", "[I", true)
  | 12 => ("PatternValidatorModel", "child", "[I", true)
  | 13 => ("PatternValidatorModel", "text", "[I", true)
  | 14 => ("PatternValidatorModel", "children", "[I", true)
  | 15 => ("PatternValidatorModel", "nodes", "I", false)
  | 16 => ("PatternValidatorModel", "open", "I", false)
  | 17 => ("PatternValidatorModel", "match", "[J", true)
  | 18 => ("PatternValidatorModel", "full", "[Z", true)
  | 19 => ("PatternValidatorModel", "none", "[Z", true)
  | 20 => ("PatternValidatorModel", "single", "[Z", true)
  | 21 => ("PatternValidatorModel", "attributeOk", "[Z", true)
  | _ => ("PatternValidatorModel", "changed", "Z", false)
def ft_R : Nat → FieldType := fun k => match k with
  | 0 => .int
  | 1 => .array .int
  | 2 => .array .int
  | 3 => .array .int
  | 4 => .array .int
  | 5 => .int
  | 6 => .array .int
  | 7 => .array .int
  | 8 => .array .int
  | 9 => .array .int
  | 10 => .array .boolean
  | 11 => .array .int
  | 12 => .array .int
  | 13 => .array .int
  | 14 => .array .int
  | 15 => .int
  | 16 => .int
  | 17 => .array .long
  | 18 => .array .boolean
  | 19 => .array .boolean
  | 20 => .array .boolean
  | 21 => .array .boolean
  | _ => .boolean
theorem n_R : ∀ a, a < 23 → ∀ b, b < 23 → a ≠ b → (F_R a).2.1 ≠ (F_R b).2.1 := by decide +kernel
theorem ft_R_ok : ∀ k, k < 23 → parseFieldDescriptor (F_R k).2.2.1 = some (ft_R k) := by decide +kernel
abbrev vg_cl : List vw_C := [("PatternValidator$Document", F_D, 4), ("PatternValidator$Grammar", F_G, 9), ("PatternValidator$Matcher", F_T, 7), ("PatternValidator$Node", F_N, 9), ("PatternValidator", F_V, 3), ("PatternValidatorModel", F_R, 23)]
def vg_ws : List Cond := lw_tbl.filter goodWord
theorem vg_ws_good {w : Cond} (h : w ∈ vg_ws) : (w.onTables && w.keeps) = true ∨ ∃ ty, w = .arrayClass ty := good_of_word (List.mem_filter.mp h).2
/-- links to private members of nest mates -/
def vg_isN : Cond → Bool
  | .fieldLinkNest .. => true
  | .methodLinkNest .. => true
  | .declares .. => true
  | .castable .. => true
  | _ => false
def vg_nw : List Cond := tables_1.filter vg_isN
theorem vg_nw_tab {w : Cond} (h : w ∈ vg_nw) : w.onTables = true := by
  have g := (List.mem_filter.mp h).2
  cases w <;> first | rfl | (simp [vg_isN] at g; done)
theorem vg_nw_warm {w : Cond} {s U : State} (h : w ∈ vg_nw) (hW : s.WarmedH U.vm) (hz : va_Nw w s) : va_Nw w U := by
  have g := (List.mem_filter.mp h).2
  cases w <;> first | exact va_Nw.warmF hW hz | exact va_Nw.warmM hW hz | exact va_Nw.warmD hW hz | exact va_Nw.warmC hW hz | (simp [vg_isN] at g; done)
theorem vg_ni {i : Nat} {w : Cond} (h : tables_1[i]? = some w) (g : vg_isN w = true) : w ∈ vg_nw := List.mem_filter.mpr ⟨List.mem_of_getElem? h, g⟩
theorem vg_in {i : Nat} {w : Cond} (h : tables_1[i]? = some w) (g : goodWord w = true) : w ∈ vg_ws := List.mem_filter.mpr ⟨List.mem_append_right _ (List.mem_of_getElem? h), g⟩
theorem vg_se {i : Nat} {q : MethodName × Nat} (h : lw_privs[i]? = some q) (g : goodWord (Cond.selects q.1.cls q.1 q.1) = true) : Cond.selects q.1.cls q.1 q.1 ∈ vg_ws := List.mem_filter.mpr ⟨List.mem_append_left _ (List.mem_map.mpr ⟨q, List.mem_of_getElem? h, rfl⟩), g⟩
theorem lay_D_0 : u_lay "PatternValidator$Document" F_D 0 ∈ vg_ws := vg_in (i := 129) (by decide +kernel) (by decide +kernel)
theorem lay_D_1 : u_lay "PatternValidator$Document" F_D 1 ∈ vg_ws := vg_in (i := 131) (by decide +kernel) (by decide +kernel)
theorem lay_D_2 : u_lay "PatternValidator$Document" F_D 2 ∈ vg_ws := vg_in (i := 133) (by decide +kernel) (by decide +kernel)
theorem lay_D_3 : u_lay "PatternValidator$Document" F_D 3 ∈ vg_ws := vg_in (i := 135) (by decide +kernel) (by decide +kernel)
theorem in_D : ∀ w ∈ u_ws "PatternValidator$Document" F_D 4, w ∈ vg_ws := by
  intro w h
  obtain ⟨k, hk, rfl⟩ := List.mem_map.mp h
  have hk : k < 4 := List.mem_range.mp hk
  match k, hk with
  | 0, _ => exact lay_D_0
  | 1, _ => exact lay_D_1
  | 2, _ => exact lay_D_2
  | 3, _ => exact lay_D_3
  | k + 4, hk => exact absurd hk (by omega)
theorem lay_G_0 : u_lay "PatternValidator$Grammar" F_G 0 ∈ vg_ws := vg_in (i := 46) (by decide +kernel) (by decide +kernel)
theorem lay_G_1 : u_lay "PatternValidator$Grammar" F_G 1 ∈ vg_ws := vg_in (i := 48) (by decide +kernel) (by decide +kernel)
theorem lay_G_2 : u_lay "PatternValidator$Grammar" F_G 2 ∈ vg_ws := vg_in (i := 50) (by decide +kernel) (by decide +kernel)
theorem lay_G_3 : u_lay "PatternValidator$Grammar" F_G 3 ∈ vg_ws := vg_in (i := 52) (by decide +kernel) (by decide +kernel)
theorem lay_G_4 : u_lay "PatternValidator$Grammar" F_G 4 ∈ vg_ws := vg_in (i := 54) (by decide +kernel) (by decide +kernel)
theorem lay_G_5 : u_lay "PatternValidator$Grammar" F_G 5 ∈ vg_ws := vg_in (i := 56) (by decide +kernel) (by decide +kernel)
theorem lay_G_6 : u_lay "PatternValidator$Grammar" F_G 6 ∈ vg_ws := vg_in (i := 58) (by decide +kernel) (by decide +kernel)
theorem lay_G_7 : u_lay "PatternValidator$Grammar" F_G 7 ∈ vg_ws := vg_in (i := 60) (by decide +kernel) (by decide +kernel)
theorem lay_G_8 : u_lay "PatternValidator$Grammar" F_G 8 ∈ vg_ws := vg_in (i := 62) (by decide +kernel) (by decide +kernel)
theorem in_G : ∀ w ∈ u_ws "PatternValidator$Grammar" F_G 9, w ∈ vg_ws := by
  intro w h
  obtain ⟨k, hk, rfl⟩ := List.mem_map.mp h
  have hk : k < 9 := List.mem_range.mp hk
  match k, hk with
  | 0, _ => exact lay_G_0
  | 1, _ => exact lay_G_1
  | 2, _ => exact lay_G_2
  | 3, _ => exact lay_G_3
  | 4, _ => exact lay_G_4
  | 5, _ => exact lay_G_5
  | 6, _ => exact lay_G_6
  | 7, _ => exact lay_G_7
  | 8, _ => exact lay_G_8
  | k + 9, hk => exact absurd hk (by omega)
theorem lay_T_0 : u_lay "PatternValidator$Matcher" F_T 0 ∈ vg_ws := vg_in (i := 156) (by decide +kernel) (by decide +kernel)
theorem lay_T_1 : u_lay "PatternValidator$Matcher" F_T 1 ∈ vg_ws := vg_in (i := 158) (by decide +kernel) (by decide +kernel)
theorem lay_T_2 : u_lay "PatternValidator$Matcher" F_T 2 ∈ vg_ws := vg_in (i := 160) (by decide +kernel) (by decide +kernel)
theorem lay_T_3 : u_lay "PatternValidator$Matcher" F_T 3 ∈ vg_ws := vg_in (i := 162) (by decide +kernel) (by decide +kernel)
theorem lay_T_4 : u_lay "PatternValidator$Matcher" F_T 4 ∈ vg_ws := vg_in (i := 164) (by decide +kernel) (by decide +kernel)
theorem lay_T_5 : u_lay "PatternValidator$Matcher" F_T 5 ∈ vg_ws := vg_in (i := 166) (by decide +kernel) (by decide +kernel)
theorem lay_T_6 : u_lay "PatternValidator$Matcher" F_T 6 ∈ vg_ws := vg_in (i := 168) (by decide +kernel) (by decide +kernel)
theorem in_T : ∀ w ∈ u_ws "PatternValidator$Matcher" F_T 7, w ∈ vg_ws := by
  intro w h
  obtain ⟨k, hk, rfl⟩ := List.mem_map.mp h
  have hk : k < 7 := List.mem_range.mp hk
  match k, hk with
  | 0, _ => exact lay_T_0
  | 1, _ => exact lay_T_1
  | 2, _ => exact lay_T_2
  | 3, _ => exact lay_T_3
  | 4, _ => exact lay_T_4
  | 5, _ => exact lay_T_5
  | 6, _ => exact lay_T_6
  | k + 7, hk => exact absurd hk (by omega)
theorem lay_N_0 : u_lay "PatternValidator$Node" F_N 0 ∈ vg_ws := vg_in (i := 100) (by decide +kernel) (by decide +kernel)
theorem lay_N_1 : u_lay "PatternValidator$Node" F_N 1 ∈ vg_ws := vg_in (i := 102) (by decide +kernel) (by decide +kernel)
theorem lay_N_2 : u_lay "PatternValidator$Node" F_N 2 ∈ vg_ws := vg_in (i := 104) (by decide +kernel) (by decide +kernel)
theorem lay_N_3 : u_lay "PatternValidator$Node" F_N 3 ∈ vg_ws := vg_in (i := 106) (by decide +kernel) (by decide +kernel)
theorem lay_N_4 : u_lay "PatternValidator$Node" F_N 4 ∈ vg_ws := vg_in (i := 108) (by decide +kernel) (by decide +kernel)
theorem lay_N_5 : u_lay "PatternValidator$Node" F_N 5 ∈ vg_ws := vg_in (i := 110) (by decide +kernel) (by decide +kernel)
theorem lay_N_6 : u_lay "PatternValidator$Node" F_N 6 ∈ vg_ws := vg_in (i := 112) (by decide +kernel) (by decide +kernel)
theorem lay_N_7 : u_lay "PatternValidator$Node" F_N 7 ∈ vg_ws := vg_in (i := 114) (by decide +kernel) (by decide +kernel)
theorem lay_N_8 : u_lay "PatternValidator$Node" F_N 8 ∈ vg_ws := vg_in (i := 116) (by decide +kernel) (by decide +kernel)
theorem in_N : ∀ w ∈ u_ws "PatternValidator$Node" F_N 9, w ∈ vg_ws := by
  intro w h
  obtain ⟨k, hk, rfl⟩ := List.mem_map.mp h
  have hk : k < 9 := List.mem_range.mp hk
  match k, hk with
  | 0, _ => exact lay_N_0
  | 1, _ => exact lay_N_1
  | 2, _ => exact lay_N_2
  | 3, _ => exact lay_N_3
  | 4, _ => exact lay_N_4
  | 5, _ => exact lay_N_5
  | 6, _ => exact lay_N_6
  | 7, _ => exact lay_N_7
  | 8, _ => exact lay_N_8
  | k + 9, hk => exact absurd hk (by omega)
theorem lay_V_0 : u_lay "PatternValidator" F_V 0 ∈ vg_ws := vg_in (i := 174) (by decide +kernel) (by decide +kernel)
theorem lay_V_1 : u_lay "PatternValidator" F_V 1 ∈ vg_ws := vg_in (i := 176) (by decide +kernel) (by decide +kernel)
theorem lay_V_2 : u_lay "PatternValidator" F_V 2 ∈ vg_ws := vg_in (i := 178) (by decide +kernel) (by decide +kernel)
theorem in_V : ∀ w ∈ u_ws "PatternValidator" F_V 3, w ∈ vg_ws := by
  intro w h
  obtain ⟨k, hk, rfl⟩ := List.mem_map.mp h
  have hk : k < 3 := List.mem_range.mp hk
  match k, hk with
  | 0, _ => exact lay_V_0
  | 1, _ => exact lay_V_1
  | 2, _ => exact lay_V_2
  | k + 3, hk => exact absurd hk (by omega)
theorem lay_R_0 : u_lay "PatternValidatorModel" F_R 0 ∈ vg_ws := vg_in (i := 605) (by decide +kernel) (by decide +kernel)
theorem lay_R_1 : u_lay "PatternValidatorModel" F_R 1 ∈ vg_ws := vg_in (i := 607) (by decide +kernel) (by decide +kernel)
theorem lay_R_2 : u_lay "PatternValidatorModel" F_R 2 ∈ vg_ws := vg_in (i := 609) (by decide +kernel) (by decide +kernel)
theorem lay_R_3 : u_lay "PatternValidatorModel" F_R 3 ∈ vg_ws := vg_in (i := 611) (by decide +kernel) (by decide +kernel)
theorem lay_R_4 : u_lay "PatternValidatorModel" F_R 4 ∈ vg_ws := vg_in (i := 613) (by decide +kernel) (by decide +kernel)
theorem lay_R_5 : u_lay "PatternValidatorModel" F_R 5 ∈ vg_ws := vg_in (i := 615) (by decide +kernel) (by decide +kernel)
theorem lay_R_6 : u_lay "PatternValidatorModel" F_R 6 ∈ vg_ws := vg_in (i := 617) (by decide +kernel) (by decide +kernel)
theorem lay_R_7 : u_lay "PatternValidatorModel" F_R 7 ∈ vg_ws := vg_in (i := 619) (by decide +kernel) (by decide +kernel)
theorem lay_R_8 : u_lay "PatternValidatorModel" F_R 8 ∈ vg_ws := vg_in (i := 621) (by decide +kernel) (by decide +kernel)
theorem lay_R_9 : u_lay "PatternValidatorModel" F_R 9 ∈ vg_ws := vg_in (i := 623) (by decide +kernel) (by decide +kernel)
theorem lay_R_10 : u_lay "PatternValidatorModel" F_R 10 ∈ vg_ws := vg_in (i := 625) (by decide +kernel) (by decide +kernel)
theorem lay_R_11 : u_lay "PatternValidatorModel" F_R 11 ∈ vg_ws := vg_in (i := 627) (by decide +kernel) (by decide +kernel)
theorem lay_R_12 : u_lay "PatternValidatorModel" F_R 12 ∈ vg_ws := vg_in (i := 629) (by decide +kernel) (by decide +kernel)
theorem lay_R_13 : u_lay "PatternValidatorModel" F_R 13 ∈ vg_ws := vg_in (i := 631) (by decide +kernel) (by decide +kernel)
theorem lay_R_14 : u_lay "PatternValidatorModel" F_R 14 ∈ vg_ws := vg_in (i := 633) (by decide +kernel) (by decide +kernel)
theorem lay_R_15 : u_lay "PatternValidatorModel" F_R 15 ∈ vg_ws := vg_in (i := 635) (by decide +kernel) (by decide +kernel)
theorem lay_R_16 : u_lay "PatternValidatorModel" F_R 16 ∈ vg_ws := vg_in (i := 637) (by decide +kernel) (by decide +kernel)
theorem lay_R_17 : u_lay "PatternValidatorModel" F_R 17 ∈ vg_ws := vg_in (i := 639) (by decide +kernel) (by decide +kernel)
theorem lay_R_18 : u_lay "PatternValidatorModel" F_R 18 ∈ vg_ws := vg_in (i := 641) (by decide +kernel) (by decide +kernel)
theorem lay_R_19 : u_lay "PatternValidatorModel" F_R 19 ∈ vg_ws := vg_in (i := 643) (by decide +kernel) (by decide +kernel)
theorem lay_R_20 : u_lay "PatternValidatorModel" F_R 20 ∈ vg_ws := vg_in (i := 645) (by decide +kernel) (by decide +kernel)
theorem lay_R_21 : u_lay "PatternValidatorModel" F_R 21 ∈ vg_ws := vg_in (i := 647) (by decide +kernel) (by decide +kernel)
theorem lay_R_22 : u_lay "PatternValidatorModel" F_R 22 ∈ vg_ws := vg_in (i := 649) (by decide +kernel) (by decide +kernel)
theorem in_R : ∀ w ∈ u_ws "PatternValidatorModel" F_R 23, w ∈ vg_ws := by
  intro w h
  obtain ⟨k, hk, rfl⟩ := List.mem_map.mp h
  have hk : k < 23 := List.mem_range.mp hk
  match k, hk with
  | 0, _ => exact lay_R_0
  | 1, _ => exact lay_R_1
  | 2, _ => exact lay_R_2
  | 3, _ => exact lay_R_3
  | 4, _ => exact lay_R_4
  | 5, _ => exact lay_R_5
  | 6, _ => exact lay_R_6
  | 7, _ => exact lay_R_7
  | 8, _ => exact lay_R_8
  | 9, _ => exact lay_R_9
  | 10, _ => exact lay_R_10
  | 11, _ => exact lay_R_11
  | 12, _ => exact lay_R_12
  | 13, _ => exact lay_R_13
  | 14, _ => exact lay_R_14
  | 15, _ => exact lay_R_15
  | 16, _ => exact lay_R_16
  | 17, _ => exact lay_R_17
  | 18, _ => exact lay_R_18
  | 19, _ => exact lay_R_19
  | 20, _ => exact lay_R_20
  | 21, _ => exact lay_R_21
  | 22, _ => exact lay_R_22
  | k + 23, hk => exact absurd hk (by omega)
