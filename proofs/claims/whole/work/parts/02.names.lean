/-! Names, printed by wip/whole/gen_names.py out of the claim. -/
def allW : List Cond := lw_tbl.filter goodWord
theorem ww {w : Cond} (i : Nat) (h : lw_tbl[i]? = some w) (g : goodWord w = true) : w ∈ allW := List.mem_filter.mpr ⟨List.mem_of_getElem? h, g⟩
def nestW : List Cond := [(Cond.methodLinkNest "ColourCharts" (20 : Nat) ({ cls := "ColourCharts$Frame", name := "<init>", desc := "()V" } : Jvm.MethodName) "ColourCharts"), (Cond.methodLinkNest "ColourCharts" (27 : Nat) ({ cls := "ColourCharts$Layout", name := "<init>", desc := "()V" } : Jvm.MethodName) "ColourCharts"), (Cond.methodLinkNest "ColourCharts" (34 : Nat) ({ cls := "ColourCharts$Patch", name := "<init>", desc := "()V" } : Jvm.MethodName) "ColourCharts"), (Cond.methodLinkNest "ColourCharts" (41 : Nat) ({ cls := "ColourCharts$Targets", name := "<init>", desc := "()V" } : Jvm.MethodName) "ColourCharts"), (Cond.methodLinkNest "ColourCharts" (48 : Nat) ({ cls := "ColourCharts$Lines", name := "<init>", desc := "()V" } : Jvm.MethodName) "ColourCharts"), (Cond.methodLinkNest "ColourCharts" (55 : Nat) ({ cls := "ColourCharts$Sums", name := "<init>", desc := "()V" } : Jvm.MethodName) "ColourCharts"), (Cond.methodLinkNest "ColourCharts" (62 : Nat) ({ cls := "ColourCharts$Rules", name := "<init>", desc := "()V" } : Jvm.MethodName) "ColourCharts"), (Cond.methodLinkNest "ColourCharts$Patch" (62 : Nat) ({ cls := "ColourCharts", name := "nearest", desc := "(JJ)J" } : Jvm.MethodName) "ColourCharts"), (Cond.methodLinkNest "ColourCharts$Lines" (51 : Nat) ({ cls := "ColourCharts", name := "commonDivisor", desc := "(JJ)J" } : Jvm.MethodName) "ColourCharts"), (Cond.methodLinkNest "ColourCharts$Lines" (55 : Nat) ({ cls := "ColourCharts", name := "nearest", desc := "(JJ)J" } : Jvm.MethodName) "ColourCharts")]
theorem nestW_in : ∀ w ∈ nestW, w ∈ lw_tbl := by
  intro w hw
  simp only [nestW, List.mem_cons, List.not_mem_nil, or_false] at hw
  rcases hw with rfl | rfl | rfl | rfl | rfl | rfl | rfl | rfl | rfl | rfl
  · exact List.mem_of_getElem? (i := 84) (by decide +kernel)
  · exact List.mem_of_getElem? (i := 111) (by decide +kernel)
  · exact List.mem_of_getElem? (i := 132) (by decide +kernel)
  · exact List.mem_of_getElem? (i := 151) (by decide +kernel)
  · exact List.mem_of_getElem? (i := 170) (by decide +kernel)
  · exact List.mem_of_getElem? (i := 190) (by decide +kernel)
  · exact List.mem_of_getElem? (i := 218) (by decide +kernel)
  · exact List.mem_of_getElem? (i := 520) (by decide +kernel)
  · exact List.mem_of_getElem? (i := 619) (by decide +kernel)
  · exact List.mem_of_getElem? (i := 657) (by decide +kernel)
def R_C : String := "ColourCharts"
def T_C : u_T := fun k => match k with
  | 0 => ("ColourCharts", "picture", "LColourCharts$Picture;", true)
  | 1 => ("ColourCharts", "frame", "LColourCharts$Frame;", true)
  | 2 => ("ColourCharts", "layout", "LColourCharts$Layout;", true)
  | 3 => ("ColourCharts", "patchInHand", "LColourCharts$Patch;", true)
  | 4 => ("ColourCharts", "targets", "LColourCharts$Targets;", true)
  | 5 => ("ColourCharts", "lines", "LColourCharts$Lines;", true)
  | 6 => ("ColourCharts", "sumsInHand", "LColourCharts$Sums;", true)
  | 7 => ("ColourCharts", "rules", "LColourCharts$Rules;", true)
  | _ => ("ColourCharts", "days", "LColourCharts$Sums;", true)
def ty_C : Nat → FieldType := fun k => match k with
  | 0 => .object "ColourCharts$Picture"
  | 1 => .object "ColourCharts$Frame"
  | 2 => .object "ColourCharts$Layout"
  | 3 => .object "ColourCharts$Patch"
  | 4 => .object "ColourCharts$Targets"
  | 5 => .object "ColourCharts$Lines"
  | 6 => .object "ColourCharts$Sums"
  | 7 => .object "ColourCharts$Rules"
  | _ => .object "ColourCharts$Sums"
def R_I : String := "ColourCharts$Picture"
def T_I : u_T := fun k => match k with
  | 0 => ("ColourCharts$Picture", "width", "I", true)
  | 1 => ("ColourCharts$Picture", "height", "I", true)
  | 2 => ("ColourCharts$Picture", "parts", "[I", true)
  | _ => ("ColourCharts$Picture", "lights", "[I", true)
def ty_I : Nat → FieldType := fun k => match k with
  | 0 => .int
  | 1 => .int
  | 2 => .array .int
  | _ => .array .int
def R_F : String := "ColourCharts$Frame"
def T_F : u_T := fun k => match k with
  | 0 => ("ColourCharts$Frame", "found", "Z", false)
  | 1 => ("ColourCharts$Frame", "left", "I", false)
  | 2 => ("ColourCharts$Frame", "top", "I", false)
  | 3 => ("ColourCharts$Frame", "right", "I", false)
  | _ => ("ColourCharts$Frame", "bottom", "I", false)
def ty_F : Nat → FieldType := fun k => match k with
  | 0 => .boolean
  | 1 => .int
  | 2 => .int
  | 3 => .int
  | _ => .int
def R_Y : String := "ColourCharts$Layout"
def T_Y : u_T := fun k => match k with
  | 0 => ("ColourCharts$Layout", "columns", "I", false)
  | 1 => ("ColourCharts$Layout", "rows", "I", false)
  | _ => ("ColourCharts$Layout", "quarter", "I", false)
def ty_Y : Nat → FieldType := fun k => match k with
  | 0 => .int
  | 1 => .int
  | _ => .int
def R_P : String := "ColourCharts$Patch"
def T_P : u_T := fun k => match k with
  | 0 => ("ColourCharts$Patch", "left", "I", false)
  | 1 => ("ColourCharts$Patch", "top", "I", false)
  | 2 => ("ColourCharts$Patch", "beyondRight", "I", false)
  | _ => ("ColourCharts$Patch", "beyondBottom", "I", false)
def ty_P : Nat → FieldType := fun k => match k with
  | 0 => .int
  | 1 => .int
  | 2 => .int
  | _ => .int
def R_T : String := "ColourCharts$Targets"
def T_T : u_T := fun k => match k with
  | 0 => ("ColourCharts$Targets", "told", "[Z", true)
  | 1 => ("ColourCharts$Targets", "parts", "[I", true)
  | _ => ("ColourCharts$Targets", "neutralPatch", "I", false)
def ty_T : Nat → FieldType := fun k => match k with
  | 0 => .array .boolean
  | 1 => .array .int
  | _ => .int
def R_N : String := "ColourCharts$Lines"
def T_N : u_T := fun k => match k with
  | 0 => ("ColourCharts$Lines", "fitted", "Z", false)
  | 1 => ("ColourCharts$Lines", "a", "[J", true)
  | 2 => ("ColourCharts$Lines", "b", "[J", true)
  | _ => ("ColourCharts$Lines", "d", "[J", true)
def ty_N : Nat → FieldType := fun k => match k with
  | 0 => .boolean
  | 1 => .array .long
  | 2 => .array .long
  | _ => .array .long
def R_S : String := "ColourCharts$Sums"
def T_S : u_T := fun k => match k with
  | 0 => ("ColourCharts$Sums", "points", "I", false)
  | 1 => ("ColourCharts$Sums", "x", "J", false)
  | 2 => ("ColourCharts$Sums", "y", "J", false)
  | 3 => ("ColourCharts$Sums", "xx", "J", false)
  | _ => ("ColourCharts$Sums", "xy", "J", false)
def ty_S : Nat → FieldType := fun k => match k with
  | 0 => .int
  | 1 => .long
  | 2 => .long
  | 3 => .long
  | _ => .long
def R_R : String := "ColourCharts$Rules"
def T_R : u_T := fun k => match k with
  | 0 => ("ColourCharts$Rules", "rulesKept", "I", false)
  | 1 => ("ColourCharts$Rules", "signs", "I", false)
  | 2 => ("ColourCharts$Rules", "text", "[C", true)
  | 3 => ("ColourCharts$Rules", "kinds", "[C", true)
  | 4 => ("ColourCharts$Rules", "comparisons", "[C", true)
  | _ => ("ColourCharts$Rules", "limits", "[I", true)
def ty_R : Nat → FieldType := fun k => match k with
  | 0 => .int
  | 1 => .int
  | 2 => .array .char
  | 3 => .array .char
  | 4 => .array .char
  | _ => .array .int
def R_M : String := "ColourChartsModel"
def T_M : u_T := fun k => match k with
  | 0 => ("ColourChartsModel", "thrown", "I", false)
  | 1 => ("ColourChartsModel", "width", "I", true)
  | 2 => ("ColourChartsModel", "height", "I", true)
  | 3 => ("ColourChartsModel", "parts", "[I", true)
  | 4 => ("ColourChartsModel", "lights", "[I", true)
  | 5 => ("ColourChartsModel", "found", "Z", false)
  | 6 => ("ColourChartsModel", "left", "I", false)
  | 7 => ("ColourChartsModel", "top", "I", false)
  | 8 => ("ColourChartsModel", "right", "I", false)
  | 9 => ("ColourChartsModel", "bottom", "I", false)
  | 10 => ("ColourChartsModel", "columns", "I", false)
  | 11 => ("ColourChartsModel", "rows", "I", false)
  | 12 => ("ColourChartsModel", "quarter", "I", false)
  | 13 => ("ColourChartsModel", "has", "[Z", true)
  | 14 => ("ColourChartsModel", "targets", "[I", true)
  | 15 => ("ColourChartsModel", "neutral", "I", false)
  | 16 => ("ColourChartsModel", "fitted", "Z", false)
  | 17 => ("ColourChartsModel", "as", "[J", true)
  | 18 => ("ColourChartsModel", "bs", "[J", true)
  | 19 => ("ColourChartsModel", "ds", "[J", true)
  | 20 => ("ColourChartsModel", "signs", "I", false)
  | 21 => ("ColourChartsModel", "text", "[I", true)
  | 22 => ("ColourChartsModel", "rules", "I", false)
  | 23 => ("ColourChartsModel", "kinds", "[I", true)
  | 24 => ("ColourChartsModel", "ways", "[I", true)
  | 25 => ("ColourChartsModel", "limits", "[I", true)
  | 26 => ("ColourChartsModel", "days", "I", false)
  | 27 => ("ColourChartsModel", "dates", "[I", true)
  | 28 => ("ColourChartsModel", "values", "[I", true)
  | 29 => ("ColourChartsModel", "cells", "I", false)
  | 30 => ("ColourChartsModel", "sum", "I", false)
  | _ => ("ColourChartsModel", "squares", "J", false)
def ty_M : Nat → FieldType := fun k => match k with
  | 0 => .int
  | 1 => .int
  | 2 => .int
  | 3 => .array .int
  | 4 => .array .int
  | 5 => .boolean
  | 6 => .int
  | 7 => .int
  | 8 => .int
  | 9 => .int
  | 10 => .int
  | 11 => .int
  | 12 => .int
  | 13 => .array .boolean
  | 14 => .array .int
  | 15 => .int
  | 16 => .boolean
  | 17 => .array .long
  | 18 => .array .long
  | 19 => .array .long
  | 20 => .int
  | 21 => .array .int
  | 22 => .int
  | 23 => .array .int
  | 24 => .array .int
  | 25 => .array .int
  | 26 => .int
  | 27 => .array .int
  | 28 => .array .int
  | 29 => .int
  | 30 => .int
  | _ => .long
abbrev ccl : List vw_C := [(R_C, T_C, 9), (R_I, T_I, 4), (R_F, T_F, 5), (R_Y, T_Y, 3), (R_P, T_P, 4), (R_T, T_T, 3), (R_N, T_N, 4), (R_S, T_S, 5), (R_R, T_R, 6), (R_M, T_M, 32), ("java/lang/IndexOutOfBoundsException", (fun _ => ("", "", "", false)), 0), ("java/lang/IllegalArgumentException", (fun _ => ("", "", "", false)), 0), ("java/lang/IllegalStateException", (fun _ => ("", "", "", false)), 0)]
theorem nm_C : ∀ a, a < 9 → ∀ b, b < 9 → a ≠ b → (T_C a).2.1 ≠ (T_C b).2.1 := by decide +kernel
theorem tk_C : ∀ k, k < 9 → parseFieldDescriptor (T_C k).2.2.1 = some (ty_C k) := by decide +kernel
theorem in_C : ∀ w ∈ u_ws R_C T_C 9, w ∈ allW := by
  have h : ∀ k, k < 9 → u_lay R_C T_C k ∈ allW := by
    intro k hk
    match k, hk with
    | 0, _ => exact ww 253 (by decide +kernel) (by decide +kernel)
    | 1, _ => exact ww 255 (by decide +kernel) (by decide +kernel)
    | 2, _ => exact ww 257 (by decide +kernel) (by decide +kernel)
    | 3, _ => exact ww 259 (by decide +kernel) (by decide +kernel)
    | 4, _ => exact ww 261 (by decide +kernel) (by decide +kernel)
    | 5, _ => exact ww 263 (by decide +kernel) (by decide +kernel)
    | 6, _ => exact ww 265 (by decide +kernel) (by decide +kernel)
    | 7, _ => exact ww 267 (by decide +kernel) (by decide +kernel)
    | 8, _ => exact ww 269 (by decide +kernel) (by decide +kernel)
    | k + 9, hk => exact absurd hk (by omega)
  intro w hw
  obtain ⟨k, hk, rfl⟩ := List.mem_map.mp hw
  exact h k (List.mem_range.mp hk)
theorem nm_I : ∀ a, a < 4 → ∀ b, b < 4 → a ≠ b → (T_I a).2.1 ≠ (T_I b).2.1 := by decide +kernel
theorem tk_I : ∀ k, k < 4 → parseFieldDescriptor (T_I k).2.2.1 = some (ty_I k) := by decide +kernel
theorem in_I : ∀ w ∈ u_ws R_I T_I 4, w ∈ allW := by
  have h : ∀ k, k < 4 → u_lay R_I T_I k ∈ allW := by
    intro k hk
    match k, hk with
    | 0, _ => exact ww 72 (by decide +kernel) (by decide +kernel)
    | 1, _ => exact ww 74 (by decide +kernel) (by decide +kernel)
    | 2, _ => exact ww 76 (by decide +kernel) (by decide +kernel)
    | 3, _ => exact ww 78 (by decide +kernel) (by decide +kernel)
    | k + 4, hk => exact absurd hk (by omega)
  intro w hw
  obtain ⟨k, hk, rfl⟩ := List.mem_map.mp hw
  exact h k (List.mem_range.mp hk)
theorem nm_F : ∀ a, a < 5 → ∀ b, b < 5 → a ≠ b → (T_F a).2.1 ≠ (T_F b).2.1 := by decide +kernel
theorem tk_F : ∀ k, k < 5 → parseFieldDescriptor (T_F k).2.2.1 = some (ty_F k) := by decide +kernel
theorem in_F : ∀ w ∈ u_ws R_F T_F 5, w ∈ allW := by
  have h : ∀ k, k < 5 → u_lay R_F T_F k ∈ allW := by
    intro k hk
    match k, hk with
    | 0, _ => exact ww 98 (by decide +kernel) (by decide +kernel)
    | 1, _ => exact ww 100 (by decide +kernel) (by decide +kernel)
    | 2, _ => exact ww 102 (by decide +kernel) (by decide +kernel)
    | 3, _ => exact ww 104 (by decide +kernel) (by decide +kernel)
    | 4, _ => exact ww 106 (by decide +kernel) (by decide +kernel)
    | k + 5, hk => exact absurd hk (by omega)
  intro w hw
  obtain ⟨k, hk, rfl⟩ := List.mem_map.mp hw
  exact h k (List.mem_range.mp hk)
theorem nm_Y : ∀ a, a < 3 → ∀ b, b < 3 → a ≠ b → (T_Y a).2.1 ≠ (T_Y b).2.1 := by decide +kernel
theorem tk_Y : ∀ k, k < 3 → parseFieldDescriptor (T_Y k).2.2.1 = some (ty_Y k) := by decide +kernel
theorem in_Y : ∀ w ∈ u_ws R_Y T_Y 3, w ∈ allW := by
  have h : ∀ k, k < 3 → u_lay R_Y T_Y k ∈ allW := by
    intro k hk
    match k, hk with
    | 0, _ => exact ww 123 (by decide +kernel) (by decide +kernel)
    | 1, _ => exact ww 125 (by decide +kernel) (by decide +kernel)
    | 2, _ => exact ww 127 (by decide +kernel) (by decide +kernel)
    | k + 3, hk => exact absurd hk (by omega)
  intro w hw
  obtain ⟨k, hk, rfl⟩ := List.mem_map.mp hw
  exact h k (List.mem_range.mp hk)
theorem nm_P : ∀ a, a < 4 → ∀ b, b < 4 → a ≠ b → (T_P a).2.1 ≠ (T_P b).2.1 := by decide +kernel
theorem tk_P : ∀ k, k < 4 → parseFieldDescriptor (T_P k).2.2.1 = some (ty_P k) := by decide +kernel
theorem in_P : ∀ w ∈ u_ws R_P T_P 4, w ∈ allW := by
  have h : ∀ k, k < 4 → u_lay R_P T_P k ∈ allW := by
    intro k hk
    match k, hk with
    | 0, _ => exact ww 140 (by decide +kernel) (by decide +kernel)
    | 1, _ => exact ww 142 (by decide +kernel) (by decide +kernel)
    | 2, _ => exact ww 144 (by decide +kernel) (by decide +kernel)
    | 3, _ => exact ww 146 (by decide +kernel) (by decide +kernel)
    | k + 4, hk => exact absurd hk (by omega)
  intro w hw
  obtain ⟨k, hk, rfl⟩ := List.mem_map.mp hw
  exact h k (List.mem_range.mp hk)
theorem nm_T : ∀ a, a < 3 → ∀ b, b < 3 → a ≠ b → (T_T a).2.1 ≠ (T_T b).2.1 := by decide +kernel
theorem tk_T : ∀ k, k < 3 → parseFieldDescriptor (T_T k).2.2.1 = some (ty_T k) := by decide +kernel
theorem in_T : ∀ w ∈ u_ws R_T T_T 3, w ∈ allW := by
  have h : ∀ k, k < 3 → u_lay R_T T_T k ∈ allW := by
    intro k hk
    match k, hk with
    | 0, _ => exact ww 160 (by decide +kernel) (by decide +kernel)
    | 1, _ => exact ww 162 (by decide +kernel) (by decide +kernel)
    | 2, _ => exact ww 164 (by decide +kernel) (by decide +kernel)
    | k + 3, hk => exact absurd hk (by omega)
  intro w hw
  obtain ⟨k, hk, rfl⟩ := List.mem_map.mp hw
  exact h k (List.mem_range.mp hk)
theorem nm_N : ∀ a, a < 4 → ∀ b, b < 4 → a ≠ b → (T_N a).2.1 ≠ (T_N b).2.1 := by decide +kernel
theorem tk_N : ∀ k, k < 4 → parseFieldDescriptor (T_N k).2.2.1 = some (ty_N k) := by decide +kernel
theorem in_N : ∀ w ∈ u_ws R_N T_N 4, w ∈ allW := by
  have h : ∀ k, k < 4 → u_lay R_N T_N k ∈ allW := by
    intro k hk
    match k, hk with
    | 0, _ => exact ww 178 (by decide +kernel) (by decide +kernel)
    | 1, _ => exact ww 180 (by decide +kernel) (by decide +kernel)
    | 2, _ => exact ww 182 (by decide +kernel) (by decide +kernel)
    | 3, _ => exact ww 184 (by decide +kernel) (by decide +kernel)
    | k + 4, hk => exact absurd hk (by omega)
  intro w hw
  obtain ⟨k, hk, rfl⟩ := List.mem_map.mp hw
  exact h k (List.mem_range.mp hk)
theorem nm_S : ∀ a, a < 5 → ∀ b, b < 5 → a ≠ b → (T_S a).2.1 ≠ (T_S b).2.1 := by decide +kernel
theorem tk_S : ∀ k, k < 5 → parseFieldDescriptor (T_S k).2.2.1 = some (ty_S k) := by decide +kernel
theorem in_S : ∀ w ∈ u_ws R_S T_S 5, w ∈ allW := by
  have h : ∀ k, k < 5 → u_lay R_S T_S k ∈ allW := by
    intro k hk
    match k, hk with
    | 0, _ => exact ww 205 (by decide +kernel) (by decide +kernel)
    | 1, _ => exact ww 207 (by decide +kernel) (by decide +kernel)
    | 2, _ => exact ww 209 (by decide +kernel) (by decide +kernel)
    | 3, _ => exact ww 211 (by decide +kernel) (by decide +kernel)
    | 4, _ => exact ww 213 (by decide +kernel) (by decide +kernel)
    | k + 5, hk => exact absurd hk (by omega)
  intro w hw
  obtain ⟨k, hk, rfl⟩ := List.mem_map.mp hw
  exact h k (List.mem_range.mp hk)
theorem nm_R : ∀ a, a < 6 → ∀ b, b < 6 → a ≠ b → (T_R a).2.1 ≠ (T_R b).2.1 := by decide +kernel
theorem tk_R : ∀ k, k < 6 → parseFieldDescriptor (T_R k).2.2.1 = some (ty_R k) := by decide +kernel
theorem in_R : ∀ w ∈ u_ws R_R T_R 6, w ∈ allW := by
  have h : ∀ k, k < 6 → u_lay R_R T_R k ∈ allW := by
    intro k hk
    match k, hk with
    | 0, _ => exact ww 230 (by decide +kernel) (by decide +kernel)
    | 1, _ => exact ww 232 (by decide +kernel) (by decide +kernel)
    | 2, _ => exact ww 234 (by decide +kernel) (by decide +kernel)
    | 3, _ => exact ww 236 (by decide +kernel) (by decide +kernel)
    | 4, _ => exact ww 238 (by decide +kernel) (by decide +kernel)
    | 5, _ => exact ww 240 (by decide +kernel) (by decide +kernel)
    | k + 6, hk => exact absurd hk (by omega)
  intro w hw
  obtain ⟨k, hk, rfl⟩ := List.mem_map.mp hw
  exact h k (List.mem_range.mp hk)
theorem nm_M : ∀ a, a < 32 → ∀ b, b < 32 → a ≠ b → (T_M a).2.1 ≠ (T_M b).2.1 := by decide +kernel
theorem tk_M : ∀ k, k < 32 → parseFieldDescriptor (T_M k).2.2.1 = some (ty_M k) := by decide +kernel
theorem in_M : ∀ w ∈ u_ws R_M T_M 32, w ∈ allW := by
  have h : ∀ k, k < 32 → u_lay R_M T_M k ∈ allW := by
    intro k hk
    match k, hk with
    | 0, _ => exact ww 807 (by decide +kernel) (by decide +kernel)
    | 1, _ => exact ww 809 (by decide +kernel) (by decide +kernel)
    | 2, _ => exact ww 811 (by decide +kernel) (by decide +kernel)
    | 3, _ => exact ww 813 (by decide +kernel) (by decide +kernel)
    | 4, _ => exact ww 815 (by decide +kernel) (by decide +kernel)
    | 5, _ => exact ww 817 (by decide +kernel) (by decide +kernel)
    | 6, _ => exact ww 819 (by decide +kernel) (by decide +kernel)
    | 7, _ => exact ww 821 (by decide +kernel) (by decide +kernel)
    | 8, _ => exact ww 823 (by decide +kernel) (by decide +kernel)
    | 9, _ => exact ww 825 (by decide +kernel) (by decide +kernel)
    | 10, _ => exact ww 827 (by decide +kernel) (by decide +kernel)
    | 11, _ => exact ww 829 (by decide +kernel) (by decide +kernel)
    | 12, _ => exact ww 831 (by decide +kernel) (by decide +kernel)
    | 13, _ => exact ww 833 (by decide +kernel) (by decide +kernel)
    | 14, _ => exact ww 835 (by decide +kernel) (by decide +kernel)
    | 15, _ => exact ww 837 (by decide +kernel) (by decide +kernel)
    | 16, _ => exact ww 839 (by decide +kernel) (by decide +kernel)
    | 17, _ => exact ww 841 (by decide +kernel) (by decide +kernel)
    | 18, _ => exact ww 843 (by decide +kernel) (by decide +kernel)
    | 19, _ => exact ww 845 (by decide +kernel) (by decide +kernel)
    | 20, _ => exact ww 847 (by decide +kernel) (by decide +kernel)
    | 21, _ => exact ww 849 (by decide +kernel) (by decide +kernel)
    | 22, _ => exact ww 851 (by decide +kernel) (by decide +kernel)
    | 23, _ => exact ww 853 (by decide +kernel) (by decide +kernel)
    | 24, _ => exact ww 855 (by decide +kernel) (by decide +kernel)
    | 25, _ => exact ww 857 (by decide +kernel) (by decide +kernel)
    | 26, _ => exact ww 859 (by decide +kernel) (by decide +kernel)
    | 27, _ => exact ww 861 (by decide +kernel) (by decide +kernel)
    | 28, _ => exact ww 863 (by decide +kernel) (by decide +kernel)
    | 29, _ => exact ww 865 (by decide +kernel) (by decide +kernel)
    | 30, _ => exact ww 867 (by decide +kernel) (by decide +kernel)
    | 31, _ => exact ww 869 (by decide +kernel) (by decide +kernel)
    | k + 32, hk => exact absurd hk (by omega)
  intro w hw
  obtain ⟨k, hk, rfl⟩ := List.mem_map.mp hw
  exact h k (List.mem_range.mp hk)
