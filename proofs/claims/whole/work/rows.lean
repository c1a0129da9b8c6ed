section
-- ===== PART A: goes FIRST, ahead of the names: the tables' words, and 'selects' of the private methods out of them =====
/-- a private method of a class that the tables say can be made, by its rows of tables_1 -/
def lw_okq (q : MethodName × Nat) : Prop := (q.1.cls ≠ "java/lang/invoke/MethodHandle" ∧ q.1.cls ≠ "java/lang/invoke/VarHandle") ∧ Cond.instantiable q.1.cls q.2 ∈ tables_1 ∧ Cond.privateMethod q.1 ∈ tables_1 ∧ Cond.instanceMethod q.1 ∈ tables_1
theorem lw_p0 : lw_okq (⟨"ColourCharts$Frame", "widenTo", "(II)V"⟩, 5) := ⟨⟨by decide +kernel, by decide +kernel⟩, List.mem_of_getElem? (i := 57) (by decide +kernel), List.mem_of_getElem? (i := 259) (by decide +kernel), List.mem_of_getElem? (i := 260) (by decide +kernel)⟩
theorem lw_p1 : lw_okq (⟨"ColourCharts$Frame", "borderIsDark", "(LColourCharts$Picture;)Z"⟩, 5) := ⟨⟨by decide +kernel, by decide +kernel⟩, List.mem_of_getElem? (i := 57) (by decide +kernel), List.mem_of_getElem? (i := 265) (by decide +kernel), List.mem_of_getElem? (i := 266) (by decide +kernel)⟩
theorem lw_p2 : lw_okq (⟨"java/lang/Throwable", "fillInStackTrace", "(I)Ljava/lang/Throwable;"⟩, 6) := ⟨⟨by decide +kernel, by decide +kernel⟩, List.mem_of_getElem? (i := 326) (by decide +kernel), List.mem_of_getElem? (i := 324) (by decide +kernel), List.mem_of_getElem? (i := 325) (by decide +kernel)⟩
theorem lw_p3 : lw_okq (⟨"ColourCharts", "partOfPatch", "(II)I"⟩, 9) := ⟨⟨by decide +kernel, by decide +kernel⟩, List.mem_of_getElem? (i := 19) (by decide +kernel), List.mem_of_getElem? (i := 467) (by decide +kernel), List.mem_of_getElem? (i := 468) (by decide +kernel)⟩
theorem lw_p4 : lw_okq (⟨"ColourCharts$Patch", "cells", "()I"⟩, 4) := ⟨⟨by decide +kernel, by decide +kernel⟩, List.mem_of_getElem? (i := 105) (by decide +kernel), List.mem_of_getElem? (i := 491) (by decide +kernel), List.mem_of_getElem? (i := 492) (by decide +kernel)⟩
theorem lw_p5 : lw_okq (⟨"ColourCharts", "fitPart", "(I)V"⟩, 9) := ⟨⟨by decide +kernel, by decide +kernel⟩, List.mem_of_getElem? (i := 19) (by decide +kernel), List.mem_of_getElem? (i := 570) (by decide +kernel), List.mem_of_getElem? (i := 571) (by decide +kernel)⟩
theorem lw_p6 : lw_okq (⟨"ColourCharts$Lines", "keep", "(IJJJ)V"⟩, 4) := ⟨⟨by decide +kernel, by decide +kernel⟩, List.mem_of_getElem? (i := 143) (by decide +kernel), List.mem_of_getElem? (i := 590) (by decide +kernel), List.mem_of_getElem? (i := 591) (by decide +kernel)⟩
theorem lw_p7 : lw_okq (⟨"ColourCharts", "differenceOrNone", "(I)I"⟩, 9) := ⟨⟨by decide +kernel, by decide +kernel⟩, List.mem_of_getElem? (i := 19) (by decide +kernel), List.mem_of_getElem? (i := 648) (by decide +kernel), List.mem_of_getElem? (i := 649) (by decide +kernel)⟩
theorem lw_p8 : lw_okq (⟨"ColourCharts$Rules", "textIsRule", "()Z"⟩, 6) := ⟨⟨by decide +kernel, by decide +kernel⟩, List.mem_of_getElem? (i := 191) (by decide +kernel), List.mem_of_getElem? (i := 687) (by decide +kernel), List.mem_of_getElem? (i := 688) (by decide +kernel)⟩
theorem lw_p9 : lw_okq (⟨"ColourCharts$Rules", "numberInText", "()I"⟩, 6) := ⟨⟨by decide +kernel, by decide +kernel⟩, List.mem_of_getElem? (i := 191) (by decide +kernel), List.mem_of_getElem? (i := 691) (by decide +kernel), List.mem_of_getElem? (i := 692) (by decide +kernel)⟩
theorem lw_p10 : lw_okq (⟨"ColourCharts", "greatestDifference", "()I"⟩, 9) := ⟨⟨by decide +kernel, by decide +kernel⟩, List.mem_of_getElem? (i := 19) (by decide +kernel), List.mem_of_getElem? (i := 702) (by decide +kernel), List.mem_of_getElem? (i := 703) (by decide +kernel)⟩
theorem lw_p11 : lw_okq (⟨"ColourCharts", "greatestNoise", "()J"⟩, 9) := ⟨⟨by decide +kernel, by decide +kernel⟩, List.mem_of_getElem? (i := 19) (by decide +kernel), List.mem_of_getElem? (i := 707) (by decide +kernel), List.mem_of_getElem? (i := 708) (by decide +kernel)⟩
theorem lw_p12 : lw_okq (⟨"ColourChartsModel", "isCell", "(II)Z"⟩, 32) := ⟨⟨by decide +kernel, by decide +kernel⟩, List.mem_of_getElem? (i := 744) (by decide +kernel), List.mem_of_getElem? (i := 855) (by decide +kernel), List.mem_of_getElem? (i := 856) (by decide +kernel)⟩
theorem lw_p13 : lw_okq (⟨"ColourChartsModel", "goes", "(ZZZ)Z"⟩, 32) := ⟨⟨by decide +kernel, by decide +kernel⟩, List.mem_of_getElem? (i := 744) (by decide +kernel), List.mem_of_getElem? (i := 862) (by decide +kernel), List.mem_of_getElem? (i := 863) (by decide +kernel)⟩
theorem lw_p14 : lw_okq (⟨"ColourChartsModel", "litOf", "(III)I"⟩, 32) := ⟨⟨by decide +kernel, by decide +kernel⟩, List.mem_of_getElem? (i := 744) (by decide +kernel), List.mem_of_getElem? (i := 874) (by decide +kernel), List.mem_of_getElem? (i := 875) (by decide +kernel)⟩
theorem lw_p15 : lw_okq (⟨"ColourChartsModel", "isDark", "(II)Z"⟩, 32) := ⟨⟨by decide +kernel, by decide +kernel⟩, List.mem_of_getElem? (i := 744) (by decide +kernel), List.mem_of_getElem? (i := 882) (by decide +kernel), List.mem_of_getElem? (i := 883) (by decide +kernel)⟩
def lw_privs_1 : List (MethodName × Nat) := [(⟨"ColourCharts$Frame", "widenTo", "(II)V"⟩, 5), (⟨"ColourCharts$Frame", "borderIsDark", "(LColourCharts$Picture;)Z"⟩, 5), (⟨"java/lang/Throwable", "fillInStackTrace", "(I)Ljava/lang/Throwable;"⟩, 6), (⟨"ColourCharts", "partOfPatch", "(II)I"⟩, 9), (⟨"ColourCharts$Patch", "cells", "()I"⟩, 4), (⟨"ColourCharts", "fitPart", "(I)V"⟩, 9), (⟨"ColourCharts$Lines", "keep", "(IJJJ)V"⟩, 4), (⟨"ColourCharts", "differenceOrNone", "(I)I"⟩, 9), (⟨"ColourCharts$Rules", "textIsRule", "()Z"⟩, 6), (⟨"ColourCharts$Rules", "numberInText", "()I"⟩, 6), (⟨"ColourCharts", "greatestDifference", "()I"⟩, 9), (⟨"ColourCharts", "greatestNoise", "()J"⟩, 9), (⟨"ColourChartsModel", "isCell", "(II)Z"⟩, 32), (⟨"ColourChartsModel", "goes", "(ZZZ)Z"⟩, 32), (⟨"ColourChartsModel", "litOf", "(III)I"⟩, 32), (⟨"ColourChartsModel", "isDark", "(II)Z"⟩, 32)]
theorem lw_r1 : ∀ q ∈ lw_privs_1, lw_okq q := List.forall_mem_cons.mpr ⟨lw_p0, List.forall_mem_cons.mpr ⟨lw_p1, List.forall_mem_cons.mpr ⟨lw_p2, List.forall_mem_cons.mpr ⟨lw_p3, List.forall_mem_cons.mpr ⟨lw_p4, List.forall_mem_cons.mpr ⟨lw_p5, List.forall_mem_cons.mpr ⟨lw_p6, List.forall_mem_cons.mpr ⟨lw_p7, List.forall_mem_cons.mpr ⟨lw_p8, List.forall_mem_cons.mpr ⟨lw_p9, List.forall_mem_cons.mpr ⟨lw_p10, List.forall_mem_cons.mpr ⟨lw_p11, List.forall_mem_cons.mpr ⟨lw_p12, List.forall_mem_cons.mpr ⟨lw_p13, List.forall_mem_cons.mpr ⟨lw_p14, List.forall_mem_cons.mpr ⟨lw_p15, fun _ h => absurd h List.not_mem_nil⟩⟩⟩⟩⟩⟩⟩⟩⟩⟩⟩⟩⟩⟩⟩⟩
theorem lw_p16 : lw_okq (⟨"ColourChartsModel", "isPatch", "(I)Z"⟩, 32) := ⟨⟨by decide +kernel, by decide +kernel⟩, List.mem_of_getElem? (i := 744) (by decide +kernel), List.mem_of_getElem? (i := 902) (by decide +kernel), List.mem_of_getElem? (i := 903) (by decide +kernel)⟩
theorem lw_p17 : lw_okq (⟨"ColourChartsModel", "readOf", "(II)I"⟩, 32) := ⟨⟨by decide +kernel, by decide +kernel⟩, List.mem_of_getElem? (i := 744) (by decide +kernel), List.mem_of_getElem? (i := 906) (by decide +kernel), List.mem_of_getElem? (i := 907) (by decide +kernel)⟩
theorem lw_p18 : lw_okq (⟨"ColourChartsModel", "gather", "(II)V"⟩, 32) := ⟨⟨by decide +kernel, by decide +kernel⟩, List.mem_of_getElem? (i := 744) (by decide +kernel), List.mem_of_getElem? (i := 910) (by decide +kernel), List.mem_of_getElem? (i := 911) (by decide +kernel)⟩
theorem lw_p19 : lw_okq (⟨"ColourChartsModel", "patchAt", "(II)I"⟩, 32) := ⟨⟨by decide +kernel, by decide +kernel⟩, List.mem_of_getElem? (i := 744) (by decide +kernel), List.mem_of_getElem? (i := 914) (by decide +kernel), List.mem_of_getElem? (i := 915) (by decide +kernel)⟩
theorem lw_p20 : lw_okq (⟨"ColourChartsModel", "spread", "(I)J"⟩, 32) := ⟨⟨by decide +kernel, by decide +kernel⟩, List.mem_of_getElem? (i := 744) (by decide +kernel), List.mem_of_getElem? (i := 922) (by decide +kernel), List.mem_of_getElem? (i := 923) (by decide +kernel)⟩
theorem lw_p21 : lw_okq (⟨"ColourChartsModel", "fitPart", "(I)V"⟩, 32) := ⟨⟨by decide +kernel, by decide +kernel⟩, List.mem_of_getElem? (i := 744) (by decide +kernel), List.mem_of_getElem? (i := 941) (by decide +kernel), List.mem_of_getElem? (i := 942) (by decide +kernel)⟩
theorem lw_p22 : lw_okq (⟨"ColourChartsModel", "keep", "(IJJJ)V"⟩, 32) := ⟨⟨by decide +kernel, by decide +kernel⟩, List.mem_of_getElem? (i := 744) (by decide +kernel), List.mem_of_getElem? (i := 945) (by decide +kernel), List.mem_of_getElem? (i := 946) (by decide +kernel)⟩
theorem lw_p23 : lw_okq (⟨"ColourChartsModel", "colourOf", "(II)I"⟩, 32) := ⟨⟨by decide +kernel, by decide +kernel⟩, List.mem_of_getElem? (i := 744) (by decide +kernel), List.mem_of_getElem? (i := 957) (by decide +kernel), List.mem_of_getElem? (i := 958) (by decide +kernel)⟩
theorem lw_p24 : lw_okq (⟨"ColourChartsModel", "differs", "(I)I"⟩, 32) := ⟨⟨by decide +kernel, by decide +kernel⟩, List.mem_of_getElem? (i := 744) (by decide +kernel), List.mem_of_getElem? (i := 967) (by decide +kernel), List.mem_of_getElem? (i := 968) (by decide +kernel)⟩
theorem lw_p25 : lw_okq (⟨"ColourChartsModel", "measure", "(I)I"⟩, 32) := ⟨⟨by decide +kernel, by decide +kernel⟩, List.mem_of_getElem? (i := 744) (by decide +kernel), List.mem_of_getElem? (i := 983) (by decide +kernel), List.mem_of_getElem? (i := 984) (by decide +kernel)⟩
def lw_privs_2 : List (MethodName × Nat) := [(⟨"ColourChartsModel", "isPatch", "(I)Z"⟩, 32), (⟨"ColourChartsModel", "readOf", "(II)I"⟩, 32), (⟨"ColourChartsModel", "gather", "(II)V"⟩, 32), (⟨"ColourChartsModel", "patchAt", "(II)I"⟩, 32), (⟨"ColourChartsModel", "spread", "(I)J"⟩, 32), (⟨"ColourChartsModel", "fitPart", "(I)V"⟩, 32), (⟨"ColourChartsModel", "keep", "(IJJJ)V"⟩, 32), (⟨"ColourChartsModel", "colourOf", "(II)I"⟩, 32), (⟨"ColourChartsModel", "differs", "(I)I"⟩, 32), (⟨"ColourChartsModel", "measure", "(I)I"⟩, 32)]
theorem lw_r2 : ∀ q ∈ lw_privs_2, lw_okq q := List.forall_mem_cons.mpr ⟨lw_p16, List.forall_mem_cons.mpr ⟨lw_p17, List.forall_mem_cons.mpr ⟨lw_p18, List.forall_mem_cons.mpr ⟨lw_p19, List.forall_mem_cons.mpr ⟨lw_p20, List.forall_mem_cons.mpr ⟨lw_p21, List.forall_mem_cons.mpr ⟨lw_p22, List.forall_mem_cons.mpr ⟨lw_p23, List.forall_mem_cons.mpr ⟨lw_p24, List.forall_mem_cons.mpr ⟨lw_p25, fun _ h => absurd h List.not_mem_nil⟩⟩⟩⟩⟩⟩⟩⟩⟩⟩
def lw_privs : List (MethodName × Nat) := lw_privs_1 ++ (lw_privs_2)
def lw_tbl : List Cond := k2_sels lw_privs ++ tables_1
theorem lw_privs_ok : ∀ q ∈ lw_privs, lw_okq q := by
  show ∀ q ∈ lw_privs_1 ++ (lw_privs_2), lw_okq q
  exact List.forall_mem_append.mpr ⟨lw_r1, lw_r2⟩
end
section
/-! Names, printed by wip/whole/gen_names.py out of the claim. -/
def allW : List Cond := lw_tbl.filter goodWord
theorem ww {w : Cond} (i : Nat) (h : lw_tbl[i]? = some w) (g : goodWord w = true) : w ∈ allW := List.mem_filter.mpr ⟨List.mem_of_getElem? h, g⟩
def nestW : List Cond := [(Cond.methodLinkNest "ColourCharts" (20 : Nat) ({ cls := "ColourCharts$Frame", name := "<init>", desc := "()V" } : Jvm.MethodName) "ColourCharts"), (Cond.methodLinkNest "ColourCharts" (27 : Nat) ({ cls := "ColourCharts$Layout", name := "<init>", desc := "()V" } : Jvm.MethodName) "ColourCharts"), (Cond.methodLinkNest "ColourCharts" (34 : Nat) ({ cls := "ColourCharts$Patch", name := "<init>", desc := "()V" } : Jvm.MethodName) "ColourCharts"), (Cond.methodLinkNest "ColourCharts" (41 : Nat) ({ cls := "ColourCharts$Targets", name := "<init>", desc := "()V" } : Jvm.MethodName) "ColourCharts"), (Cond.methodLinkNest "ColourCharts" (48 : Nat) ({ cls := "ColourCharts$Lines", name := "<init>", desc := "()V" } : Jvm.MethodName) "ColourCharts"), (Cond.methodLinkNest "ColourCharts" (55 : Nat) ({ cls := "ColourCharts$Sums", name := "<init>", desc := "()V" } : Jvm.MethodName) "ColourCharts"), (Cond.methodLinkNest "ColourCharts" (62 : Nat) ({ cls := "ColourCharts$Rules", name := "<init>", desc := "()V" } : Jvm.MethodName) "ColourCharts"), (Cond.methodLinkNest "ColourCharts$Patch" (62 : Nat) ({ cls := "ColourCharts", name := "nearest", desc := "(JJ)J" } : Jvm.MethodName) "ColourCharts"), (Cond.methodLinkNest "ColourCharts$Lines" (51 : Nat) ({ cls := "ColourCharts", name := "commonDivisor", desc := "(JJ)J" } : Jvm.MethodName) "ColourCharts"), (Cond.methodLinkNest "ColourCharts$Lines" (55 : Nat) ({ cls := "ColourCharts", name := "nearest", desc := "(JJ)J" } : Jvm.MethodName) "ColourCharts")]
theorem nestW_in : ∀ w ∈ nestW, w ∈ lw_tbl := by
  intro w hw
  simp only [nestW, List.mem_cons, List.not_mem_nil, or_false] at hw
  rcases hw with rfl | rfl | rfl | rfl | rfl | rfl | rfl | rfl | rfl | rfl
  · exact List.mem_of_getElem? (i := 84) (by decide +kernel)
  · exact List.mem_of_getElem? (i := 111) (by decide +kernel)
  · exact List.mem_of_getElem? (i := 132) (by decide +kernel)
  · exact List.mem_of_getElem? (i := 151) (by decide +kernel)
  · exact List.mem_of_getElem? (i := 170) (by decide +kernel)
  · exact List.mem_of_getElem? (i := 190) (by decide +kernel)
  · exact List.mem_of_getElem? (i := 218) (by decide +kernel)
  · exact List.mem_of_getElem? (i := 520) (by decide +kernel)
  · exact List.mem_of_getElem? (i := 619) (by decide +kernel)
  · exact List.mem_of_getElem? (i := 657) (by decide +kernel)
def R_C : String := "ColourCharts"
def T_C : u_T := fun k => match k with
  | 0 => ("ColourCharts", "picture", "LColourCharts$Picture;", true)
  | 1 => ("ColourCharts", "frame", "LColourCharts$Frame;", true)
  | 2 => ("ColourCharts", "layout", "LColourCharts$Layout;", true)
  | 3 => ("ColourCharts", "patchInHand", "LColourCharts$Patch;", true)
  | 4 => ("ColourCharts", "targets", "LColourCharts$Targets;", true)
  | 5 => ("ColourCharts", "lines", "LColourCharts$Lines;", true)
  | 6 => ("ColourCharts", "sumsInHand", "LColourCharts$Sums;", true)
  | 7 => ("ColourCharts", "rules", "LColourCharts$Rules;", true)
  | _ => ("ColourCharts", "days", "LColourCharts$Sums;", true)
def ty_C : Nat → FieldType := fun k => match k with
  | 0 => .object "ColourCharts$Picture"
  | 1 => .object "ColourCharts$Frame"
  | 2 => .object "ColourCharts$Layout"
  | 3 => .object "ColourCharts$Patch"
  | 4 => .object "ColourCharts$Targets"
  | 5 => .object "ColourCharts$Lines"
  | 6 => .object "ColourCharts$Sums"
  | 7 => .object "ColourCharts$Rules"
  | _ => .object "ColourCharts$Sums"
def R_I : String := "ColourCharts$Picture"
def T_I : u_T := fun k => match k with
  | 0 => ("ColourCharts$Picture", "width", "I", true)
  | 1 => ("ColourCharts$Picture", "height", "I", true)
  | 2 => ("ColourCharts$Picture", "parts", "[I", true)
  | _ => ("ColourCharts$Picture", "lights", "[I", true)
def ty_I : Nat → FieldType := fun k => match k with
  | 0 => .int
  | 1 => .int
  | 2 => .array .int
  | _ => .array .int
def R_F : String := "ColourCharts$Frame"
def T_F : u_T := fun k => match k with
  | 0 => ("ColourCharts$Frame", "found", "Z", false)
  | 1 => ("ColourCharts$Frame", "left", "I", false)
  | 2 => ("ColourCharts$Frame", "top", "I", false)
  | 3 => ("ColourCharts$Frame", "right", "I", false)
  | _ => ("ColourCharts$Frame", "bottom", "I", false)
def ty_F : Nat → FieldType := fun k => match k with
  | 0 => .boolean
  | 1 => .int
  | 2 => .int
  | 3 => .int
  | _ => .int
def R_Y : String := "ColourCharts$Layout"
def T_Y : u_T := fun k => match k with
  | 0 => ("ColourCharts$Layout", "columns", "I", false)
  | 1 => ("ColourCharts$Layout", "rows", "I", false)
  | _ => ("ColourCharts$Layout", "quarter", "I", false)
def ty_Y : Nat → FieldType := fun k => match k with
  | 0 => .int
  | 1 => .int
  | _ => .int
def R_P : String := "ColourCharts$Patch"
def T_P : u_T := fun k => match k with
  | 0 => ("ColourCharts$Patch", "left", "I", false)
  | 1 => ("ColourCharts$Patch", "top", "I", false)
  | 2 => ("ColourCharts$Patch", "beyondRight", "I", false)
  | _ => ("ColourCharts$Patch", "beyondBottom", "I", false)
def ty_P : Nat → FieldType := fun k => match k with
  | 0 => .int
  | 1 => .int
  | 2 => .int
  | _ => .int
def R_T : String := "ColourCharts$Targets"
def T_T : u_T := fun k => match k with
  | 0 => ("ColourCharts$Targets", "told", "[Z", true)
  | 1 => ("ColourCharts$Targets", "parts", "[I", true)
  | _ => ("ColourCharts$Targets", "neutralPatch", "I", false)
def ty_T : Nat → FieldType := fun k => match k with
  | 0 => .array .boolean
  | 1 => .array .int
  | _ => .int
def R_N : String := "ColourCharts$Lines"
def T_N : u_T := fun k => match k with
  | 0 => ("ColourCharts$Lines", "fitted", "Z", false)
  | 1 => ("ColourCharts$Lines", "a", "[J", true)
  | 2 => ("ColourCharts$Lines", "b", "[J", true)
  | _ => ("ColourCharts$Lines", "d", "[J", true)
def ty_N : Nat → FieldType := fun k => match k with
  | 0 => .boolean
  | 1 => .array .long
  | 2 => .array .long
  | _ => .array .long
def R_S : String := "ColourCharts$Sums"
def T_S : u_T := fun k => match k with
  | 0 => ("ColourCharts$Sums", "points", "I", false)
  | 1 => ("ColourCharts$Sums", "x", "J", false)
  | 2 => ("ColourCharts$Sums", "y", "J", false)
  | 3 => ("ColourCharts$Sums", "xx", "J", false)
  | _ => ("ColourCharts$Sums", "xy", "J", false)
def ty_S : Nat → FieldType := fun k => match k with
  | 0 => .int
  | 1 => .long
  | 2 => .long
  | 3 => .long
  | _ => .long
def R_R : String := "ColourCharts$Rules"
def T_R : u_T := fun k => match k with
  | 0 => ("ColourCharts$Rules", "rulesKept", "I", false)
  | 1 => ("ColourCharts$Rules", "signs", "I", false)
  | 2 => ("ColourCharts$Rules", "text", "[C", true)
  | 3 => ("ColourCharts$Rules", "kinds", "[C", true)
  | 4 => ("ColourCharts$Rules", "comparisons", "[C", true)
  | _ => ("ColourCharts$Rules", "limits", "[I", true)
def ty_R : Nat → FieldType := fun k => match k with
  | 0 => .int
  | 1 => .int
  | 2 => .array .char
  | 3 => .array .char
  | 4 => .array .char
  | _ => .array .int
def R_M : String := "ColourChartsModel"
def T_M : u_T := fun k => match k with
  | 0 => ("ColourChartsModel", "thrown", "I", false)
  | 1 => ("ColourChartsModel", "width", "I", true)
  | 2 => ("ColourChartsModel", "height", "I", true)
  | 3 => ("ColourChartsModel", "parts", "[I", true)
  | 4 => ("ColourChartsModel", "lights", "[I", true)
  | 5 => ("ColourChartsModel", "found", "Z", false)
  | 6 => ("ColourChartsModel", "left", "I", false)
  | 7 => ("ColourChartsModel", "top", "I", false)
  | 8 => ("ColourChartsModel", "right", "I", false)
  | 9 => ("ColourChartsModel", "bottom", "I", false)
  | 10 => ("ColourChartsModel", "columns", "I", false)
  | 11 => ("ColourChartsModel", "rows", "I", false)
  | 12 => ("ColourChartsModel", "quarter", "I", false)
  | 13 => ("ColourChartsModel", "has", "[Z", true)
  | 14 => ("ColourChartsModel", "targets", "[I", true)
  | 15 => ("ColourChartsModel", "neutral", "I", false)
  | 16 => ("ColourChartsModel", "fitted", "Z", false)
  | 17 => ("ColourChartsModel", "as", "[J", true)
  | 18 => ("ColourChartsModel", "bs", "[J", true)
  | 19 => ("ColourChartsModel", "ds", "[J", true)
  | 20 => ("ColourChartsModel", "signs", "I", false)
  | 21 => ("ColourChartsModel", "text", "[I", true)
  | 22 => ("ColourChartsModel", "rules", "I", false)
  | 23 => ("ColourChartsModel", "kinds", "[I", true)
  | 24 => ("ColourChartsModel", "ways", "[I", true)
  | 25 => ("ColourChartsModel", "limits", "[I", true)
  | 26 => ("ColourChartsModel", "days", "I", false)
  | 27 => ("ColourChartsModel", "dates", "[I", true)
  | 28 => ("ColourChartsModel", "values", "[I", true)
  | 29 => ("ColourChartsModel", "cells", "I", false)
  | 30 => ("ColourChartsModel", "sum", "I", false)
  | _ => ("ColourChartsModel", "squares", "J", false)
def ty_M : Nat → FieldType := fun k => match k with
  | 0 => .int
  | 1 => .int
  | 2 => .int
  | 3 => .array .int
  | 4 => .array .int
  | 5 => .boolean
  | 6 => .int
  | 7 => .int
  | 8 => .int
  | 9 => .int
  | 10 => .int
  | 11 => .int
  | 12 => .int
  | 13 => .array .boolean
  | 14 => .array .int
  | 15 => .int
  | 16 => .boolean
  | 17 => .array .long
  | 18 => .array .long
  | 19 => .array .long
  | 20 => .int
  | 21 => .array .int
  | 22 => .int
  | 23 => .array .int
  | 24 => .array .int
  | 25 => .array .int
  | 26 => .int
  | 27 => .array .int
  | 28 => .array .int
  | 29 => .int
  | 30 => .int
  | _ => .long
abbrev ccl : List vw_C := [(R_C, T_C, 9), (R_I, T_I, 4), (R_F, T_F, 5), (R_Y, T_Y, 3), (R_P, T_P, 4), (R_T, T_T, 3), (R_N, T_N, 4), (R_S, T_S, 5), (R_R, T_R, 6), (R_M, T_M, 32), ("java/lang/IndexOutOfBoundsException", (fun _ => ("", "", "", false)), 0), ("java/lang/IllegalArgumentException", (fun _ => ("", "", "", false)), 0), ("java/lang/IllegalStateException", (fun _ => ("", "", "", false)), 0)]
theorem nm_C : ∀ a, a < 9 → ∀ b, b < 9 → a ≠ b → (T_C a).2.1 ≠ (T_C b).2.1 := by decide +kernel
theorem tk_C : ∀ k, k < 9 → parseFieldDescriptor (T_C k).2.2.1 = some (ty_C k) := by decide +kernel
theorem in_C : ∀ w ∈ u_ws R_C T_C 9, w ∈ allW := by
  have h : ∀ k, k < 9 → u_lay R_C T_C k ∈ allW := by
    intro k hk
    match k, hk with
    | 0, _ => exact ww 253 (by decide +kernel) (by decide +kernel)
    | 1, _ => exact ww 255 (by decide +kernel) (by decide +kernel)
    | 2, _ => exact ww 257 (by decide +kernel) (by decide +kernel)
    | 3, _ => exact ww 259 (by decide +kernel) (by decide +kernel)
    | 4, _ => exact ww 261 (by decide +kernel) (by decide +kernel)
    | 5, _ => exact ww 263 (by decide +kernel) (by decide +kernel)
    | 6, _ => exact ww 265 (by decide +kernel) (by decide +kernel)
    | 7, _ => exact ww 267 (by decide +kernel) (by decide +kernel)
    | 8, _ => exact ww 269 (by decide +kernel) (by decide +kernel)
    | k + 9, hk => exact absurd hk (by omega)
  intro w hw
  obtain ⟨k, hk, rfl⟩ := List.mem_map.mp hw
  exact h k (List.mem_range.mp hk)
theorem nm_I : ∀ a, a < 4 → ∀ b, b < 4 → a ≠ b → (T_I a).2.1 ≠ (T_I b).2.1 := by decide +kernel
theorem tk_I : ∀ k, k < 4 → parseFieldDescriptor (T_I k).2.2.1 = some (ty_I k) := by decide +kernel
theorem in_I : ∀ w ∈ u_ws R_I T_I 4, w ∈ allW := by
  have h : ∀ k, k < 4 → u_lay R_I T_I k ∈ allW := by
    intro k hk
    match k, hk with
    | 0, _ => exact ww 72 (by decide +kernel) (by decide +kernel)
    | 1, _ => exact ww 74 (by decide +kernel) (by decide +kernel)
    | 2, _ => exact ww 76 (by decide +kernel) (by decide +kernel)
    | 3, _ => exact ww 78 (by decide +kernel) (by decide +kernel)
    | k + 4, hk => exact absurd hk (by omega)
  intro w hw
  obtain ⟨k, hk, rfl⟩ := List.mem_map.mp hw
  exact h k (List.mem_range.mp hk)
theorem nm_F : ∀ a, a < 5 → ∀ b, b < 5 → a ≠ b → (T_F a).2.1 ≠ (T_F b).2.1 := by decide +kernel
theorem tk_F : ∀ k, k < 5 → parseFieldDescriptor (T_F k).2.2.1 = some (ty_F k) := by decide +kernel
theorem in_F : ∀ w ∈ u_ws R_F T_F 5, w ∈ allW := by
  have h : ∀ k, k < 5 → u_lay R_F T_F k ∈ allW := by
    intro k hk
    match k, hk with
    | 0, _ => exact ww 98 (by decide +kernel) (by decide +kernel)
    | 1, _ => exact ww 100 (by decide +kernel) (by decide +kernel)
    | 2, _ => exact ww 102 (by decide +kernel) (by decide +kernel)
    | 3, _ => exact ww 104 (by decide +kernel) (by decide +kernel)
    | 4, _ => exact ww 106 (by decide +kernel) (by decide +kernel)
    | k + 5, hk => exact absurd hk (by omega)
  intro w hw
  obtain ⟨k, hk, rfl⟩ := List.mem_map.mp hw
  exact h k (List.mem_range.mp hk)
theorem nm_Y : ∀ a, a < 3 → ∀ b, b < 3 → a ≠ b → (T_Y a).2.1 ≠ (T_Y b).2.1 := by decide +kernel
theorem tk_Y : ∀ k, k < 3 → parseFieldDescriptor (T_Y k).2.2.1 = some (ty_Y k) := by decide +kernel
theorem in_Y : ∀ w ∈ u_ws R_Y T_Y 3, w ∈ allW := by
  have h : ∀ k, k < 3 → u_lay R_Y T_Y k ∈ allW := by
    intro k hk
    match k, hk with
    | 0, _ => exact ww 123 (by decide +kernel) (by decide +kernel)
    | 1, _ => exact ww 125 (by decide +kernel) (by decide +kernel)
    | 2, _ => exact ww 127 (by decide +kernel) (by decide +kernel)
    | k + 3, hk => exact absurd hk (by omega)
  intro w hw
  obtain ⟨k, hk, rfl⟩ := List.mem_map.mp hw
  exact h k (List.mem_range.mp hk)
theorem nm_P : ∀ a, a < 4 → ∀ b, b < 4 → a ≠ b → (T_P a).2.1 ≠ (T_P b).2.1 := by decide +kernel
theorem tk_P : ∀ k, k < 4 → parseFieldDescriptor (T_P k).2.2.1 = some (ty_P k) := by decide +kernel
theorem in_P : ∀ w ∈ u_ws R_P T_P 4, w ∈ allW := by
  have h : ∀ k, k < 4 → u_lay R_P T_P k ∈ allW := by
    intro k hk
    match k, hk with
    | 0, _ => exact ww 140 (by decide +kernel) (by decide +kernel)
    | 1, _ => exact ww 142 (by decide +kernel) (by decide +kernel)
    | 2, _ => exact ww 144 (by decide +kernel) (by decide +kernel)
    | 3, _ => exact ww 146 (by decide +kernel) (by decide +kernel)
    | k + 4, hk => exact absurd hk (by omega)
  intro w hw
  obtain ⟨k, hk, rfl⟩ := List.mem_map.mp hw
  exact h k (List.mem_range.mp hk)
theorem nm_T : ∀ a, a < 3 → ∀ b, b < 3 → a ≠ b → (T_T a).2.1 ≠ (T_T b).2.1 := by decide +kernel
theorem tk_T : ∀ k, k < 3 → parseFieldDescriptor (T_T k).2.2.1 = some (ty_T k) := by decide +kernel
theorem in_T : ∀ w ∈ u_ws R_T T_T 3, w ∈ allW := by
  have h : ∀ k, k < 3 → u_lay R_T T_T k ∈ allW := by
    intro k hk
    match k, hk with
    | 0, _ => exact ww 160 (by decide +kernel) (by decide +kernel)
    | 1, _ => exact ww 162 (by decide +kernel) (by decide +kernel)
    | 2, _ => exact ww 164 (by decide +kernel) (by decide +kernel)
    | k + 3, hk => exact absurd hk (by omega)
  intro w hw
  obtain ⟨k, hk, rfl⟩ := List.mem_map.mp hw
  exact h k (List.mem_range.mp hk)
theorem nm_N : ∀ a, a < 4 → ∀ b, b < 4 → a ≠ b → (T_N a).2.1 ≠ (T_N b).2.1 := by decide +kernel
theorem tk_N : ∀ k, k < 4 → parseFieldDescriptor (T_N k).2.2.1 = some (ty_N k) := by decide +kernel
theorem in_N : ∀ w ∈ u_ws R_N T_N 4, w ∈ allW := by
  have h : ∀ k, k < 4 → u_lay R_N T_N k ∈ allW := by
    intro k hk
    match k, hk with
    | 0, _ => exact ww 178 (by decide +kernel) (by decide +kernel)
    | 1, _ => exact ww 180 (by decide +kernel) (by decide +kernel)
    | 2, _ => exact ww 182 (by decide +kernel) (by decide +kernel)
    | 3, _ => exact ww 184 (by decide +kernel) (by decide +kernel)
    | k + 4, hk => exact absurd hk (by omega)
  intro w hw
  obtain ⟨k, hk, rfl⟩ := List.mem_map.mp hw
  exact h k (List.mem_range.mp hk)
theorem nm_S : ∀ a, a < 5 → ∀ b, b < 5 → a ≠ b → (T_S a).2.1 ≠ (T_S b).2.1 := by decide +kernel
theorem tk_S : ∀ k, k < 5 → parseFieldDescriptor (T_S k).2.2.1 = some (ty_S k) := by decide +kernel
theorem in_S : ∀ w ∈ u_ws R_S T_S 5, w ∈ allW := by
  have h : ∀ k, k < 5 → u_lay R_S T_S k ∈ allW := by
    intro k hk
    match k, hk with
    | 0, _ => exact ww 205 (by decide +kernel) (by decide +kernel)
    | 1, _ => exact ww 207 (by decide +kernel) (by decide +kernel)
    | 2, _ => exact ww 209 (by decide +kernel) (by decide +kernel)
    | 3, _ => exact ww 211 (by decide +kernel) (by decide +kernel)
    | 4, _ => exact ww 213 (by decide +kernel) (by decide +kernel)
    | k + 5, hk => exact absurd hk (by omega)
  intro w hw
  obtain ⟨k, hk, rfl⟩ := List.mem_map.mp hw
  exact h k (List.mem_range.mp hk)
theorem nm_R : ∀ a, a < 6 → ∀ b, b < 6 → a ≠ b → (T_R a).2.1 ≠ (T_R b).2.1 := by decide +kernel
theorem tk_R : ∀ k, k < 6 → parseFieldDescriptor (T_R k).2.2.1 = some (ty_R k) := by decide +kernel
theorem in_R : ∀ w ∈ u_ws R_R T_R 6, w ∈ allW := by
  have h : ∀ k, k < 6 → u_lay R_R T_R k ∈ allW := by
    intro k hk
    match k, hk with
    | 0, _ => exact ww 230 (by decide +kernel) (by decide +kernel)
    | 1, _ => exact ww 232 (by decide +kernel) (by decide +kernel)
    | 2, _ => exact ww 234 (by decide +kernel) (by decide +kernel)
    | 3, _ => exact ww 236 (by decide +kernel) (by decide +kernel)
    | 4, _ => exact ww 238 (by decide +kernel) (by decide +kernel)
    | 5, _ => exact ww 240 (by decide +kernel) (by decide +kernel)
    | k + 6, hk => exact absurd hk (by omega)
  intro w hw
  obtain ⟨k, hk, rfl⟩ := List.mem_map.mp hw
  exact h k (List.mem_range.mp hk)
theorem nm_M : ∀ a, a < 32 → ∀ b, b < 32 → a ≠ b → (T_M a).2.1 ≠ (T_M b).2.1 := by decide +kernel
theorem tk_M : ∀ k, k < 32 → parseFieldDescriptor (T_M k).2.2.1 = some (ty_M k) := by decide +kernel
theorem in_M : ∀ w ∈ u_ws R_M T_M 32, w ∈ allW := by
  have h : ∀ k, k < 32 → u_lay R_M T_M k ∈ allW := by
    intro k hk
    match k, hk with
    | 0, _ => exact ww 807 (by decide +kernel) (by decide +kernel)
    | 1, _ => exact ww 809 (by decide +kernel) (by decide +kernel)
    | 2, _ => exact ww 811 (by decide +kernel) (by decide +kernel)
    | 3, _ => exact ww 813 (by decide +kernel) (by decide +kernel)
    | 4, _ => exact ww 815 (by decide +kernel) (by decide +kernel)
    | 5, _ => exact ww 817 (by decide +kernel) (by decide +kernel)
    | 6, _ => exact ww 819 (by decide +kernel) (by decide +kernel)
    | 7, _ => exact ww 821 (by decide +kernel) (by decide +kernel)
    | 8, _ => exact ww 823 (by decide +kernel) (by decide +kernel)
    | 9, _ => exact ww 825 (by decide +kernel) (by decide +kernel)
    | 10, _ => exact ww 827 (by decide +kernel) (by decide +kernel)
    | 11, _ => exact ww 829 (by decide +kernel) (by decide +kernel)
    | 12, _ => exact ww 831 (by decide +kernel) (by decide +kernel)
    | 13, _ => exact ww 833 (by decide +kernel) (by decide +kernel)
    | 14, _ => exact ww 835 (by decide +kernel) (by decide +kernel)
    | 15, _ => exact ww 837 (by decide +kernel) (by decide +kernel)
    | 16, _ => exact ww 839 (by decide +kernel) (by decide +kernel)
    | 17, _ => exact ww 841 (by decide +kernel) (by decide +kernel)
    | 18, _ => exact ww 843 (by decide +kernel) (by decide +kernel)
    | 19, _ => exact ww 845 (by decide +kernel) (by decide +kernel)
    | 20, _ => exact ww 847 (by decide +kernel) (by decide +kernel)
    | 21, _ => exact ww 849 (by decide +kernel) (by decide +kernel)
    | 22, _ => exact ww 851 (by decide +kernel) (by decide +kernel)
    | 23, _ => exact ww 853 (by decide +kernel) (by decide +kernel)
    | 24, _ => exact ww 855 (by decide +kernel) (by decide +kernel)
    | 25, _ => exact ww 857 (by decide +kernel) (by decide +kernel)
    | 26, _ => exact ww 859 (by decide +kernel) (by decide +kernel)
    | 27, _ => exact ww 861 (by decide +kernel) (by decide +kernel)
    | 28, _ => exact ww 863 (by decide +kernel) (by decide +kernel)
    | 29, _ => exact ww 865 (by decide +kernel) (by decide +kernel)
    | 30, _ => exact ww 867 (by decide +kernel) (by decide +kernel)
    | 31, _ => exact ww 869 (by decide +kernel) (by decide +kernel)
    | k + 32, hk => exact absurd hk (by omega)
  intro w hw
  obtain ⟨k, hk, rfl⟩ := List.mem_map.mp hw
  exact h k (List.mem_range.mp hk)
end
section
/-! A small logic over the kit's: a method's heap as a list of cells, a reference as the place of its cell there.
    Values are the machine's own; '.ref k' names the cell at place k (address z + k), '.retAddr j' the j-th table of constants. -/
abbrev ah_E : Type := (Nat × vp_A) ⊕ (Nat × List Value)
abbrev ah_H : Type := List ah_E
/-- how a method ends: with an answer, or with the object at a place thrown -/
abbrev ah_R : Type := Option Value ⊕ Nat
def ah_v (z : Nat) (sa : Nat → Nat) : Value → Value
  | .ref k => .ref (z + k)
  | .retAddr j => .ref (sa j)
  | .int x => .int x
  | .long x => .long x
  | .float x => .float x
  | .double x => .double x
  | .null => .null
theorem ah_cat (z : Nat) (sa : Nat → Nat) (v : Value) : (ah_v z sa v).category = v.category := by cases v <;> rfl
theorem ah_catsum (z : Nat) (sa : Nat → Nat) (st : List Value) : (((st.map (ah_v z sa)).map fun v => v.category).sum) = ((st.map fun v => v.category).sum) := by
  induction st with
  | nil => rfl
  | cons v t ih => simp only [List.map_cons, List.sum_cons, ah_cat, ih]
def ah_e (z : Nat) (sa : Nat → Nat) (dA : Nat → ClassId) : ah_E → va_E
  | .inl a => .inl (dA a.1, a.2)
  | .inr o => .inr (o.1, o.2.map (ah_v z sa))
def ah_w (z : Nat) (sa : Nat → Nat) (dA : Nat → ClassId) (h : ah_H) : va_W := h.mapIdx fun k e => (z + k, ah_e z sa dA e)
section AH
variable {z : Nat} {sa : Nat → Nat} {dA : Nat → ClassId} {h : ah_H} {k : Nat} {e : ah_E}
theorem ah_get (hk : h[k]? = some e) : (ah_w z sa dA h)[k]? = some (z + k, ah_e z sa dA e) := by
  simp [ah_w, List.getElem?_mapIdx, hk]
theorem ah_of {q : Nat × va_E} (hk : (ah_w z sa dA h)[k]? = some q) : ∃ e, h[k]? = some e ∧ q = (z + k, ah_e z sa dA e) := by
  simp only [ah_w, List.getElem?_mapIdx] at hk
  cases he : h[k]? with
  | none => rw [he] at hk; cases hk
  | some e => rw [he] at hk; exact ⟨e, rfl, (Option.some.inj hk).symm⟩
theorem ah_set : (ah_w z sa dA h).set k (z + k, ah_e z sa dA e) = ah_w z sa dA (h.set k e) := by
  apply List.ext_getElem?
  intro i
  simp only [ah_w, List.getElem?_set, List.getElem?_mapIdx, List.length_mapIdx]
  by_cases hi : k = i
  · subst hi
    by_cases hl : k < h.length <;> simp [hl]
  · simp [hi]
theorem ah_push : ah_w z sa dA h ++ [(z + h.length, ah_e z sa dA e)] = ah_w z sa dA (h ++ [e]) := by
  simp [ah_w, List.mapIdx_append]
theorem ah_D : va_D (fun q => z ≤ q) (ah_w z sa dA h) := by
  refine ⟨fun i j x y hx hy hxy => ?_, fun i x hx => ?_⟩
  · obtain ⟨e1, -, rfl⟩ := ah_of hx
    obtain ⟨e2, -, rfl⟩ := ah_of hy
    have : z + i = z + j := hxy
    omega
  · obtain ⟨e1, -, rfl⟩ := ah_of hx
    exact Nat.le_add_right z i
end AH
/-- the types of arrays, by their places -/
abbrev ah_T (dA : Nat → ClassId) : List (ClassId × FieldType) := [(dA 0, .int), (dA 1, .long), (dA 2, .boolean), (dA 3, .char)]
/-- the heap from z on holds these cells, and no more -/
def rn_H (z : Nat) (sa : Nat → Nat) (D : va_G) (dA : Nat → ClassId) (h : ah_H) (H : Heap) : Prop := H.size = z + h.length ∧ va_P D ccl (ah_w z sa dA h) H
/-- locals by their places; 'none': nothing is known -/
def lv_kill : Nat → List (Option Value) → List (Option Value)
  | 0, l => l
  | _, [] => []
  | 1, o :: l => (match o with | some (.long _) => none | some (.double _) => none | o => o) :: l
  | n + 2, o :: l => o :: lv_kill (n + 1) l
def lv_place : Nat → Option Value → List (Option Value) → List (Option Value)
  | 0, o, [] => [o]
  | 0, o, _ :: l => o :: l
  | n + 1, o, [] => none :: lv_place n o []
  | n + 1, o, a :: l => a :: lv_place n o l
def lv_st (i : Nat) (v : Value) (l : List (Option Value)) : List (Option Value) := lv_place i (some v) (lv_kill i l)
def lv_st2 (i : Nat) (v : Value) (l : List (Option Value)) : List (Option Value) := lv_place (i + 1) none (lv_place i (some v) (lv_kill i l))
theorem lv_kill_get : ∀ (i : Nat) (l : List (Option Value)) (j : Nat) (v : Value), (lv_kill i l)[j]? = some (some v) → l[j]? = some (some v) ∧ ¬ (j + 1 = i ∧ v.category = 2)
  | 0, l, j, v, h => ⟨h, fun q => by omega⟩
  | n + 1, [], j, v, h => by cases n <;> simp [lv_kill] at h
  | 1, o :: l, 0, v, h => by
    cases o with
    | none => simp [lv_kill] at h
    | some w => cases w <;> simp [lv_kill] at h <;> subst h <;> simp [Value.category]
  | 1, o :: l, j + 1, v, h => ⟨by simpa [lv_kill] using h, fun q => by omega⟩
  | n + 2, o :: l, 0, v, h => ⟨by simpa [lv_kill] using h, fun q => by omega⟩
  | n + 2, o :: l, j + 1, v, h => by
    have := lv_kill_get (n + 1) l j v (by simpa [lv_kill] using h)
    exact ⟨by simpa using this.1, fun q => this.2 ⟨by omega, q.2⟩⟩
theorem lv_place_get : ∀ (i : Nat) (o : Option Value) (l : List (Option Value)) (j : Nat) (v : Value), (lv_place i o l)[j]? = some (some v) → (j = i ∧ o = some v) ∨ (j ≠ i ∧ l[j]? = some (some v))
  | 0, o, [], 0, v, h => Or.inl ⟨rfl, by simpa [lv_place] using h⟩
  | 0, o, [], j + 1, v, h => by simp [lv_place] at h
  | 0, o, a :: l, 0, v, h => Or.inl ⟨rfl, by simpa [lv_place] using h⟩
  | 0, o, a :: l, j + 1, v, h => Or.inr ⟨by omega, by simpa [lv_place] using h⟩
  | n + 1, o, [], 0, v, h => by simp [lv_place] at h
  | n + 1, o, [], j + 1, v, h => by
    rcases lv_place_get n o [] j v (by simpa [lv_place] using h) with q | q
    · exact Or.inl ⟨by omega, q.2⟩
    · simp at q
  | n + 1, o, a :: l, 0, v, h => Or.inr ⟨by omega, by simpa [lv_place] using h⟩
  | n + 1, o, a :: l, j + 1, v, h => by
    rcases lv_place_get n o l j v (by simpa [lv_place] using h) with q | q
    · exact Or.inl ⟨by omega, q.2⟩
    · exact Or.inr ⟨by omega, by simpa using q.2⟩
def rn_L (z : Nat) (sa : Nat → Nat) (ls : Array Slot) (nL : Nat) (lv : List (Option Value)) : Prop := ls.size = nL ∧ lv_wf ls ∧ ∀ (i : Nat) (v : Value), lv[i]? = some (some v) → ls[i]? = some (Slot.val (ah_v z sa v))
/-- the kit's list of known locals -/
def lv_as (z : Nat) (sa : Nat → Nat) (lv : List (Option Value)) : List (Nat × Value) := (lv.mapIdx fun j o => o.map fun v => (j, ah_v z sa v)).filterMap id
theorem lv_as_mem {z : Nat} {sa : Nat → Nat} {lv : List (Option Value)} {q : Nat × Value} : q ∈ lv_as z sa lv ↔ ∃ v, lv[q.1]? = some (some v) ∧ q.2 = ah_v z sa v := by
  simp only [lv_as, List.mem_filterMap, id]
  constructor
  · rintro ⟨o, ho, rfl⟩
    obtain ⟨j, hj⟩ := List.getElem?_of_mem ho
    simp only [List.getElem?_mapIdx] at hj
    cases hl : lv[j]? with
    | none => rw [hl] at hj; cases hj
    | some o =>
      rw [hl] at hj
      cases o with
      | none => cases hj
      | some v => cases hj; exact ⟨v, hl, rfl⟩
  · rintro ⟨v, h1, h2⟩
    refine ⟨some q, ?_, rfl⟩
    apply List.mem_of_getElem? (i := q.1)
    simp only [List.getElem?_mapIdx, h1]
    simp [← h2]
theorem rn_L.has {z : Nat} {sa : Nat → Nat} {ls : Array Slot} {nL : Nat} {lv : List (Option Value)} (h : rn_L z sa ls nL lv) : lv_has ls nL (lv_as z sa lv) :=
  ⟨h.1, h.2.1, fun q hq => by obtain ⟨v, h1, h2⟩ := lv_as_mem.mp hq; rw [h2]; exact h.2.2 _ _ h1⟩
theorem rn_L.st1 {z : Nat} {sa : Nat → Nat} {ls' : Array Slot} {nL i : Nat} {v : Value} {lv : List (Option Value)}
    (h' : lv_has ls' nL ((i, ah_v z sa v) :: (lv_as z sa lv).filter (fun q => !(q.1 == i) && !(q.1 + 1 == i && q.2.category == 2)))) : rn_L z sa ls' nL (lv_st i v lv) := by
  refine ⟨h'.1, h'.2.1, fun j w hj => ?_⟩
  rcases lv_place_get _ _ _ _ _ hj with ⟨rfl, e⟩ | ⟨hne, hl⟩
  · cases e
    exact h'.2.2 (j, ah_v z sa v) List.mem_cons_self
  · obtain ⟨h1, h2⟩ := lv_kill_get _ _ _ _ hl
    refine h'.2.2 (j, ah_v z sa w) (List.mem_cons_of_mem _ (List.mem_filter.mpr ⟨lv_as_mem.mpr ⟨w, h1, rfl⟩, ?_⟩))
    simp only [Bool.and_eq_true, Bool.not_eq_true', beq_eq_false_iff_ne, ne_eq, Bool.and_eq_false_iff, ah_cat]
    refine ⟨hne, ?_⟩
    by_cases q : j + 1 = i
    · exact Or.inr fun c => h2 ⟨q, c⟩
    · exact Or.inl q
theorem rn_L.st2 {z : Nat} {sa : Nat → Nat} {ls' : Array Slot} {nL i : Nat} {v : Value} {lv : List (Option Value)}
    (h' : lv_has ls' nL ((i, ah_v z sa v) :: (lv_as z sa lv).filter (fun q => !(q.1 == i) && (!(q.1 == i + 1) && !(q.1 + 1 == i && q.2.category == 2))))) : rn_L z sa ls' nL (lv_st2 i v lv) := by
  refine ⟨h'.1, h'.2.1, fun j w hj => ?_⟩
  rcases lv_place_get _ _ _ _ _ hj with ⟨-, e⟩ | ⟨hn1, hj⟩
  · cases e
  rcases lv_place_get _ _ _ _ _ hj with ⟨rfl, e⟩ | ⟨hne, hl⟩
  · cases e
    exact h'.2.2 (j, ah_v z sa v) List.mem_cons_self
  · obtain ⟨h1, h2⟩ := lv_kill_get _ _ _ _ hl
    refine h'.2.2 (j, ah_v z sa w) (List.mem_cons_of_mem _ (List.mem_filter.mpr ⟨lv_as_mem.mpr ⟨w, h1, rfl⟩, ?_⟩))
    simp only [Bool.and_eq_true, Bool.not_eq_true', beq_eq_false_iff_ne, ne_eq, Bool.and_eq_false_iff, ah_cat]
    refine ⟨hne, hn1, ?_⟩
    by_cases q : j + 1 = i
    · exact Or.inr fun c => h2 ⟨q, c⟩
    · exact Or.inl q
/-- the locals with which a method begins -/
def lv_in : List Value → List (Option Value)
  | [] => []
  | .long x :: vs => some (.long x) :: none :: lv_in vs
  | .double x :: vs => some (.double x) :: none :: lv_in vs
  | v :: vs => some v :: lv_in vs
theorem lv_in_cons2 {v : Value} (vs : List Value) (h : v.category = 2) : lv_in (v :: vs) = some v :: none :: lv_in vs := by cases v <;> first | rfl | (simp [Value.category] at h)
theorem lv_in_cons1 {v : Value} (vs : List Value) (h : ¬ v.category = 2) : lv_in (v :: vs) = some v :: lv_in vs := by cases v <;> first | rfl | (simp [Value.category] at h)
theorem lv_in_args (z : Nat) (sa : Nat → Nat) : ∀ (vs : List Value) (n j : Nat) (v : Value), (lv_in vs)[j]? = some (some v) → (n + j, ah_v z sa v) ∈ lv_args n (vs.map (ah_v z sa))
  | [], n, j, v, h => by simp [lv_in] at h
  | w :: vs, n, j, v, h => by
    by_cases hc : w.category = 2
    · rw [lv_in_cons2 vs hc] at h
      simp only [List.map_cons, lv_args, ah_cat, hc, if_true]
      match j, h with
      | 0, h => simp at h; subst h; exact List.mem_cons_self
      | 1, h => simp at h
      | j + 2, h =>
        have := lv_in_args z sa vs (n + 2) j v (by simpa using h)
        rw [show n + (j + 2) = n + 2 + j by omega]
        exact List.mem_cons_of_mem _ this
    · rw [lv_in_cons1 vs hc] at h
      simp only [List.map_cons, lv_args, ah_cat, hc, if_false]
      match j, h with
      | 0, h => simp at h; subst h; exact List.mem_cons_self
      | j + 1, h =>
        have := lv_in_args z sa vs (n + 1) j v (by simpa using h)
        rw [show n + (j + 1) = n + 1 + j by omega]
        exact List.mem_cons_of_mem _ this
theorem lv_in_len (z : Nat) (sa : Nat → Nat) : ∀ (vs : List Value), (lg_sl (vs.map (ah_v z sa))).length = (lv_in vs).length
  | [] => rfl
  | w :: vs => by
    have ih := lv_in_len z sa vs
    simp only [lg_sl] at ih ⊢
    by_cases hc : w.category = 2
    · rw [lv_in_cons2 vs hc]
      simp [ah_cat, hc, ih]
    · rw [lv_in_cons1 vs hc]
      simp [ah_cat, hc, ih]
theorem rn_L.entry {z : Nat} {sa : Nat → Nat} {vs : List Value} {n : Nat} (h : (lv_in vs).length ≤ n) : rn_L z sa ((lg_sl (vs.map (ah_v z sa)) ++ List.replicate (n - (lg_sl (vs.map (ah_v z sa))).length) Slot.unset).toArray) n (lv_in vs) := by
  have hl := lv_entry (vs.map (ah_v z sa)) (n := n) (by rw [lv_in_len]; exact h)
  refine ⟨hl.1, hl.2.1, fun i v hi => ?_⟩
  have := hl.2.2 _ (lv_in_args z sa vs 0 i v hi)
  simpa using this
/-- fewer locals are known -/
def lv_le : List (Option Value) → List (Option Value) → Prop
  | [], _ => True
  | none :: a, [] => lv_le a []
  | none :: a, _ :: b => lv_le a b
  | some _ :: _, [] => False
  | some v :: a, o :: b => o = some v ∧ lv_le a b
theorem lv_le_get : ∀ (a b : List (Option Value)), lv_le a b → ∀ (j : Nat) (v : Value), a[j]? = some (some v) → b[j]? = some (some v)
  | [], _, _, j, v, h => by simp at h
  | none :: a, [], hl, 0, v, h => by simp at h
  | none :: a, [], hl, j + 1, v, h => by
    have := lv_le_get a [] hl j v (by simpa using h)
    simp at this
  | none :: a, o :: b, hl, 0, v, h => by simp at h
  | none :: a, o :: b, hl, j + 1, v, h => by simpa using lv_le_get a b hl j v (by simpa using h)
  | some w :: a, [], hl, j, v, h => by cases hl
  | some w :: a, o :: b, hl, 0, v, h => by rw [hl.1]; simpa using h
  | some w :: a, o :: b, hl, j + 1, v, h => by simpa using lv_le_get a b hl.2 j v (by simpa using h)
end
section
/-! What stays true of the state, and is no plain word of the tables; printed by wip/whole/gen_facts.py. -/
def faceW : List Cond := [(Cond.castable "java/lang/IndexOutOfBoundsException" "java/lang/IndexOutOfBoundsException"), (Cond.declares ({ cls := "java/lang/RuntimeException", name := "<init>", desc := "()V" } : Jvm.MethodName)), (Cond.declares ({ cls := "java/lang/RuntimeException", name := "<init>", desc := "(Ljava/lang/String;)V" } : Jvm.MethodName)), (Cond.declares ({ cls := "java/lang/Exception", name := "<init>", desc := "()V" } : Jvm.MethodName)), (Cond.declares ({ cls := "java/lang/Exception", name := "<init>", desc := "(Ljava/lang/String;)V" } : Jvm.MethodName)), (Cond.declares ({ cls := "java/lang/Throwable", name := "<init>", desc := "()V" } : Jvm.MethodName)), (Cond.declares ({ cls := "java/lang/Throwable", name := "<init>", desc := "(Ljava/lang/String;)V" } : Jvm.MethodName)), (Cond.castable "java/lang/IllegalArgumentException" "java/lang/IllegalArgumentException"), (Cond.castable "java/lang/IllegalStateException" "java/lang/IllegalStateException")]
theorem faceW_in : ∀ w ∈ faceW, w ∈ lw_tbl := by
  intro w hw
  simp only [faceW, List.mem_cons, List.not_mem_nil, or_false] at hw
  rcases hw with rfl | rfl | rfl | rfl | rfl | rfl | rfl | rfl | rfl
  · exact List.mem_of_getElem? (i := 315) (by decide +kernel)
  · exact List.mem_of_getElem? (i := 316) (by decide +kernel)
  · exact List.mem_of_getElem? (i := 317) (by decide +kernel)
  · exact List.mem_of_getElem? (i := 318) (by decide +kernel)
  · exact List.mem_of_getElem? (i := 319) (by decide +kernel)
  · exact List.mem_of_getElem? (i := 320) (by decide +kernel)
  · exact List.mem_of_getElem? (i := 321) (by decide +kernel)
  · exact List.mem_of_getElem? (i := 386) (by decide +kernel)
  · exact List.mem_of_getElem? (i := 439) (by decide +kernel)
theorem faceW_ok : ∀ w ∈ faceW, w.onTables = true ∧ w.faceAtom = true := by decide +kernel
def strW : List (String × Nat × String) := [("ColourCharts", 80, "no such cell or part"), ("ColourCharts", 90, "a part is 0 .. 255"), ("ColourCharts", 97, "no such cell"), ("ColourCharts", 99, "a light is 0 .. 255"), ("ColourCharts", 116, "no such side"), ("ColourCharts", 120, "no frame is found"), ("ColourCharts", 130, "columns and rows are 1 .. 4"), ("ColourCharts", 139, "a quarter is 0 .. 3"), ("ColourCharts", 147, "no such patch or part"), ("ColourCharts", 156, "no such patch or part of a fraction"), ("ColourCharts", 177, "no such patch"), ("ColourCharts", 183, "a target's parts are 0 .. 255"), ("ColourCharts", 193, "the patch has no target"), ("ColourCharts", 211, "no such part or number of a line"), ("ColourCharts", 213, "nothing was fitted"), ("ColourCharts", 219, "no such part"), ("ColourCharts", 224, "no frame is found, or nothing was fitted"), ("ColourCharts", 229, "a sign is 33 .. 126"), ("ColourCharts", 235, "the text has 20 signs"), ("ColourCharts", 244, "there are eight rules"), ("ColourCharts", 260, "a day is 0 .. 100000, its value 0 .. 1000"), ("ColourCharts", 265, "there are 40 days"), ("ColourCharts", 271, "no such part of a fraction"), ("ColourCharts", 291, "no such count")]
theorem strW_in : ∀ q ∈ strW, Cond.stringRef q.1 q.2.1 q.2.2 ∈ lw_tbl := by
  intro q hq
  simp only [strW, List.mem_cons, List.not_mem_nil, or_false] at hq
  rcases hq with rfl | rfl | rfl | rfl | rfl | rfl | rfl | rfl | rfl | rfl | rfl | rfl | rfl | rfl | rfl | rfl | rfl | rfl | rfl | rfl | rfl | rfl | rfl | rfl
  · exact List.mem_of_getElem? (i := 354) (by decide +kernel)
  · exact List.mem_of_getElem? (i := 393) (by decide +kernel)
  · exact List.mem_of_getElem? (i := 411) (by decide +kernel)
  · exact List.mem_of_getElem? (i := 412) (by decide +kernel)
  · exact List.mem_of_getElem? (i := 436) (by decide +kernel)
  · exact List.mem_of_getElem? (i := 446) (by decide +kernel)
  · exact List.mem_of_getElem? (i := 467) (by decide +kernel)
  · exact List.mem_of_getElem? (i := 475) (by decide +kernel)
  · exact List.mem_of_getElem? (i := 491) (by decide +kernel)
  · exact List.mem_of_getElem? (i := 537) (by decide +kernel)
  · exact List.mem_of_getElem? (i := 565) (by decide +kernel)
  · exact List.mem_of_getElem? (i := 570) (by decide +kernel)
  · exact List.mem_of_getElem? (i := 582) (by decide +kernel)
  · exact List.mem_of_getElem? (i := 639) (by decide +kernel)
  · exact List.mem_of_getElem? (i := 640) (by decide +kernel)
  · exact List.mem_of_getElem? (i := 652) (by decide +kernel)
  · exact List.mem_of_getElem? (i := 672) (by decide +kernel)
  · exact List.mem_of_getElem? (i := 686) (by decide +kernel)
  · exact List.mem_of_getElem? (i := 691) (by decide +kernel)
  · exact List.mem_of_getElem? (i := 707) (by decide +kernel)
  · exact List.mem_of_getElem? (i := 749) (by decide +kernel)
  · exact List.mem_of_getElem? (i := 750) (by decide +kernel)
  · exact List.mem_of_getElem? (i := 758) (by decide +kernel)
  · exact List.mem_of_getElem? (i := 768) (by decide +kernel)
def ncW : List (String × String) := [("java/lang/IndexOutOfBoundsException", "java/lang/IllegalArgumentException"), ("java/lang/IndexOutOfBoundsException", "java/lang/IllegalStateException"), ("java/lang/IllegalArgumentException", "java/lang/IndexOutOfBoundsException"), ("java/lang/IllegalArgumentException", "java/lang/IllegalStateException"), ("java/lang/IllegalStateException", "java/lang/IndexOutOfBoundsException"), ("java/lang/IllegalStateException", "java/lang/IllegalArgumentException")]
theorem nestW_form : ∀ w ∈ nestW, ∃ a i x h, w = Cond.methodLinkNest a i x h := by
  intro w hw
  simp only [nestW, List.mem_cons, List.not_mem_nil, or_false] at hw
  rcases hw with rfl | rfl | rfl | rfl | rfl | rfl | rfl | rfl | rfl | rfl <;> exact ⟨_, _, _, _, rfl⟩
/-- a static field of references, in a cell below z -/
def rn_st (z : Nat) (C n d : String) (U : State) : Prop := ∃ (c : ClassId) (k : Class) (i : Nat) (f : Field) (a : Nat) (cell : Cell) (v : Value), U.vm.findClass C = some c ∧ U.fieldFound? C n d = some (c, k, i, f) ∧ f.isStatic = true ∧ k.statics = some a ∧ U.heap[a]? = some cell ∧ cell.vm.isStatics = true ∧ cell.cls = c ∧ f.slot < cell.slots.size ∧ k.staticTypes[f.slot]? = some f.type ∧ cell.slots[f.slot]? = some v ∧ (v = .null ∨ ∃ t, v = .ref t) ∧ a < z
theorem rn_st.kept {z : Nat} {C n d : String} {u U : State} (hvm : u.vm.Alike U.vm) (hq : ∀ q, q < z → U.heap[q]? = u.heap[q]?) (h : rn_st z C n d u) : rn_st z C n d U := by
  obtain ⟨c, k, i, f, a, cell, v, h1, h2, h3, h4, h5, h6, h7, h8, h9, h10, h11, h12⟩ := h
  obtain ⟨k', hi', he⟩ := State.fieldFound?_setVm hvm h2
  exact ⟨c, k', i, f, a, cell, v, by rw [hvm.findClass]; exact h1, hi', h3, by rw [he]; exact h4, by rw [hq a h12]; exact h5, h6, h7, h8, by rw [he]; exact h9, h10, h11, h12⟩
theorem rn_st.lays {z : Nat} {C n d : String} {U : State} (h : rn_st z C n d U) (A : Array Value) : (Cond.laysStatic C n d).before A U = true := by
  obtain ⟨c, k, i, f, a, cell, v, h1, h2, h3, h4, h5, h6, h7, h8, h9, h10, h11, h12⟩ := h
  simp [Cond.before, Cond.holds, Cond.value, h1, h2, h3, h4, h5, h6, h7, h8, h9]
theorem rn_st.isRef {z : Nat} {C n d : String} {U : State} (h : rn_st z C n d U) (A : Array Value) : (Cond.isRef (.static C n d)).before A U = true := by
  obtain ⟨c, k, i, f, a, cell, v, h1, h2, h3, h4, h5, h6, h7, h8, h9, h10, h11, h12⟩ := h
  have he : (Term.static C n d).eval A U none [] U = some v := by simp [Term.eval, State.fieldNamed?, h2, h3, h4, h5, h6, h10]
  rcases h11 with rfl | ⟨t, rfl⟩ <;> simp [Cond.before, Cond.holds, Cond.value, he]
theorem rn_st.of {z : Nat} {C n d : String} {U : State} {A : Array Value} (hl : (Cond.laysStatic C n d).before A U = true) (hr : (Cond.isRef (.static C n d)).before A U = true) (hz : ∀ a : Nat, a < U.heap.size → a < z) : rn_st z C n d U := by
  obtain ⟨c, k, i, f, a, cell, hc, hi, hst, ha, hcell, hs, hcls, hlt, hty⟩ := Cond.laysStatic_spec hl
  have he : (Term.static C n d).eval A U none [] U = cell.slots[f.slot]? := by simp [Term.eval, State.fieldNamed?, hi, hst, ha, hcell, hs]
  cases hv : cell.slots[f.slot]? with
  | none => rw [hv] at he; simp [Cond.before, Cond.holds, Cond.value, he] at hr
  | some v =>
    refine ⟨c, k, i, f, a, cell, v, hc, hi, hst, ha, hcell, hs, hcls, hlt, hty, hv, ?_, hz a (Array.getElem?_eq_some_iff.mp hcell).1⟩
    rw [hv] at he
    cases v with
    | null => exact Or.inl rfl
    | ref t => exact Or.inr ⟨t, rfl⟩
    | _ => simp [Cond.before, Cond.holds, Cond.value, he] at hr
def rn_w3 : Nat → Value := fun j => match j with
  | 0 => .int 2
  | 1 => .int 4
  | _ => .int 3
/-- all that stays -/
def rn_F (z : Nat) (sa : Nat → Nat) (U : State) : Prop :=
  (∀ w ∈ nestW, va_Nw w U) ∧ (∀ w ∈ faceW, va_Nw w U) ∧ (∀ q ∈ strW, ∃ a, vk_R q.1 q.2.1 q.2.2 a U) ∧ (∀ q ∈ ncW, va_Nc q.1 q.2 U) ∧
  (rn_st z "java/lang/Throwable" "UNASSIGNED_STACK" "[Ljava/lang/StackTraceElement;" U ∧ rn_st z "java/lang/Throwable" "SUPPRESSED_SENTINEL" "Ljava/util/List;" U) ∧
  va_Z "ColourCharts" "PART_WEIGHTS" "[I" (.ref (sa 0)) (fun q => z ≤ q) U U.heap ∧ va_T .int (sa 0) 3 rn_w3 (fun q => z ≤ q) U U.heap
theorem rn_F.kept {z : Nat} {sa : Nat → Nat} {s U : State} (hW : s.WarmedH U.vm) (hq : ∀ q, q < z → U.heap[q]? = s.heap[q]?) (h : rn_F z sa s) : rn_F z sa U := by
  obtain ⟨h1, h2, h3, h4, ⟨h5, h6⟩, h7, h8⟩ := h
  have hk : ∀ a : Nat, a < s.heap.size → ¬ z ≤ a → U.heap[a]? = s.heap[a]? := fun a _ ha => hq a (by omega)
  refine ⟨fun w hw => ?_, fun w hw => ?_, fun q hw => ?_, fun q hw => (h4 q hw).moved hW.alike, ⟨h5.kept hW.alike hq, h6.kept hW.alike hq⟩, (h7.kept hk).moved hW.alike, (h8.kept hk).moved hW.alike⟩
  · obtain ⟨a, i, x, y, rfl⟩ := nestW_form w hw
    exact va_Nw.warmM hW (h1 _ hw)
  · exact va_tabs (faceW_ok w hw).1 (rfl : (s.setVm U.vm).vm = U.vm) (Cond.faceAtom_setVm hW.alike w (faceW_ok w hw).2 (h2 w hw))
  · obtain ⟨a, ha⟩ := h3 q hw
    exact ⟨a, ha.warm hW⟩
theorem rn_F.same {z : Nat} {sa : Nat → Nat} {u U : State} (hv : U.vm = u.vm) (hh : U.heap = u.heap) (h : rn_F z sa u) : rn_F z sa U := by
  obtain ⟨h1, h2, h3, h4, ⟨h5, h6⟩, h7, h8⟩ := h
  have al : u.vm.Alike U.vm := by rw [hv]; exact Vm.Alike.refl u.vm
  refine ⟨fun w hw => ?_, fun w hw => va_Nw.same (faceW_ok w hw).1 hv.symm (h2 w hw), fun q hw => ?_, fun q hw => (h4 q hw).moved al, ⟨h5.kept al (fun q _ => by rw [hh]), h6.kept al (fun q _ => by rw [hh])⟩, ?_, ?_⟩
  · obtain ⟨a, i, x, y, rfl⟩ := nestW_form w hw
    exact va_Nw.same rfl hv.symm (h1 _ hw)
  · obtain ⟨a, ha⟩ := h3 q hw
    exact ⟨a, vk_R.same hv ha⟩
  · rw [hh]; exact h7.moved al
  · rw [hh]; exact h8.moved al
end
section
/-! The judgement: from here the method comes to an end that K allows. -/
def rn_O (z : Nat) (sa : Nat → Nat) (r : ah_R) (o : Outcome) : Prop := match r with
  | .inl v => o = .returned (v.map (ah_v z sa))
  | .inr k => o = .threw (z + k)
def rn_Q (z : Nat) (sa : Nat → Nat) (D : va_G) (dA : Nat → ClassId) (K : ah_R → ah_H → Prop) (st : State) (o : Outcome) (t : State) : Prop :=
  ∃ (r : ah_R) (h' : ah_H), K r h' ∧ rn_O z sa r o ∧ rn_H z sa D dA h' t.heap ∧ va_F (fun q => z ≤ q) st t
def rn_End (st : State) (t : State) (L : List Loc) (k n : Nat) : Prop := st.WarmedH t.vm ∧ st.sameButNew ({ t with vm := st.vm } : State) L k n
def rn_MQ (below : List Frame) (z : Nat) (sa : Nat → Nat) (D : va_G) (dA : Nat → ClassId) (K : ah_R → ah_H → Prop) (s : State) (mc ms : Nat) : State → Prop := fun t =>
  ∃ o, t.status = .running ∧ Ended t below o ∧ rn_Q z sa D dA K s o t ∧ ∃ L, rn_End s t L mc ms ∧ ∀ q ∈ L, z ≤ q.base
def rn_Ok (p : Program) (l : Launch) (e : Env) (s : State) (m : MethodId) (args : Array Value) (meth : Method) (c : Code) (z : Nat) (sa : Nat → Nat) (D : va_G) (dA : Nat → ClassId) (cc : ByteArray) (own nm : String) (nL : Nat) (ret : Option FieldType) (hh : List (Nat × Nat × Nat × Nat)) : Prop :=
  p.tables.exec = Jvm.exec ∧ c.code = cc ∧ c.maxLocals = nL ∧ s.vm.findClass own = some m.cls ∧ (∀ w ∈ allW, w.before args s = true) ∧ meth.locks = false ∧ meth.sig.returnType = ret ∧ va_K D ccl (ah_T dA) s ∧ z ≤ s.heap.size ∧ rn_F z sa s ∧ meth.name = nm ∧ (c.exceptionTable.toList.map fun x => (x.startPc, x.endPc, x.handlerPc, x.catchType)) = hh
def Run (p : Program) (l : Launch) (e : Env) (R : Room) (s : State) (m : MethodId) (args : Array Value) (below : List Frame) (meth : Method) (c : Code) (z : Nat) (sa : Nat → Nat) (D : va_G) (dA : Nat → ClassId) (mc ms : Nat) (K : ah_R → ah_H → Prop) (nL : Nat) (pc : Nat) (lv : List (Option Value)) (st : List Value) (h : ah_H) (n1 n2 : Nat) : Prop :=
  ∀ (H : Heap) (locs : List Loc) (ls : Array Slot), rn_H z sa D dA h H → va_S (fun q => z ≤ q) s.heap H locs → rn_L z sa ls nL lv →
    W p l e R s m args below meth c H locs n1 n2 (rn_MQ below z sa D dA K s mc ms) (F0 m pc ls (st.map (ah_v z sa)))
section RUN
variable {p : Program} {l : Launch} {e : Env} {R : Room} {s : State} {m : MethodId} {args : Array Value} {below : List Frame} {meth : Method} {c : Code} {z : Nat} {sa : Nat → Nat} {D : va_G} {dA : Nat → ClassId} {mc ms : Nat} {K : ah_R → ah_H → Prop}
variable {cc : ByteArray} {own nm : String} {nL : Nat} {ret : Option FieldType} {hh : List (Nat × Nat × Nat × Nat)} {pc : Nat} {lv : List (Option Value)} {st : List Value} {h : ah_H} {n1 n2 : Nat}
theorem rn_Ok.ex (C : rn_Ok p l e s m args meth c z sa D dA cc own nm nL ret hh) : p.tables.exec = Jvm.exec := C.1
theorem rn_Ok.by (C : rn_Ok p l e s m args meth c z sa D dA cc own nm nL ret hh) : c.code = cc := C.2.1
theorem rn_Ok.ml (C : rn_Ok p l e s m args meth c z sa D dA cc own nm nL ret hh) : c.maxLocals = nL := C.2.2.1
theorem rn_Ok.ow (C : rn_Ok p l e s m args meth c z sa D dA cc own nm nL ret hh) : s.vm.findClass own = some m.cls := C.2.2.2.1
theorem rn_Ok.ts (C : rn_Ok p l e s m args meth c z sa D dA cc own nm nL ret hh) : ∀ w ∈ allW, w.before args s = true := C.2.2.2.2.1
theorem rn_Ok.lk (C : rn_Ok p l e s m args meth c z sa D dA cc own nm nL ret hh) : meth.locks = false := C.2.2.2.2.2.1
theorem rn_Ok.re (C : rn_Ok p l e s m args meth c z sa D dA cc own nm nL ret hh) : meth.sig.returnType = ret := C.2.2.2.2.2.2.1
theorem rn_Ok.kk (C : rn_Ok p l e s m args meth c z sa D dA cc own nm nL ret hh) : va_K D ccl (ah_T dA) s := C.2.2.2.2.2.2.2.1
theorem rn_Ok.zs (C : rn_Ok p l e s m args meth c z sa D dA cc own nm nL ret hh) : z ≤ s.heap.size := C.2.2.2.2.2.2.2.2.1
theorem rn_Ok.ff (C : rn_Ok p l e s m args meth c z sa D dA cc own nm nL ret hh) : rn_F z sa s := C.2.2.2.2.2.2.2.2.2.1
theorem rn_Ok.na (C : rn_Ok p l e s m args meth c z sa D dA cc own nm nL ret hh) : meth.name = nm := C.2.2.2.2.2.2.2.2.2.2.1
theorem rn_Ok.tb (C : rn_Ok p l e s m args meth c z sa D dA cc own nm nL ret hh) : (c.exceptionTable.toList.map fun x => (x.startPc, x.endPc, x.handlerPc, x.catchType)) = hh := C.2.2.2.2.2.2.2.2.2.2.2
/-- fewer locals, the same things under other names -/
theorem rn_weak {lv' : List (Option Value)} (hl : lv_le lv' lv) (k : Run p l e R s m args below meth c z sa D dA mc ms K nL pc lv' st h n1 n2) : Run p l e R s m args below meth c z sa D dA mc ms K nL pc lv st h n1 n2 :=
  fun H locs ls hH hS hL => k H locs ls hH hS ⟨hL.1, hL.2.1, fun i v hi => hL.2.2 i v (lv_le_get _ _ hl i v hi)⟩
theorem rn_is {lv' : List (Option Value)} {st' : List Value} {h' : ah_H} (e1 : lv = lv') (e2 : st = st') (e3 : h = h') (k : Run p l e R s m args below meth c z sa D dA mc ms K nL pc lv' st' h' n1 n2) : Run p l e R s m args below meth c z sa D dA mc ms K nL pc lv st h n1 n2 := by
  subst e1; subst e2; subst e3; exact k
theorem rn_iadd (C : rn_Ok p l e s m args meth c z sa D dA cc own nm nL ret hh) {x y : Int32} (d : decode cc pc = .ok (.iadd, 1)) (k : Run p l e R s m args below meth c z sa D dA mc ms K nL (pc + 1) lv (.int (x + y) :: st) h n1 n2) : Run p l e R s m args below meth c z sa D dA mc ms K nL pc lv (.int y :: .int x :: st) h n1 n2 :=
  fun H locs ls hH hS hL => lv_iadd C.ex C.by d (k H locs ls hH hS hL)
theorem rn_isub (C : rn_Ok p l e s m args meth c z sa D dA cc own nm nL ret hh) {x y : Int32} (d : decode cc pc = .ok (.isub, 1)) (k : Run p l e R s m args below meth c z sa D dA mc ms K nL (pc + 1) lv (.int (x - y) :: st) h n1 n2) : Run p l e R s m args below meth c z sa D dA mc ms K nL pc lv (.int y :: .int x :: st) h n1 n2 :=
  fun H locs ls hH hS hL => lv_isub C.ex C.by d (k H locs ls hH hS hL)
theorem rn_imul (C : rn_Ok p l e s m args meth c z sa D dA cc own nm nL ret hh) {x y : Int32} (d : decode cc pc = .ok (.imul, 1)) (k : Run p l e R s m args below meth c z sa D dA mc ms K nL (pc + 1) lv (.int (x * y) :: st) h n1 n2) : Run p l e R s m args below meth c z sa D dA mc ms K nL pc lv (.int y :: .int x :: st) h n1 n2 :=
  fun H locs ls hH hS hL => lv_imul C.ex C.by d (k H locs ls hH hS hL)
theorem rn_iand (C : rn_Ok p l e s m args meth c z sa D dA cc own nm nL ret hh) {x y : Int32} (d : decode cc pc = .ok (.iand, 1)) (k : Run p l e R s m args below meth c z sa D dA mc ms K nL (pc + 1) lv (.int (x &&& y) :: st) h n1 n2) : Run p l e R s m args below meth c z sa D dA mc ms K nL pc lv (.int y :: .int x :: st) h n1 n2 :=
  fun H locs ls hH hS hL => lv_iand C.ex C.by d (k H locs ls hH hS hL)
theorem rn_ior (C : rn_Ok p l e s m args meth c z sa D dA cc own nm nL ret hh) {x y : Int32} (d : decode cc pc = .ok (.ior, 1)) (k : Run p l e R s m args below meth c z sa D dA mc ms K nL (pc + 1) lv (.int (x ||| y) :: st) h n1 n2) : Run p l e R s m args below meth c z sa D dA mc ms K nL pc lv (.int y :: .int x :: st) h n1 n2 :=
  fun H locs ls hH hS hL => lv_ior C.ex C.by d (k H locs ls hH hS hL)
theorem rn_ixor (C : rn_Ok p l e s m args meth c z sa D dA cc own nm nL ret hh) {x y : Int32} (d : decode cc pc = .ok (.ixor, 1)) (k : Run p l e R s m args below meth c z sa D dA mc ms K nL (pc + 1) lv (.int (x ^^^ y) :: st) h n1 n2) : Run p l e R s m args below meth c z sa D dA mc ms K nL pc lv (.int y :: .int x :: st) h n1 n2 :=
  fun H locs ls hH hS hL => lv_ixor C.ex C.by d (k H locs ls hH hS hL)
theorem rn_ladd (C : rn_Ok p l e s m args meth c z sa D dA cc own nm nL ret hh) {x y : Int64} (d : decode cc pc = .ok (.ladd, 1)) (k : Run p l e R s m args below meth c z sa D dA mc ms K nL (pc + 1) lv (.long (x + y) :: st) h n1 n2) : Run p l e R s m args below meth c z sa D dA mc ms K nL pc lv (.long y :: .long x :: st) h n1 n2 :=
  fun H locs ls hH hS hL => lv_ladd C.ex C.by d (k H locs ls hH hS hL)
theorem rn_lsub (C : rn_Ok p l e s m args meth c z sa D dA cc own nm nL ret hh) {x y : Int64} (d : decode cc pc = .ok (.lsub, 1)) (k : Run p l e R s m args below meth c z sa D dA mc ms K nL (pc + 1) lv (.long (x - y) :: st) h n1 n2) : Run p l e R s m args below meth c z sa D dA mc ms K nL pc lv (.long y :: .long x :: st) h n1 n2 :=
  fun H locs ls hH hS hL => lv_lsub C.ex C.by d (k H locs ls hH hS hL)
theorem rn_lmul (C : rn_Ok p l e s m args meth c z sa D dA cc own nm nL ret hh) {x y : Int64} (d : decode cc pc = .ok (.lmul, 1)) (k : Run p l e R s m args below meth c z sa D dA mc ms K nL (pc + 1) lv (.long (x * y) :: st) h n1 n2) : Run p l e R s m args below meth c z sa D dA mc ms K nL pc lv (.long y :: .long x :: st) h n1 n2 :=
  fun H locs ls hH hS hL => lv_lmul C.ex C.by d (k H locs ls hH hS hL)
theorem rn_land (C : rn_Ok p l e s m args meth c z sa D dA cc own nm nL ret hh) {x y : Int64} (d : decode cc pc = .ok (.land, 1)) (k : Run p l e R s m args below meth c z sa D dA mc ms K nL (pc + 1) lv (.long (x &&& y) :: st) h n1 n2) : Run p l e R s m args below meth c z sa D dA mc ms K nL pc lv (.long y :: .long x :: st) h n1 n2 :=
  fun H locs ls hH hS hL => lv_land C.ex C.by d (k H locs ls hH hS hL)
theorem rn_lor (C : rn_Ok p l e s m args meth c z sa D dA cc own nm nL ret hh) {x y : Int64} (d : decode cc pc = .ok (.lor, 1)) (k : Run p l e R s m args below meth c z sa D dA mc ms K nL (pc + 1) lv (.long (x ||| y) :: st) h n1 n2) : Run p l e R s m args below meth c z sa D dA mc ms K nL pc lv (.long y :: .long x :: st) h n1 n2 :=
  fun H locs ls hH hS hL => lv_lor C.ex C.by d (k H locs ls hH hS hL)
theorem rn_lxor (C : rn_Ok p l e s m args meth c z sa D dA cc own nm nL ret hh) {x y : Int64} (d : decode cc pc = .ok (.lxor, 1)) (k : Run p l e R s m args below meth c z sa D dA mc ms K nL (pc + 1) lv (.long (x ^^^ y) :: st) h n1 n2) : Run p l e R s m args below meth c z sa D dA mc ms K nL pc lv (.long y :: .long x :: st) h n1 n2 :=
  fun H locs ls hH hS hL => lv_lxor C.ex C.by d (k H locs ls hH hS hL)
theorem rn_ineg (C : rn_Ok p l e s m args meth c z sa D dA cc own nm nL ret hh) {x : Int32} (d : decode cc pc = .ok (.ineg, 1)) (k : Run p l e R s m args below meth c z sa D dA mc ms K nL (pc + 1) lv (.int (-x) :: st) h n1 n2) : Run p l e R s m args below meth c z sa D dA mc ms K nL pc lv (.int x :: st) h n1 n2 :=
  fun H locs ls hH hS hL => lv_ineg C.ex C.by d (k H locs ls hH hS hL)
theorem rn_lneg (C : rn_Ok p l e s m args meth c z sa D dA cc own nm nL ret hh) {x : Int64} (d : decode cc pc = .ok (.lneg, 1)) (k : Run p l e R s m args below meth c z sa D dA mc ms K nL (pc + 1) lv (.long (-x) :: st) h n1 n2) : Run p l e R s m args below meth c z sa D dA mc ms K nL pc lv (.long x :: st) h n1 n2 :=
  fun H locs ls hH hS hL => lv_lneg C.ex C.by d (k H locs ls hH hS hL)
theorem rn_ishl (C : rn_Ok p l e s m args meth c z sa D dA cc own nm nL ret hh) {x y : Int32} (d : decode cc pc = .ok (.ishl, 1)) (k : Run p l e R s m args below meth c z sa D dA mc ms K nL (pc + 1) lv (.int (x <<< (y &&& 31)) :: st) h n1 n2) : Run p l e R s m args below meth c z sa D dA mc ms K nL pc lv (.int y :: .int x :: st) h n1 n2 :=
  fun H locs ls hH hS hL => lv_ishl C.ex C.by d (k H locs ls hH hS hL)
theorem rn_idiv (C : rn_Ok p l e s m args meth c z sa D dA cc own nm nL ret hh) {x y : Int32} (d : decode cc pc = .ok (.idiv, 1)) (hne : ¬ y = 0) (k : Run p l e R s m args below meth c z sa D dA mc ms K nL (pc + 1) lv (.int (x / y) :: st) h n1 n2) : Run p l e R s m args below meth c z sa D dA mc ms K nL pc lv (.int y :: .int x :: st) h n1 n2 :=
  fun H locs ls hH hS hL => lv_idiv C.ex C.by d hne (k H locs ls hH hS hL)
theorem rn_irem (C : rn_Ok p l e s m args meth c z sa D dA cc own nm nL ret hh) {x y : Int32} (d : decode cc pc = .ok (.irem, 1)) (hne : ¬ y = 0) (k : Run p l e R s m args below meth c z sa D dA mc ms K nL (pc + 1) lv (.int (x - x / y * y) :: st) h n1 n2) : Run p l e R s m args below meth c z sa D dA mc ms K nL pc lv (.int y :: .int x :: st) h n1 n2 :=
  fun H locs ls hH hS hL => lv_irem C.ex C.by d hne (k H locs ls hH hS hL)
theorem rn_ldiv (C : rn_Ok p l e s m args meth c z sa D dA cc own nm nL ret hh) {x y : Int64} (d : decode cc pc = .ok (.ldiv, 1)) (hne : ¬ y = 0) (k : Run p l e R s m args below meth c z sa D dA mc ms K nL (pc + 1) lv (.long (x / y) :: st) h n1 n2) : Run p l e R s m args below meth c z sa D dA mc ms K nL pc lv (.long y :: .long x :: st) h n1 n2 :=
  fun H locs ls hH hS hL => lv_ldiv C.ex C.by d hne (k H locs ls hH hS hL)
theorem rn_lrem (C : rn_Ok p l e s m args meth c z sa D dA cc own nm nL ret hh) {x y : Int64} (d : decode cc pc = .ok (.lrem, 1)) (hne : ¬ y = 0) (k : Run p l e R s m args below meth c z sa D dA mc ms K nL (pc + 1) lv (.long (x - x / y * y) :: st) h n1 n2) : Run p l e R s m args below meth c z sa D dA mc ms K nL pc lv (.long y :: .long x :: st) h n1 n2 :=
  fun H locs ls hH hS hL => lv_lrem C.ex C.by d hne (k H locs ls hH hS hL)
theorem rn_i2l (C : rn_Ok p l e s m args meth c z sa D dA cc own nm nL ret hh) {x : Int32} (d : decode cc pc = .ok (.i2l, 1)) (k : Run p l e R s m args below meth c z sa D dA mc ms K nL (pc + 1) lv (.long x.toInt64 :: st) h n1 n2) : Run p l e R s m args below meth c z sa D dA mc ms K nL pc lv (.int x :: st) h n1 n2 :=
  fun H locs ls hH hS hL => lv_i2l C.ex C.by d rfl (k H locs ls hH hS hL)
theorem rn_l2i (C : rn_Ok p l e s m args meth c z sa D dA cc own nm nL ret hh) {x : Int64} (d : decode cc pc = .ok (.l2i, 1)) (k : Run p l e R s m args below meth c z sa D dA mc ms K nL (pc + 1) lv (.int x.toInt32 :: st) h n1 n2) : Run p l e R s m args below meth c z sa D dA mc ms K nL pc lv (.long x :: st) h n1 n2 :=
  fun H locs ls hH hS hL => lv_l2i C.ex C.by d rfl (k H locs ls hH hS hL)
theorem rn_i2c (C : rn_Ok p l e s m args meth c z sa D dA cc own nm nL ret hh) {x : Int32} (d : decode cc pc = .ok (.i2c, 1)) (k : Run p l e R s m args below meth c z sa D dA mc ms K nL (pc + 1) lv (.int (x.toUInt32 % 65536).toInt32 :: st) h n1 n2) : Run p l e R s m args below meth c z sa D dA mc ms K nL pc lv (.int x :: st) h n1 n2 :=
  fun H locs ls hH hS hL => lv_i2c C.ex C.by d rfl (k H locs ls hH hS hL)
theorem rn_iconst (C : rn_Ok p l e s m args meth c z sa D dA cc own nm nL ret hh) {n : Int} (v : Int32) (d : decode cc pc = .ok (.iconst n, 1)) (hv : Int32.ofInt n = v) (k : Run p l e R s m args below meth c z sa D dA mc ms K nL (pc + 1) lv (.int v :: st) h n1 n2) : Run p l e R s m args below meth c z sa D dA mc ms K nL pc lv st h n1 n2 :=
  fun H locs ls hH hS hL => lv_iconst C.ex C.by d hv (k H locs ls hH hS hL)
theorem rn_bipush (C : rn_Ok p l e s m args meth c z sa D dA cc own nm nL ret hh) {n : Int} (v : Int32) (d : decode cc pc = .ok (.bipush n, 2)) (hv : (Int8.ofInt n).toInt32 = v) (k : Run p l e R s m args below meth c z sa D dA mc ms K nL (pc + 2) lv (.int v :: st) h n1 n2) : Run p l e R s m args below meth c z sa D dA mc ms K nL pc lv st h n1 n2 :=
  fun H locs ls hH hS hL => lv_bipush C.ex C.by d hv (k H locs ls hH hS hL)
theorem rn_sipush (C : rn_Ok p l e s m args meth c z sa D dA cc own nm nL ret hh) {n : Int} (v : Int32) (d : decode cc pc = .ok (.sipush n, 3)) (hv : (Int16.ofInt n).toInt32 = v) (k : Run p l e R s m args below meth c z sa D dA mc ms K nL (pc + 3) lv (.int v :: st) h n1 n2) : Run p l e R s m args below meth c z sa D dA mc ms K nL pc lv st h n1 n2 :=
  fun H locs ls hH hS hL => lv_sipush C.ex C.by d hv (k H locs ls hH hS hL)
theorem rn_lconst (C : rn_Ok p l e s m args meth c z sa D dA cc own nm nL ret hh) {n : Fin 2} (v : Int64) (d : decode cc pc = .ok (.lconst n, 1)) (hv : Int64.ofNat (n : Nat) = v) (k : Run p l e R s m args below meth c z sa D dA mc ms K nL (pc + 1) lv (.long v :: st) h n1 n2) : Run p l e R s m args below meth c z sa D dA mc ms K nL pc lv st h n1 n2 :=
  fun H locs ls hH hS hL => lv_lconst C.ex C.by d hv (k H locs ls hH hS hL)
theorem rn_ldc (C : rn_Ok p l e s m args meth c z sa D dA cc own nm nL ret hh) {i : Nat} {v : Int32} (hw : Cond.constant own i v ∈ allW) (d : decode cc pc = .ok (.ldc i, 2)) (k : Run p l e R s m args below meth c z sa D dA mc ms K nL (pc + 2) lv (.int v :: st) h n1 n2) : Run p l e R s m args below meth c z sa D dA mc ms K nL pc lv st h n1 n2 :=
  fun H locs ls hH hS hL => lv_ldc C.ex C.by C.ow (C.ts _ hw) d (k H locs ls hH hS hL)
theorem rn_ldc2 (C : rn_Ok p l e s m args meth c z sa D dA cc own nm nL ret hh) {i : Nat} {v : Int64} (hw : Cond.constantLong own i v ∈ allW) (d : decode cc pc = .ok (.ldc2_w i, 3)) (k : Run p l e R s m args below meth c z sa D dA mc ms K nL (pc + 3) lv (.long v :: st) h n1 n2) : Run p l e R s m args below meth c z sa D dA mc ms K nL pc lv st h n1 n2 :=
  fun H locs ls hH hS hL => lv_ldc2 C.ex C.by C.ow (C.ts _ hw) d (k H locs ls hH hS hL)
theorem rn_iload_n (C : rn_Ok p l e s m args meth c z sa D dA cc own nm nL ret hh) {j : Fin 4} {x : Int32} (d : decode cc pc = .ok (.iload_n j, 1)) (hv : lv[(j : Nat)]? = some (some (.int x))) (k : Run p l e R s m args below meth c z sa D dA mc ms K nL (pc + 1) lv (.int x :: st) h n1 n2) : Run p l e R s m args below meth c z sa D dA mc ms K nL pc lv st h n1 n2 :=
  fun H locs ls hH hS hL => lv_iload_n C.ex C.by d rfl (hL.2.2 _ _ hv) (k H locs ls hH hS hL)
theorem rn_iload (C : rn_Ok p l e s m args meth c z sa D dA cc own nm nL ret hh) {j : Nat} {x : Int32} (d : decode cc pc = .ok (.iload j, 2)) (hv : lv[j]? = some (some (.int x))) (k : Run p l e R s m args below meth c z sa D dA mc ms K nL (pc + 2) lv (.int x :: st) h n1 n2) : Run p l e R s m args below meth c z sa D dA mc ms K nL pc lv st h n1 n2 :=
  fun H locs ls hH hS hL => lv_iload C.ex C.by d (hL.2.2 _ _ hv) (k H locs ls hH hS hL)
theorem rn_istore_n (C : rn_Ok p l e s m args meth c z sa D dA cc own nm nL ret hh) {j : Fin 4} {x : Int32} (d : decode cc pc = .ok (.istore_n j, 1)) (hn : (j : Nat) < nL) (k : Run p l e R s m args below meth c z sa D dA mc ms K nL (pc + 1) (lv_st (j : Nat) (.int x) lv) st h n1 n2) : Run p l e R s m args below meth c z sa D dA mc ms K nL pc lv (.int x :: st) h n1 n2 :=
  fun H locs ls hH hS hL => lv_istore_n C.ex C.by d rfl hL.has hn rfl (fun ls' h' => k H locs ls' hH hS (rn_L.st1 (v := .int x) h'))
theorem rn_istore (C : rn_Ok p l e s m args meth c z sa D dA cc own nm nL ret hh) {j : Nat} {x : Int32} (d : decode cc pc = .ok (.istore j, 2)) (hn : j < nL) (k : Run p l e R s m args below meth c z sa D dA mc ms K nL (pc + 2) (lv_st j (.int x) lv) st h n1 n2) : Run p l e R s m args below meth c z sa D dA mc ms K nL pc lv (.int x :: st) h n1 n2 :=
  fun H locs ls hH hS hL => lv_istore C.ex C.by d hL.has hn rfl (fun ls' h' => k H locs ls' hH hS (rn_L.st1 (v := .int x) h'))
theorem rn_lload_n (C : rn_Ok p l e s m args meth c z sa D dA cc own nm nL ret hh) {j : Fin 4} {x : Int64} (d : decode cc pc = .ok (.lload_n j, 1)) (hv : lv[(j : Nat)]? = some (some (.long x))) (k : Run p l e R s m args below meth c z sa D dA mc ms K nL (pc + 1) lv (.long x :: st) h n1 n2) : Run p l e R s m args below meth c z sa D dA mc ms K nL pc lv st h n1 n2 :=
  fun H locs ls hH hS hL => lv_lload_n C.ex C.by d rfl (hL.2.2 _ _ hv) (k H locs ls hH hS hL)
theorem rn_lload (C : rn_Ok p l e s m args meth c z sa D dA cc own nm nL ret hh) {j : Nat} {x : Int64} (d : decode cc pc = .ok (.lload j, 2)) (hv : lv[j]? = some (some (.long x))) (k : Run p l e R s m args below meth c z sa D dA mc ms K nL (pc + 2) lv (.long x :: st) h n1 n2) : Run p l e R s m args below meth c z sa D dA mc ms K nL pc lv st h n1 n2 :=
  fun H locs ls hH hS hL => lv_lload C.ex C.by d (hL.2.2 _ _ hv) (k H locs ls hH hS hL)
theorem rn_lstore_n (C : rn_Ok p l e s m args meth c z sa D dA cc own nm nL ret hh) {j : Fin 4} {x : Int64} (d : decode cc pc = .ok (.lstore_n j, 1)) (hn : (j : Nat) + 1 < nL) (k : Run p l e R s m args below meth c z sa D dA mc ms K nL (pc + 1) (lv_st2 (j : Nat) (.long x) lv) st h n1 n2) : Run p l e R s m args below meth c z sa D dA mc ms K nL pc lv (.long x :: st) h n1 n2 :=
  fun H locs ls hH hS hL => lv_lstore_n C.ex C.by d rfl hL.has hn rfl (fun ls' h' => k H locs ls' hH hS (rn_L.st2 (v := .long x) h'))
theorem rn_lstore (C : rn_Ok p l e s m args meth c z sa D dA cc own nm nL ret hh) {j : Nat} {x : Int64} (d : decode cc pc = .ok (.lstore j, 2)) (hn : j + 1 < nL) (k : Run p l e R s m args below meth c z sa D dA mc ms K nL (pc + 2) (lv_st2 j (.long x) lv) st h n1 n2) : Run p l e R s m args below meth c z sa D dA mc ms K nL pc lv (.long x :: st) h n1 n2 :=
  fun H locs ls hH hS hL => lv_lstore C.ex C.by d hL.has hn rfl (fun ls' h' => k H locs ls' hH hS (rn_L.st2 (v := .long x) h'))
theorem rn_aload_n (C : rn_Ok p l e s m args meth c z sa D dA cc own nm nL ret hh) {j : Fin 4} {x : Nat} (d : decode cc pc = .ok (.aload_n j, 1)) (hv : lv[(j : Nat)]? = some (some (.ref x))) (k : Run p l e R s m args below meth c z sa D dA mc ms K nL (pc + 1) lv (.ref x :: st) h n1 n2) : Run p l e R s m args below meth c z sa D dA mc ms K nL pc lv st h n1 n2 :=
  fun H locs ls hH hS hL => lv_aload_n C.ex C.by d rfl (hL.2.2 _ _ hv) (k H locs ls hH hS hL)
theorem rn_aload (C : rn_Ok p l e s m args meth c z sa D dA cc own nm nL ret hh) {j : Nat} {x : Nat} (d : decode cc pc = .ok (.aload j, 2)) (hv : lv[j]? = some (some (.ref x))) (k : Run p l e R s m args below meth c z sa D dA mc ms K nL (pc + 2) lv (.ref x :: st) h n1 n2) : Run p l e R s m args below meth c z sa D dA mc ms K nL pc lv st h n1 n2 :=
  fun H locs ls hH hS hL => lv_aload C.ex C.by d (hL.2.2 _ _ hv) (k H locs ls hH hS hL)
theorem rn_astore_n (C : rn_Ok p l e s m args meth c z sa D dA cc own nm nL ret hh) {j : Fin 4} {x : Nat} (d : decode cc pc = .ok (.astore_n j, 1)) (hn : (j : Nat) < nL) (k : Run p l e R s m args below meth c z sa D dA mc ms K nL (pc + 1) (lv_st (j : Nat) (.ref x) lv) st h n1 n2) : Run p l e R s m args below meth c z sa D dA mc ms K nL pc lv (.ref x :: st) h n1 n2 :=
  fun H locs ls hH hS hL => lv_astore_n C.ex C.by d rfl hL.has hn rfl (fun ls' h' => k H locs ls' hH hS (rn_L.st1 (v := .ref x) h'))
theorem rn_astore (C : rn_Ok p l e s m args meth c z sa D dA cc own nm nL ret hh) {j : Nat} {x : Nat} (d : decode cc pc = .ok (.astore j, 2)) (hn : j < nL) (k : Run p l e R s m args below meth c z sa D dA mc ms K nL (pc + 2) (lv_st j (.ref x) lv) st h n1 n2) : Run p l e R s m args below meth c z sa D dA mc ms K nL pc lv (.ref x :: st) h n1 n2 :=
  fun H locs ls hH hS hL => lv_astore C.ex C.by d hL.has hn rfl (fun ls' h' => k H locs ls' hH hS (rn_L.st1 (v := .ref x) h'))
theorem rn_iinc (C : rn_Ok p l e s m args meth c z sa D dA cc own nm nL ret hh) {j : Nat} {n : Int} {x : Int32} (v : Int32) (d : decode cc pc = .ok (.iinc j n, 3)) (hx : lv[j]? = some (some (.int x))) (hv : x + Int32.ofInt n = v) (hn : j < nL) (k : Run p l e R s m args below meth c z sa D dA mc ms K nL (pc + 3) (lv_st j (.int v) lv) st h n1 n2) : Run p l e R s m args below meth c z sa D dA mc ms K nL pc lv st h n1 n2 := by
  intro H locs ls hH hS hL
  obtain ⟨i, hi⟩ := List.getElem?_of_mem (lv_as_mem (z := z) (sa := sa) (q := (j, .int x)) |>.mpr ⟨.int x, hx, rfl⟩)
  exact lv_iinc C.ex C.by d hL.has hi hv hn rfl (fun ls' h' => k H locs ls' hH hS (rn_L.st1 (v := .int v) h'))
theorem rn_dup (C : rn_Ok p l e s m args meth c z sa D dA cc own nm nL ret hh) {v : Value} (d : decode cc pc = .ok (.dup, 1)) (hc : v.category = 1) (k : Run p l e R s m args below meth c z sa D dA mc ms K nL (pc + 1) lv (v :: v :: st) h n1 n2) : Run p l e R s m args below meth c z sa D dA mc ms K nL pc lv (v :: st) h n1 n2 :=
  fun H locs ls hH hS hL => lv_dup C.ex C.by d ((ah_cat z sa v).trans hc) (k H locs ls hH hS hL)
theorem rn_pop (C : rn_Ok p l e s m args meth c z sa D dA cc own nm nL ret hh) {v : Value} (d : decode cc pc = .ok (.pop, 1)) (hc : v.category = 1) (k : Run p l e R s m args below meth c z sa D dA mc ms K nL (pc + 1) lv st h n1 n2) : Run p l e R s m args below meth c z sa D dA mc ms K nL pc lv (v :: st) h n1 n2 :=
  fun H locs ls hH hS hL => lv_pop C.ex C.by d ((ah_cat z sa v).trans hc) (k H locs ls hH hS hL)
theorem rn_dup2_11 (C : rn_Ok p l e s m args meth c z sa D dA cc own nm nL ret hh) {v w : Value} (d : decode cc pc = .ok (.dup2, 1)) (hc : v.category = 1) (hc' : w.category = 1) (k : Run p l e R s m args below meth c z sa D dA mc ms K nL (pc + 1) lv (v :: w :: v :: w :: st) h n1 n2) : Run p l e R s m args below meth c z sa D dA mc ms K nL pc lv (v :: w :: st) h n1 n2 :=
  fun H locs ls hH hS hL => lv_dup2_11 C.ex C.by d ((ah_cat z sa v).trans hc) ((ah_cat z sa w).trans hc') (k H locs ls hH hS hL)
theorem rn_dup2_2 (C : rn_Ok p l e s m args meth c z sa D dA cc own nm nL ret hh) {v : Value} (d : decode cc pc = .ok (.dup2, 1)) (hc : v.category = 2) (k : Run p l e R s m args below meth c z sa D dA mc ms K nL (pc + 1) lv (v :: v :: st) h n1 n2) : Run p l e R s m args below meth c z sa D dA mc ms K nL pc lv (v :: st) h n1 n2 :=
  fun H locs ls hH hS hL => lv_dup2_2 C.ex C.by d ((ah_cat z sa v).trans hc) (k H locs ls hH hS hL)
theorem rn_dup_x1 (C : rn_Ok p l e s m args meth c z sa D dA cc own nm nL ret hh) {v w : Value} (d : decode cc pc = .ok (.dup_x1, 1)) (hc : v.category = 1) (hc' : w.category = 1) (k : Run p l e R s m args below meth c z sa D dA mc ms K nL (pc + 1) lv (v :: w :: v :: st) h n1 n2) : Run p l e R s m args below meth c z sa D dA mc ms K nL pc lv (v :: w :: st) h n1 n2 :=
  fun H locs ls hH hS hL => lv_dup_x1 C.ex C.by d ((ah_cat z sa v).trans hc) ((ah_cat z sa w).trans hc') (k H locs ls hH hS hL)
theorem rn_dup_x2 (C : rn_Ok p l e s m args meth c z sa D dA cc own nm nL ret hh) {u v w : Value} (d : decode cc pc = .ok (.dup_x2, 1)) (hc : u.category = 1) (hc' : v.category = 1) (hc2 : w.category = 1) (k : Run p l e R s m args below meth c z sa D dA mc ms K nL (pc + 1) lv (u :: v :: w :: u :: st) h n1 n2) : Run p l e R s m args below meth c z sa D dA mc ms K nL pc lv (u :: v :: w :: st) h n1 n2 :=
  fun H locs ls hH hS hL => lv_dup_x2 C.ex C.by d ((ah_cat z sa u).trans hc) ((ah_cat z sa v).trans hc') ((ah_cat z sa w).trans hc2) (k H locs ls hH hS hL)
theorem rn_if_eq (C : rn_Ok p l e s m args meth c z sa D dA cc own nm nL ret hh) {x : Int32} {off : Int} (tgt : Nat) (d : decode cc pc = .ok (.ifCond .eq off, 3)) (ht : (pc : Int) + off = (tgt : Int)) (kt : x = 0 → Run p l e R s m args below meth c z sa D dA mc ms K nL tgt lv st h n1 n2) (kf : ¬ x = 0 → Run p l e R s m args below meth c z sa D dA mc ms K nL (pc + 3) lv st h n1 n2) : Run p l e R s m args below meth c z sa D dA mc ms K nL pc lv (.int x :: st) h n1 n2 :=
  fun H locs ls hH hS hL => lv_if_eq C.ex C.by d ht (fun q => kt q H locs ls hH hS hL) (fun q => kf q H locs ls hH hS hL)
theorem rn_icmp_eq (C : rn_Ok p l e s m args meth c z sa D dA cc own nm nL ret hh) {x y : Int32} {off : Int} (tgt : Nat) (d : decode cc pc = .ok (.if_icmp .eq off, 3)) (ht : (pc : Int) + off = (tgt : Int)) (kt : x = y → Run p l e R s m args below meth c z sa D dA mc ms K nL tgt lv st h n1 n2) (kf : ¬ x = y → Run p l e R s m args below meth c z sa D dA mc ms K nL (pc + 3) lv st h n1 n2) : Run p l e R s m args below meth c z sa D dA mc ms K nL pc lv (.int y :: .int x :: st) h n1 n2 :=
  fun H locs ls hH hS hL => lv_icmp_eq C.ex C.by d ht (fun q => kt q H locs ls hH hS hL) (fun q => kf q H locs ls hH hS hL)
theorem rn_if_ne (C : rn_Ok p l e s m args meth c z sa D dA cc own nm nL ret hh) {x : Int32} {off : Int} (tgt : Nat) (d : decode cc pc = .ok (.ifCond .ne off, 3)) (ht : (pc : Int) + off = (tgt : Int)) (kt : ¬ x = 0 → Run p l e R s m args below meth c z sa D dA mc ms K nL tgt lv st h n1 n2) (kf : x = 0 → Run p l e R s m args below meth c z sa D dA mc ms K nL (pc + 3) lv st h n1 n2) : Run p l e R s m args below meth c z sa D dA mc ms K nL pc lv (.int x :: st) h n1 n2 :=
  fun H locs ls hH hS hL => lv_if_ne C.ex C.by d ht (fun q => kt q H locs ls hH hS hL) (fun q => kf q H locs ls hH hS hL)
theorem rn_icmp_ne (C : rn_Ok p l e s m args meth c z sa D dA cc own nm nL ret hh) {x y : Int32} {off : Int} (tgt : Nat) (d : decode cc pc = .ok (.if_icmp .ne off, 3)) (ht : (pc : Int) + off = (tgt : Int)) (kt : ¬ x = y → Run p l e R s m args below meth c z sa D dA mc ms K nL tgt lv st h n1 n2) (kf : x = y → Run p l e R s m args below meth c z sa D dA mc ms K nL (pc + 3) lv st h n1 n2) : Run p l e R s m args below meth c z sa D dA mc ms K nL pc lv (.int y :: .int x :: st) h n1 n2 :=
  fun H locs ls hH hS hL => lv_icmp_ne C.ex C.by d ht (fun q => kt q H locs ls hH hS hL) (fun q => kf q H locs ls hH hS hL)
theorem rn_if_lt (C : rn_Ok p l e s m args meth c z sa D dA cc own nm nL ret hh) {x : Int32} {off : Int} (tgt : Nat) (d : decode cc pc = .ok (.ifCond .lt off, 3)) (ht : (pc : Int) + off = (tgt : Int)) (kt : x < 0 → Run p l e R s m args below meth c z sa D dA mc ms K nL tgt lv st h n1 n2) (kf : ¬ x < 0 → Run p l e R s m args below meth c z sa D dA mc ms K nL (pc + 3) lv st h n1 n2) : Run p l e R s m args below meth c z sa D dA mc ms K nL pc lv (.int x :: st) h n1 n2 :=
  fun H locs ls hH hS hL => lv_if_lt C.ex C.by d ht (fun q => kt q H locs ls hH hS hL) (fun q => kf q H locs ls hH hS hL)
theorem rn_icmp_lt (C : rn_Ok p l e s m args meth c z sa D dA cc own nm nL ret hh) {x y : Int32} {off : Int} (tgt : Nat) (d : decode cc pc = .ok (.if_icmp .lt off, 3)) (ht : (pc : Int) + off = (tgt : Int)) (kt : x < y → Run p l e R s m args below meth c z sa D dA mc ms K nL tgt lv st h n1 n2) (kf : ¬ x < y → Run p l e R s m args below meth c z sa D dA mc ms K nL (pc + 3) lv st h n1 n2) : Run p l e R s m args below meth c z sa D dA mc ms K nL pc lv (.int y :: .int x :: st) h n1 n2 :=
  fun H locs ls hH hS hL => lv_icmp_lt C.ex C.by d ht (fun q => kt q H locs ls hH hS hL) (fun q => kf q H locs ls hH hS hL)
theorem rn_if_ge (C : rn_Ok p l e s m args meth c z sa D dA cc own nm nL ret hh) {x : Int32} {off : Int} (tgt : Nat) (d : decode cc pc = .ok (.ifCond .ge off, 3)) (ht : (pc : Int) + off = (tgt : Int)) (kt : 0 ≤ x → Run p l e R s m args below meth c z sa D dA mc ms K nL tgt lv st h n1 n2) (kf : ¬ 0 ≤ x → Run p l e R s m args below meth c z sa D dA mc ms K nL (pc + 3) lv st h n1 n2) : Run p l e R s m args below meth c z sa D dA mc ms K nL pc lv (.int x :: st) h n1 n2 :=
  fun H locs ls hH hS hL => lv_if_ge C.ex C.by d ht (fun q => kt q H locs ls hH hS hL) (fun q => kf q H locs ls hH hS hL)
theorem rn_icmp_ge (C : rn_Ok p l e s m args meth c z sa D dA cc own nm nL ret hh) {x y : Int32} {off : Int} (tgt : Nat) (d : decode cc pc = .ok (.if_icmp .ge off, 3)) (ht : (pc : Int) + off = (tgt : Int)) (kt : y ≤ x → Run p l e R s m args below meth c z sa D dA mc ms K nL tgt lv st h n1 n2) (kf : ¬ y ≤ x → Run p l e R s m args below meth c z sa D dA mc ms K nL (pc + 3) lv st h n1 n2) : Run p l e R s m args below meth c z sa D dA mc ms K nL pc lv (.int y :: .int x :: st) h n1 n2 :=
  fun H locs ls hH hS hL => lv_icmp_ge C.ex C.by d ht (fun q => kt q H locs ls hH hS hL) (fun q => kf q H locs ls hH hS hL)
theorem rn_if_gt (C : rn_Ok p l e s m args meth c z sa D dA cc own nm nL ret hh) {x : Int32} {off : Int} (tgt : Nat) (d : decode cc pc = .ok (.ifCond .gt off, 3)) (ht : (pc : Int) + off = (tgt : Int)) (kt : 0 < x → Run p l e R s m args below meth c z sa D dA mc ms K nL tgt lv st h n1 n2) (kf : ¬ 0 < x → Run p l e R s m args below meth c z sa D dA mc ms K nL (pc + 3) lv st h n1 n2) : Run p l e R s m args below meth c z sa D dA mc ms K nL pc lv (.int x :: st) h n1 n2 :=
  fun H locs ls hH hS hL => lv_if_gt C.ex C.by d ht (fun q => kt q H locs ls hH hS hL) (fun q => kf q H locs ls hH hS hL)
theorem rn_icmp_gt (C : rn_Ok p l e s m args meth c z sa D dA cc own nm nL ret hh) {x y : Int32} {off : Int} (tgt : Nat) (d : decode cc pc = .ok (.if_icmp .gt off, 3)) (ht : (pc : Int) + off = (tgt : Int)) (kt : y < x → Run p l e R s m args below meth c z sa D dA mc ms K nL tgt lv st h n1 n2) (kf : ¬ y < x → Run p l e R s m args below meth c z sa D dA mc ms K nL (pc + 3) lv st h n1 n2) : Run p l e R s m args below meth c z sa D dA mc ms K nL pc lv (.int y :: .int x :: st) h n1 n2 :=
  fun H locs ls hH hS hL => lv_icmp_gt C.ex C.by d ht (fun q => kt q H locs ls hH hS hL) (fun q => kf q H locs ls hH hS hL)
theorem rn_if_le (C : rn_Ok p l e s m args meth c z sa D dA cc own nm nL ret hh) {x : Int32} {off : Int} (tgt : Nat) (d : decode cc pc = .ok (.ifCond .le off, 3)) (ht : (pc : Int) + off = (tgt : Int)) (kt : x ≤ 0 → Run p l e R s m args below meth c z sa D dA mc ms K nL tgt lv st h n1 n2) (kf : ¬ x ≤ 0 → Run p l e R s m args below meth c z sa D dA mc ms K nL (pc + 3) lv st h n1 n2) : Run p l e R s m args below meth c z sa D dA mc ms K nL pc lv (.int x :: st) h n1 n2 :=
  fun H locs ls hH hS hL => lv_if_le C.ex C.by d ht (fun q => kt q H locs ls hH hS hL) (fun q => kf q H locs ls hH hS hL)
theorem rn_icmp_le (C : rn_Ok p l e s m args meth c z sa D dA cc own nm nL ret hh) {x y : Int32} {off : Int} (tgt : Nat) (d : decode cc pc = .ok (.if_icmp .le off, 3)) (ht : (pc : Int) + off = (tgt : Int)) (kt : x ≤ y → Run p l e R s m args below meth c z sa D dA mc ms K nL tgt lv st h n1 n2) (kf : ¬ x ≤ y → Run p l e R s m args below meth c z sa D dA mc ms K nL (pc + 3) lv st h n1 n2) : Run p l e R s m args below meth c z sa D dA mc ms K nL pc lv (.int y :: .int x :: st) h n1 n2 :=
  fun H locs ls hH hS hL => lv_icmp_le C.ex C.by d ht (fun q => kt q H locs ls hH hS hL) (fun q => kf q H locs ls hH hS hL)
theorem rn_goto (C : rn_Ok p l e s m args meth c z sa D dA cc own nm nL ret hh) {off : Int} (tgt : Nat) (d : decode cc pc = .ok (.goto off, 3)) (ht : (pc : Int) + off = (tgt : Int)) (k : Run p l e R s m args below meth c z sa D dA mc ms K nL tgt lv st h n1 n2) : Run p l e R s m args below meth c z sa D dA mc ms K nL pc lv st h n1 n2 :=
  fun H locs ls hH hS hL => lv_goto C.ex C.by d ht (k H locs ls hH hS hL)
theorem rn_lcmp (C : rn_Ok p l e s m args meth c z sa D dA cc own nm nL ret hh) {x y : Int64} (d : decode cc pc = .ok (.lcmp, 1)) (k : Run p l e R s m args below meth c z sa D dA mc ms K nL (pc + 1) lv (.int (lg_cmp x y) :: st) h n1 n2) : Run p l e R s m args below meth c z sa D dA mc ms K nL pc lv (.long y :: .long x :: st) h n1 n2 :=
  fun H locs ls hH hS hL => W.lcmp C.ex C.by d (k H locs ls hH hS hL)
theorem rn_tableIn (C : rn_Ok p l e s m args meth c z sa D dA cc own nm nL ret hh) {dflt lo hi : Int} {offs : Array Int} {len : Nat} {x : Int32} {off : Int} (tgt : Nat) (d : decode cc pc = .ok (.tableswitch dflt lo hi offs, len)) (h1 : ¬ x.toInt < lo) (h2 : ¬ hi < x.toInt) (ho : offs[(x.toInt - lo).toNat]? = some off) (ht : (pc : Int) + off = (tgt : Int)) (k : Run p l e R s m args below meth c z sa D dA mc ms K nL tgt lv st h n1 n2) : Run p l e R s m args below meth c z sa D dA mc ms K nL pc lv (.int x :: st) h n1 n2 :=
  fun H locs ls hH hS hL => lv_tableIn C.ex C.by d h1 h2 ho ht (k H locs ls hH hS hL)
theorem rn_tableOut (C : rn_Ok p l e s m args meth c z sa D dA cc own nm nL ret hh) {dflt lo hi : Int} {offs : Array Int} {len : Nat} {x : Int32} (tgt : Nat) (d : decode cc pc = .ok (.tableswitch dflt lo hi offs, len)) (h1 : x.toInt < lo ∨ hi < x.toInt) (ht : (pc : Int) + dflt = (tgt : Int)) (k : Run p l e R s m args below meth c z sa D dA mc ms K nL tgt lv st h n1 n2) : Run p l e R s m args below meth c z sa D dA mc ms K nL pc lv (.int x :: st) h n1 n2 :=
  fun H locs ls hH hS hL => lv_tableOut C.ex C.by d h1 ht (k H locs ls hH hS hL)
theorem rn_lookup (C : rn_Ok p l e s m args meth c z sa D dA cc own nm nL ret hh) {dflt : Int} {ps : Array (Int × Int)} {len : Nat} {x : Int32} {off : Int} (tgt : Nat) (d : decode cc pc = .ok (.lookupswitch dflt ps, len)) (hp : (ps.toList.zip (ps.toList.drop 1)).all (fun (a, next) => a.1 < next.1) = true) (ho : Op.lookupswitch.offset ps.toList dflt x.toInt = off) (ht : (pc : Int) + off = (tgt : Int)) (k : Run p l e R s m args below meth c z sa D dA mc ms K nL tgt lv st h n1 n2) : Run p l e R s m args below meth c z sa D dA mc ms K nL pc lv (.int x :: st) h n1 n2 :=
  fun H locs ls hH hS hL => lv_lookup C.ex C.by d hp ho ht (k H locs ls hH hS hL)
end RUN
end
section
/-! Rows that read and write cells. -/
/-- a field by its pool number: of the class of number ci the k-th -/
def rn_fl (own : String) (i ci k : Nat) : Prop := ∃ (C : String) (T : u_T) (N : Nat), ccl[ci]? = some (C, T, N) ∧ k < N ∧ (T k).1 = C ∧ (∀ w ∈ u_ws C T N, w ∈ allW) ∧ (Cond.fieldLink own i C (T k).2.1 (T k).2.2.1 ∈ allW ∨ ∃ host, Cond.fieldLinkNest own i C (T k).2.1 (T k).2.2.1 host ∈ nestW)
/-- the same in the class's own code -/
def rn_fo (own : String) (i ci k : Nat) : Prop := ∃ (T : u_T) (N : Nat), ccl[ci]? = some (own, T, N) ∧ k < N ∧ (T k).1 = own ∧ (∀ w ∈ u_ws own T N, w ∈ allW) ∧ Cond.fieldLink own i own (T k).2.1 (T k).2.2.1 ∈ allW
/-- what the tables say of a class's fields: their types, and that they are apart -/
def rn_ft (ci : Nat) (ty : Nat → FieldType) : Prop := ∃ (C : String) (T : u_T) (N : Nat), ccl[ci]? = some (C, T, N) ∧ (∀ j, j < N → parseFieldDescriptor (T j).2.2.1 = some (ty j)) ∧ ∀ a, a < N → ∀ b, b < N → a ≠ b → (T a).2.1 ≠ (T b).2.1
def rn_fin (ci k : Nat) (b : Bool) : Prop := ∃ (C : String) (T : u_T) (N : Nat), ccl[ci]? = some (C, T, N) ∧ (T k).2.2.2 = b
theorem rn_H.upd {z : Nat} {sa : Nat → Nat} {D : va_G} {dA : Nat → ClassId} {h : ah_H} {H H1 : Heap} {q : Nat} {e0 e : ah_E} (hH : rn_H z sa D dA h H) (hq : h[q]? = some e0) (hz : H1.size = H.size) (oq : ∀ a, a ≠ z + q → H1[a]? = H[a]?) (he : va_at D ccl (z + q, ah_e z sa dA e) H1) : rn_H z sa D dA (h.set q e) H1 :=
  ⟨by rw [hz, hH.1, List.length_set], by rw [← ah_set]; exact hH.2.set ah_D (ah_get hq) he oq⟩
theorem rn_H.push {z : Nat} {sa : Nat → Nat} {D : va_G} {dA : Nat → ClassId} {h : ah_H} {H H1 : Heap} {e : ah_E} (hH : rn_H z sa D dA h H) (hz : H1.size = H.size + 1) (oq : ∀ a, a < H.size → H1[a]? = H[a]?) (he : va_at D ccl (z + h.length, ah_e z sa dA e) H1) : rn_H z sa D dA (h ++ [e]) H1 := by
  refine ⟨by rw [hz, hH.1, List.length_append]; rfl, ?_⟩
  rw [← ah_push]
  refine (hH.2.kept (fun k x hx => oq x.1 ((hH.2 k x hx).lt))).app (fun k x hx => ?_)
  have hz : k < 1 := (List.getElem?_eq_some_iff.mp hx).1
  rw [show k = 0 by omega] at hx
  cases hx
  exact he
section HEAP
variable {p : Program} {l : Launch} {e : Env} {R : Room} {s : State} {m : MethodId} {args : Array Value} {below : List Frame} {meth : Method} {c : Code} {z : Nat} {sa : Nat → Nat} {D : va_G} {dA : Nat → ClassId} {mc ms : Nat} {K : ah_R → ah_H → Prop}
variable {cc : ByteArray} {own nm : String} {nL : Nat} {ret : Option FieldType} {hh : List (Nat × Nat × Nat × Nat)} {pc : Nat} {lv : List (Option Value)} {st : List Value} {h : ah_H} {n1 n2 : Nat}
theorem rn_get (C : rn_Ok p l e s m args meth c z sa D dA cc own nm nL ret hh) {i ci k q : Nat} {fs : List Value} {v : Value} (f : rn_fl own i ci k) (d : decode cc pc = .ok (.getfield i, 3)) (hq : h[q]? = some (.inr (ci, fs))) (hv : fs[k]? = some v)
    (kk : Run p l e R s m args below meth c z sa D dA mc ms K nL (pc + 3) lv (v :: st) h n1 n2) : Run p l e R s m args below meth c z sa D dA mc ms K nL pc lv (.ref q :: st) h n1 n2 := by
  intro H locs ls hH hS hL
  obtain ⟨C', T, N, hc, hk, hdc, hin, hl⟩ := f
  have he : (ah_w z sa dA h)[q]? = some (z + q, .inr (ci, fs.map (ah_v z sa))) := ah_get hq
  have hv' : (fs.map (ah_v z sa))[k]? = some (ah_v z sa v) := by rw [List.getElem?_map, hv]; rfl
  rcases hl with hl | ⟨host, hl⟩
  · exact va_get C.ex C.by C.ts hin C.ow C.kk hH.2 q he hc k hk (C.ts _ hl) (fun x hx => by rw [hdc] at hx; exact hx) hv' d (kk H locs ls hH hS hL)
  · exact va_getN C.ex C.by C.ts hin C.ow C.kk hH.2 q he hc k hk (va_Nw.use rfl (C.ff.1 _ hl)) (fun x hx => by rw [hdc] at hx; exact hx) hv' d (kk H locs ls hH hS hL)
theorem rn_put (C : rn_Ok p l e s m args meth c z sa D dA cc own nm nL ret hh) {i ci k q : Nat} {fs : List Value} {v : Value} {ty : Nat → FieldType} (f : rn_fl own i ci k) (ft : rn_ft ci ty) (fn : rn_fin ci k false) (d : decode cc pc = .ok (.putfield i, 3)) (hq : h[q]? = some (.inr (ci, fs))) (hlen : k < fs.length) (hn : ∀ z sa, narrow (ty k) (ah_v z sa v) = ah_v z sa v ∧ fits (ty k) (ah_v z sa v) = true)
    (kk : Run p l e R s m args below meth c z sa D dA mc ms K nL (pc + 3) lv st (h.set q (.inr (ci, fs.set k v))) n1 n2) : Run p l e R s m args below meth c z sa D dA mc ms K nL pc lv (v :: .ref q :: st) h n1 n2 := by
  intro H locs ls hH hS hL
  obtain ⟨C', T, N, hc, hk, hdc, hin, hlk⟩ := f
  obtain ⟨C2, T2, N2, hc2, hty, hnm⟩ := ft
  obtain ⟨C3, T3, N3, hc3, hfin⟩ := fn
  cases hc.symm.trans hc2
  cases hc.symm.trans hc3
  have hap := va_apart (own := own) C.ts hin ty hty hnm C.kk hc
  have he : (ah_w z sa dA h)[q]? = some (z + q, .inr (ci, fs.map (ah_v z sa))) := ah_get hq
  obtain ⟨r, h1, cell, q1, q2, q3, q4⟩ := hH.2 q _ he
  have hr : r = (C', T, N) := Option.some.inj (h1.symm.trans hc)
  subst hr
  obtain ⟨hSl, hfc, kC, hkC, hkind⟩ := C.kk.1 ci _ hc
  obtain ⟨cf, kf, fi, fd, hi, hsl⟩ := hSl k hk
  have hlay := C.ts _ (hin _ (u_in_lay hk))
  unfold u_lay at hlay
  rw [if_neg (by rw [hfin]; decide)] at hlay
  have hst := (u_facts hfc hkC (u_lays C.ts hin hk) hi).1
  have h6 := u_store hfc hkC hkind hlay hi (hty k hk) (hn z sa).1 (hn z sa).2
  have hi' : s.fieldFound? C' (T k).2.1 (T k).2.2.1 = some (cf, kf, fi, fd) := by rw [hdc] at hi; exact hi
  have fin : ∀ (H' : Heap), H'[z + q]? = some (cell.setSlot fd.slot (ah_v z sa v)) → H'.size = H.size → (∀ a, a ≠ z + q → H'[a]? = H[a]?) → W p l e R s m args below meth c H' (locs ++ [⟨z + q, fd.slot⟩]) n1 n2 (rn_MQ below z sa D dA K s mc ms) (F0 m (pc + 3) ls (st.map (ah_v z sa))) := by
    intro H' e1 e2 e3
    rw [hsl] at e1 ⊢
    refine kk H' _ ls (hH.upd hq e2 e3 ⟨_, hc, t_OB.to (V := updV (vp_V (fs.map (ah_v z sa))) k (ah_v z sa v)) ⟨_, e1, q2, q3, t_set q4 hap hk _⟩ (fun j _ => ?_)⟩) (hS.put e2 e3 (Nat.le_add_right z q)) hL
    rw [vp_updV_set (by simpa using hlen), List.map_set]
  rcases hlk with hlk | ⟨host, hlk⟩
  · exact W.putK C.ex C.by (f := fd) ⟨C.ow, C.ts _ hlk, ⟨_, _, _, hi'⟩, hst⟩ (by rw [q2]; exact h6) q1 q3 (by rw [hsl]; exact k2_hasslot (q4 k hk)) rfl rfl d fin
  · exact va_WputK C.ex C.by (f := fd) C.ow (va_Nw.use rfl (C.ff.1 _ hlk)) hi' hst (by rw [q2]; exact h6) q1 q3 (by rw [hsl]; exact k2_hasslot (q4 k hk)) rfl rfl d fin
/-- a final field, in the constructor of its own class -/
theorem rn_putF (C : rn_Ok p l e s m args meth c z sa D dA cc own "<init>" nL ret hh) {i ci k q : Nat} {fs : List Value} {v : Value} {ty : Nat → FieldType} (f : rn_fo own i ci k) (ft : rn_ft ci ty) (fn : rn_fin ci k true) (d : decode cc pc = .ok (.putfield i, 3)) (hq : h[q]? = some (.inr (ci, fs))) (hlen : k < fs.length) (hn : ∀ z sa, narrow (ty k) (ah_v z sa v) = ah_v z sa v ∧ fits (ty k) (ah_v z sa v) = true)
    (kk : Run p l e R s m args below meth c z sa D dA mc ms K nL (pc + 3) lv st (h.set q (.inr (ci, fs.set k v))) n1 n2) : Run p l e R s m args below meth c z sa D dA mc ms K nL pc lv (v :: .ref q :: st) h n1 n2 := by
  intro H locs ls hH hS hL
  obtain ⟨T, N, hc, hk, hdc, hin, hlk⟩ := f
  obtain ⟨C2, T2, N2, hc2, hty, hnm⟩ := ft
  obtain ⟨C3, T3, N3, hc3, hfin⟩ := fn
  cases hc.symm.trans hc2
  cases hc.symm.trans hc3
  have hap := va_apart (own := own) C.ts hin ty hty hnm C.kk hc
  have he : (ah_w z sa dA h)[q]? = some (z + q, .inr (ci, fs.map (ah_v z sa))) := ah_get hq
  obtain ⟨r, h1, cell, q1, q2, q3, q4⟩ := hH.2 q _ he
  have hr : r = (own, T, N) := Option.some.inj (h1.symm.trans hc)
  subst hr
  obtain ⟨hSl, hfc, kC, hkC, hkind⟩ := C.kk.1 ci _ hc
  obtain ⟨cf, kf, fi, fd, hi, hsl⟩ := hSl k hk
  have hlay := C.ts _ (hin _ (u_in_lay hk))
  unfold u_lay at hlay
  rw [if_pos hfin] at hlay
  have hst := (u_facts hfc hkC (u_lays C.ts hin hk) hi).1
  have hcf : m.cls = cf := by
    obtain ⟨_, _, c', _, _, _, -, -, hf', -, -, -, hown2, -⟩ := Cond.laysFinal_spec hlay
    have e1 : c' = cf := by have := hi.symm.trans hf'; simp at this; exact this.1.symm
    rw [hdc] at hown2
    rw [← e1]; exact Option.some.inj (C.ow.symm.trans hown2)
  have h6 := u_fits hfc hkC hkind (Or.inr hlay) hi (hty k hk) (hn z sa).1 (hn z sa).2
  have hi' : s.fieldFound? own (T k).2.1 (T k).2.2.1 = some (cf, kf, fi, fd) := by rw [hdc] at hi; exact hi
  refine W.putFinK C.ex C.by C.ow (C.ts _ hlk) hi' hst hcf C.na (by rw [q2]; exact h6) q1 q3 (by rw [hsl]; exact k2_hasslot (q4 k hk)) rfl rfl d fun H' e1 e2 e3 => ?_
  rw [hsl] at e1 ⊢
  refine kk H' _ ls (hH.upd hq e2 e3 ⟨_, hc, t_OB.to (V := updV (vp_V (fs.map (ah_v z sa))) k (ah_v z sa v)) ⟨_, e1, q2, q3, t_set q4 hap hk _⟩ (fun j _ => ?_)⟩) (hS.put e2 e3 (Nat.le_add_right z q)) hL
  rw [vp_updV_set (by simpa using hlen), List.map_set]
theorem rn_iaload (C : rn_Ok p l e s m args meth c z sa D dA cc own nm nL ret hh) {q n : Nat} {f : Nat → Int32} {i : Int32} (d : decode cc pc = .ok (.iaload, 1)) (hq : h[q]? = some (.inl (0, n, .inl f))) (hin : vp_in i n) (k : Run p l e R s m args below meth c z sa D dA mc ms K nL (pc + 1) lv (.int (f i.toNatClampNeg) :: st) h n1 n2) : Run p l e R s m args below meth c z sa D dA mc ms K nL pc lv (.int i :: .ref q :: st) h n1 n2 :=
  fun H locs ls hH hS hL => va_iald C.ex C.by C.kk hH.2 q 0 (ah_get hq) rfl hin d (k H locs ls hH hS hL)
theorem rn_zaload (C : rn_Ok p l e s m args meth c z sa D dA cc own nm nL ret hh) {q n : Nat} {f : Nat → Int32} {i : Int32} (d : decode cc pc = .ok (.baload, 1)) (hq : h[q]? = some (.inl (2, n, .inl f))) (hin : vp_in i n) (k : Run p l e R s m args below meth c z sa D dA mc ms K nL (pc + 1) lv (.int (f i.toNatClampNeg) :: st) h n1 n2) : Run p l e R s m args below meth c z sa D dA mc ms K nL pc lv (.int i :: .ref q :: st) h n1 n2 :=
  fun H locs ls hH hS hL => va_zald C.ex C.by C.kk hH.2 q 2 (ah_get hq) rfl hin d (k H locs ls hH hS hL)
theorem rn_caload (C : rn_Ok p l e s m args meth c z sa D dA cc own nm nL ret hh) {q n : Nat} {f : Nat → Int32} {i : Int32} (d : decode cc pc = .ok (.caload, 1)) (hq : h[q]? = some (.inl (3, n, .inl f))) (hin : vp_in i n) (k : Run p l e R s m args below meth c z sa D dA mc ms K nL (pc + 1) lv (.int (f i.toNatClampNeg) :: st) h n1 n2) : Run p l e R s m args below meth c z sa D dA mc ms K nL pc lv (.int i :: .ref q :: st) h n1 n2 :=
  fun H locs ls hH hS hL => va_cald C.ex C.by C.kk hH.2 q 3 (ah_get hq) rfl hin d (k H locs ls hH hS hL)
theorem rn_laload (C : rn_Ok p l e s m args meth c z sa D dA cc own nm nL ret hh) {q n : Nat} {f : Nat → Int64} {i : Int32} (d : decode cc pc = .ok (.laload, 1)) (hq : h[q]? = some (.inl (1, n, .inr (.inl f)))) (hin : vp_in i n) (k : Run p l e R s m args below meth c z sa D dA mc ms K nL (pc + 1) lv (.long (f i.toNatClampNeg) :: st) h n1 n2) : Run p l e R s m args below meth c z sa D dA mc ms K nL pc lv (.int i :: .ref q :: st) h n1 n2 :=
  fun H locs ls hH hS hL => va_lald C.ex C.by C.kk hH.2 q 1 (ah_get hq) rfl hin d (k H locs ls hH hS hL)
theorem rn_iastore (C : rn_Ok p l e s m args meth c z sa D dA cc own nm nL ret hh) {q n : Nat} {f : Nat → Int32} {i : Int32} {x : Int32} (d : decode cc pc = .ok (.iastore, 1)) (hq : h[q]? = some (.inl (0, n, .inl f))) (hin : vp_in i n) (k : Run p l e R s m args below meth c z sa D dA mc ms K nL (pc + 1) lv st (h.set q (.inl (0, n, .inl (upd f i.toNatClampNeg x)))) n1 n2) : Run p l e R s m args below meth c z sa D dA mc ms K nL pc lv (.int x :: .int i :: .ref q :: st) h n1 n2 := by
  intro H locs ls hH hS hL
  refine W.iast C.ex C.by (hH.2 q _ (ah_get hq)) ((C.kk.2 0 _ rfl).1 n (fun j => .int (f j))) (fun q => by cases q) (by show ¬ (i < 0 ∨ (arrV _ _ _).slots.size ≤ _); rw [arrV_size]; exact hin) rfl rfl d fun H1 e1 z1 oq => ?_
  refine k H1 _ ls (hH.upd hq z1 oq ?_) (hS.put z1 oq (Nat.le_add_right z q)) hL
  show H1[z + q]? = some (vp_cell _ _)
  rw [e1]
  show some ((vp_cell _ _).setSlot _ _) = _
  rw [vp_cell_i, vp_cell_i, arrV_store]
  congr 2
  funext j
  by_cases hj : j = i.toNatClampNeg
  · subst hj
    simp [updV, upd, vp_nar]
    try rfl
  · simp [updV, upd, hj]
theorem rn_zastore (C : rn_Ok p l e s m args meth c z sa D dA cc own nm nL ret hh) {q n : Nat} {f : Nat → Int32} {i : Int32} {x : Int32} (d : decode cc pc = .ok (.bastore, 1)) (hq : h[q]? = some (.inl (2, n, .inl f))) (hin : vp_in i n) (k : Run p l e R s m args below meth c z sa D dA mc ms K nL (pc + 1) lv st (h.set q (.inl (2, n, .inl (upd f i.toNatClampNeg (vp_nar .boolean x))))) n1 n2) : Run p l e R s m args below meth c z sa D dA mc ms K nL pc lv (.int x :: .int i :: .ref q :: st) h n1 n2 := by
  intro H locs ls hH hS hL
  refine W.zast C.ex C.by (hH.2 q _ (ah_get hq)) ((C.kk.2 2 _ rfl).1 n (fun j => .int (f j))) (fun q => by cases q) (by show ¬ (i < 0 ∨ (arrV _ _ _).slots.size ≤ _); rw [arrV_size]; exact hin) rfl rfl d fun H1 e1 z1 oq => ?_
  refine k H1 _ ls (hH.upd hq z1 oq ?_) (hS.put z1 oq (Nat.le_add_right z q)) hL
  show H1[z + q]? = some (vp_cell _ _)
  rw [e1]
  show some ((vp_cell _ _).setSlot _ _) = _
  rw [vp_cell_i, vp_cell_i, arrV_store]
  congr 2
  funext j
  by_cases hj : j = i.toNatClampNeg
  · subst hj
    simp [updV, upd, vp_nar]
    try rfl
  · simp [updV, upd, hj]
theorem rn_castore (C : rn_Ok p l e s m args meth c z sa D dA cc own nm nL ret hh) {q n : Nat} {f : Nat → Int32} {i : Int32} {x : Int32} (d : decode cc pc = .ok (.castore, 1)) (hq : h[q]? = some (.inl (3, n, .inl f))) (hin : vp_in i n) (k : Run p l e R s m args below meth c z sa D dA mc ms K nL (pc + 1) lv st (h.set q (.inl (3, n, .inl (upd f i.toNatClampNeg (vp_nar .char x))))) n1 n2) : Run p l e R s m args below meth c z sa D dA mc ms K nL pc lv (.int x :: .int i :: .ref q :: st) h n1 n2 := by
  intro H locs ls hH hS hL
  refine W.cast C.ex C.by (hH.2 q _ (ah_get hq)) ((C.kk.2 3 _ rfl).1 n (fun j => .int (f j))) (fun q => by cases q) (by show ¬ (i < 0 ∨ (arrV _ _ _).slots.size ≤ _); rw [arrV_size]; exact hin) rfl rfl d fun H1 e1 z1 oq => ?_
  refine k H1 _ ls (hH.upd hq z1 oq ?_) (hS.put z1 oq (Nat.le_add_right z q)) hL
  show H1[z + q]? = some (vp_cell _ _)
  rw [e1]
  show some ((vp_cell _ _).setSlot _ _) = _
  rw [vp_cell_i, vp_cell_i, arrV_store]
  congr 2
  funext j
  by_cases hj : j = i.toNatClampNeg
  · subst hj
    simp [updV, upd, vp_nar]
    try rfl
  · simp [updV, upd, hj]
theorem rn_lastore (C : rn_Ok p l e s m args meth c z sa D dA cc own nm nL ret hh) {q n : Nat} {f : Nat → Int64} {i : Int32} {x : Int64} (d : decode cc pc = .ok (.lastore, 1)) (hq : h[q]? = some (.inl (1, n, .inr (.inl f)))) (hin : vp_in i n) (k : Run p l e R s m args below meth c z sa D dA mc ms K nL (pc + 1) lv st (h.set q (.inl (1, n, .inr (.inl (vp_updL f i.toNatClampNeg x))))) n1 n2) : Run p l e R s m args below meth c z sa D dA mc ms K nL pc lv (.long x :: .int i :: .ref q :: st) h n1 n2 := by
  intro H locs ls hH hS hL
  refine W.last C.ex C.by (hH.2 q _ (ah_get hq)) ((C.kk.2 1 _ rfl).1 n (fun j => .long (f j))) (fun q => by cases q) (by show ¬ (i < 0 ∨ (arrV _ _ _).slots.size ≤ _); rw [arrV_size]; exact hin) rfl rfl d fun H1 e1 z1 oq => ?_
  refine k H1 _ ls (hH.upd hq z1 oq ?_) (hS.put z1 oq (Nat.le_add_right z q)) hL
  show H1[z + q]? = some (vp_cell _ _)
  rw [e1]
  show some ((vp_cell _ _).setSlot _ _) = _
  rw [vp_cell_l, vp_cell_l, arrV_store]
  congr 2
  funext j
  by_cases hj : j = i.toNatClampNeg
  · subst hj
    simp [updV, vp_updL, vp_nar]
    try rfl
  · simp [updV, vp_updL, hj]
theorem rn_alen (C : rn_Ok p l e s m args meth c z sa D dA cc own nm nL ret hh) {q t n : Nat} {a : vp_A} (d : decode cc pc = .ok (.arraylength, 1)) (hq : h[q]? = some (.inl (t, n, a.2))) {ty : FieldType} (ht : (ah_T dA)[t]? = some (dA t, ty)) (k : Run p l e R s m args below meth c z sa D dA mc ms K nL (pc + 1) lv (.int (Int32.ofNat n) :: st) h n1 n2) : Run p l e R s m args below meth c z sa D dA mc ms K nL pc lv (.ref q :: st) h n1 n2 :=
  fun H locs ls hH hS hL => va_alen C.ex C.by C.kk hH.2 q t (ah_get hq) ht rfl d (k H locs ls hH hS hL)
/-- a new object -/
def rn_cl (own : String) (i ci : Nat) (fs : List Value) : Prop := ∃ (C : String) (T : u_T) (N : Nat) (ty : Nat → FieldType), ccl[ci]? = some (C, T, N) ∧ (∀ w ∈ u_ws C T N, w ∈ allW) ∧ (∀ j, j < N → parseFieldDescriptor (T j).2.2.1 = some (ty j)) ∧ Cond.classLink own i C ∈ allW ∧ Cond.instantiable C N ∈ allW ∧ Cond.initialized C ∈ allW ∧ fs.length = N ∧ ∀ (z : Nat) (sa : Nat → Nat) (j : Nat), j < N → defaultValue (ty j) = vp_V (fs.map (ah_v z sa)) j
theorem rn_new (C : rn_Ok p l e s m args meth c z sa D dA cc own nm nL ret hh) {i ci : Nat} {fs : List Value} (f : rn_cl own i ci fs) (d : decode cc pc = .ok (.new i, 3)) (hcells : n1 + 1 ≤ R.cells) (hslots : n2 + fs.length ≤ R.slots)
    (kk : Run p l e R s m args below meth c z sa D dA mc ms K nL (pc + 3) lv (.ref h.length :: st) (h ++ [.inr (ci, fs)]) (n1 + 1) (n2 + fs.length)) : Run p l e R s m args below meth c z sa D dA mc ms K nL pc lv st h n1 n2 := by
  intro H locs ls hH hS hL
  obtain ⟨C', T, N, ty, hc, hin, hty, hcl, hinst, hini, hfl, hfs⟩ := f
  subst hfl
  have hKn := C.kk.1 ci _ hc
  refine W.newcK C.ex C.by C.ow (C.ts _ hcl) (C.ts _ hinst) (C.ts _ hini) rfl d hcells hslots hKn.2.1 hH.1 fun H1 kC hkC e1 z1 o1 => ?_
  have o2 : ∀ q, q < H.size → H1[q]? = H[q]? := fun q hq => o1 q (by rw [← hH.1]; exact hq)
  refine kk H1 _ ls (hH.push (by rw [z1, hH.1]) o2 ⟨_, hc, (u_born ty C.ts hin hKn hkC e1 hty).to (hfs z sa)⟩) ⟨Nat.le_trans hS.1 (by rw [z1, hH.1]; omega), fun x g1 g2 => (o2 x (Nat.lt_of_lt_of_le g1 hS.1)).trans (hS.2.1 x g1 g2), hS.2.2⟩ hL
theorem rn_newarray (C : rn_Ok p l e s m args meth c z sa D dA cc own nm nL ret hh) {at' : ArrayType} {t : Nat} {ty : FieldType} {n : Int32} {N : Nat} {a0 : vp_A} (hty : newarray.typeOf at' = ty) (ht : (ah_T dA)[t]? = some (dA t, ty)) (hw : Cond.arrayClass ty ∈ allW) (hprim : va_RA s (dA t) ty → s.vm.findClass ("[" ++ ty.toString) = some (dA t)) (ha : ∀ cA : ClassId, vp_cell cA a0 = arrV cA N (fun _ => defaultValue ty)) (hn : ¬ n < 0) (hN : n.toNatClampNeg = N) (hbytes : N * componentBytes ty ≤ 536870912)
    (d : decode cc pc = .ok (.newarray at', 2)) (hcells : n1 + 1 ≤ R.cells) (hslots : n2 + N ≤ R.slots)
    (kk : Run p l e R s m args below meth c z sa D dA mc ms K nL (pc + 2) lv (.ref h.length :: st) (h ++ [.inl (t, a0)]) (n1 + 1) (n2 + N)) : Run p l e R s m args below meth c z sa D dA mc ms K nL pc lv (.int n :: st) h n1 n2 := by
  intro H locs ls hH hS hL
  subst hty
  refine va_newaK C.ex C.by (C.ts _ hw) rfl d rfl hn hN hbytes hcells hslots hH.1 fun H1 cA e1 z1 o1 hAr hNm => ?_
  have hA : cA = dA t := Option.some.inj (hNm.symm.trans (hprim (C.kk.2 t _ ht).2))
  subst hA
  have o2 : ∀ q, q < H.size → H1[q]? = H[q]? := fun q hq => o1 q (by rw [← hH.1]; exact hq)
  refine kk H1 _ ls (hH.push (by rw [z1, hH.1]) o2 ?_) ⟨Nat.le_trans hS.1 (by rw [z1, hH.1]; omega), fun x g1 g2 => (o2 x (Nat.lt_of_lt_of_le g1 hS.1)).trans (hS.2.1 x g1 g2), hS.2.2⟩ hL
  show H1[z + h.length]? = some (vp_cell _ _)
  rw [ha]
  exact e1
theorem rn_obj (C : rn_Ok p l e s m args meth c z sa D dA cc own nm nL ret hh) {i q : Nat} (hl : Cond.methodLink own i Lib.objectInit ∈ allW) (hi : Cond.instanceMethod Lib.objectInit ∈ allW) (hc : Cond.code Lib.objectInit ⟨#[0xb1]⟩ 1 none ∈ allW) (d : decode cc pc = .ok (.invokespecial i, 3)) (hframes : 1 ≤ R.frames) (hlocals : (st.map fun v => v.category).sum + 12 ≤ R.locals)
    (kk : Run p l e R s m args below meth c z sa D dA mc ms K nL (pc + 3) lv st h n1 n2) : Run p l e R s m args below meth c z sa D dA mc ms K nL pc lv (.ref q :: st) h n1 n2 := by
  intro H locs ls hH hS hL
  refine W.objInit C.ex C.by C.ow (C.ts _ hl) (C.ts _ hi) (C.ts _ hc) rfl (hL.1.trans C.ml.symm) rfl d hframes ?_ (kk H locs ls hH hS hL)
  show 2 * 0 + (((st.map (ah_v z sa)).map fun v => v.category).sum) + 12 ≤ R.locals
  rw [ah_catsum]
  omega
/-- the ends -/
theorem rn_mq {Qc : Array Value → State → Outcome → State → Prop} {H : Heap} {locs : List Loc} {g : JFrame} (hm : n1 ≤ mc ∧ n2 ≤ ms) (hf : ∀ (o : Outcome) (t : State), Qc args s o t → rn_Q z sa D dA K s o t) (k : W p l e R s m args below meth c H locs mc ms (MQ below Qc args s mc ms (fun q => z ≤ q)) g) : W p l e R s m args below meth c H locs n1 n2 (rn_MQ below z sa D dA K s mc ms) g := by
  refine W.widen hm.1 hm.2 ?_
  intro T hT X
  obtain ⟨t, a1, o, b1, b2, b3, L, b4, b5⟩ := k T hT X
  exact ⟨t, a1, o, b1, b2, hf o t b3, L, ⟨b4.2.1, b4.2.2⟩, b5⟩
theorem rn_ireturn (C : rn_Ok p l e s m args meth c z sa D dA cc own nm nL ret hh) {v : Int32} {ty : FieldType} (hr : ret = some ty) (hn : narrow ty (.int v) = .int v) (d : decode cc pc = .ok (.ireturn, 1)) (hm : n1 ≤ mc ∧ n2 ≤ ms) (hK : K (.inl (some (.int v))) h) : Run p l e R s m args below meth c z sa D dA mc ms K nL pc lv [.int v] h n1 n2 := by
  intro H locs ls hH hS hL
  have hlocks := C.lk
  exact rn_mq hm (Qc := fun _ st o t => rn_Q z sa D dA K st o t) (fun o t q => q) (W.zret C.ex C.by (C.re.trans hr) hn (fun t ht hw => ⟨_, h, hK, rfl, by rw [ht]; exact hH, hS.F ht⟩) hS.2.2 d hlocks)
theorem rn_lreturn (C : rn_Ok p l e s m args meth c z sa D dA cc own nm nL ret hh) {v : Int64} (hr : ret = some .long) (d : decode cc pc = .ok (.lreturn, 1)) (hm : n1 ≤ mc ∧ n2 ≤ ms) (hK : K (.inl (some (.long v))) h) : Run p l e R s m args below meth c z sa D dA mc ms K nL pc lv [.long v] h n1 n2 := by
  intro H locs ls hH hS hL
  have hlocks := C.lk
  exact rn_mq hm (Qc := fun _ st o t => rn_Q z sa D dA K st o t) (fun o t q => q) (W.lret C.ex C.by (C.re.trans hr) (fun t ht hw => ⟨_, h, hK, rfl, by rw [ht]; exact hH, hS.F ht⟩) hS.2.2 d hlocks)
theorem rn_return (C : rn_Ok p l e s m args meth c z sa D dA cc own nm nL ret hh) (hr : ret = none) (d : decode cc pc = .ok (.return_, 1)) (hm : n1 ≤ mc ∧ n2 ≤ ms) (hK : K (.inl none) h) : Run p l e R s m args below meth c z sa D dA mc ms K nL pc lv [] h n1 n2 := by
  intro H locs ls hH hS hL
  have hlocks := C.lk
  exact rn_mq hm (Qc := fun _ st o t => rn_Q z sa D dA K st o t) (fun o t q => q) (W.vret C.ex C.by (C.re.trans hr) (fun t ht hw => ⟨_, h, hK, rfl, by rw [ht]; exact hH, hS.F ht⟩) hS.2.2 d hlocks)
end HEAP
end
section
/-! Contracts, and calls by contract. -/
def rn_wc (y : MethodName) (cc : ByteArray) (nL : Nat) (ret : Option FieldType) (hh : List (Nat × Nat × Nat × Nat)) (wc : Cond) : Prop := wc = Cond.codeWith y cc nL ret hh ∨ (wc = Cond.code y cc nL ret ∧ hh = [])
theorem rn_wc.spec {y : MethodName} {cc : ByteArray} {nL : Nat} {ret : Option FieldType} {hh : List (Nat × Nat × Nat × Nat)} {wc : Cond} {args : Array Value} {s : State} (hw : rn_wc y cc nL ret hh wc) (h : wc.before args s = true) :
    ∃ m meth c, s.methodNamed? y = some m ∧ s.vm.method? m = some meth ∧ meth.code = some c ∧ c.code = cc ∧ c.maxLocals = nL ∧ c.exceptionTable.toList.map (fun x => (x.startPc, x.endPc, x.handlerPc, x.catchType)) = hh ∧ meth.sig.returnType = ret ∧ meth.locks = false ∧ parseMethodDescriptor y.desc = some meth.sig := by
  have h2 : (Cond.codeWith y cc nL ret hh).before args s = true := by
    rcases hw with rfl | ⟨rfl, rfl⟩
    · exact h
    · unfold Cond.before Cond.holds at h ⊢
      rw [← Cond.code_iff_codeWith_nil]
      exact h
  exact Cond.codeWith_spec h2
/-- a method's contract: whatever heap and arguments G allows, it ends as K says -/
def rn_Met (l : Launch) (y : MethodName) (wc : Cond) (rm : Room) (G : List Value → ah_H → (ah_R → ah_H → Prop) → Prop) : Prop :=
  ∀ (z : Nat) (sa : Nat → Nat) (D : va_G) (dA : Nat → ClassId) (av : List Value) (h : ah_H) (K : ah_R → ah_H → Prop),
    MetFree l y (headSpec (wc :: allW) rm) (fun a U => a = (av.map (ah_v z sa)).toArray ∧ rn_H z sa D dA h U.heap ∧ va_K D ccl (ah_T dA) U ∧ rn_F z sa U ∧ G av h K) (fun _ _ _ _ _ => True)
      (fun _ st o t => rn_Q z sa D dA K st o t ∧ ∃ L, rn_End st t L rm.cells rm.slots ∧ ∀ q ∈ L, z ≤ q.base)
theorem rn_enter {l : Launch} {y : MethodName} {wc : Cond} {rm : Room} {G : List Value → ah_H → (ah_R → ah_H → Prop) → Prop} {cc : ByteArray} {nL : Nat} {ret : Option FieldType} {hh : List (Nat × Nat × Nat × Nat)} (hw : rn_wc y cc nL ret hh wc) (hy : plainName y.cls = true)
    (hn : ∀ av h K, G av h K → (lv_in av).length ≤ nL)
    (body : ∀ p e s m args below meth c z sa D dA av h K, l.admits e → rn_Ok p l e s m args meth c z sa D dA cc y.cls y.name nL ret hh → G av h K → Run p l e rm s m args below meth c z sa D dA rm.cells rm.slots K nL 0 (lv_in av) [] h 0 0) : rn_Met l y wc rm G := by
  intro z sa D dA av h K
  refine MetFree.of_bodyS (code := cc) (maxLocals := nL) (ret := ret) hy ?_ ?_
  · intro args s m hp hnm
    obtain ⟨m9, meth, c, hn9, h1, h2, h3, h4, -, h5, h6, -⟩ := hw.spec (atoms_spec (ws := wc :: allW) hp _ List.mem_cons_self)
    cases hnm.symm.trans hn9
    exact ⟨meth, c, h1, h2, h3, h4, h5, h6⟩
  · intro p e s m args below meth c s₁ B hml hP _
    obtain ⟨rfl, hH, hK, hF, hG⟩ := hP
    have hts := atoms_spec (ws := wc :: allW) B.pre
    obtain ⟨m9, meth9, c9, hn9, h1, h2, -, -, h4, -, -, -⟩ := hw.spec (hts _ List.mem_cons_self)
    cases B.named.symm.trans hn9
    cases B.method.symm.trans h1
    have hcc : c9 = c := by
      have e1 := (Stand.of_body B).code
      exact Option.some.inj (h2.symm.trans e1)
    subst hcc
    have C : rn_Ok p l e s m (av.map (ah_v z sa)).toArray meth c9 z sa D dA cc y.cls y.name nL ret hh :=
      ⟨B.exec, B.bytes, hml, findClass_of_methodNamed B.named, fun w hw => hts w (List.mem_cons_of_mem _ hw), B.notSynchronized, B.returns, hK, by rw [hH.1]; omega, hF, (name_of_methodNamed B.named B.method).1, h4⟩
    have hh0 : s₁.heap = s.heap := by rw [B.state]; rfl
    have k := body p e s m _ below meth c9 z sa D dA av h K B.admits C hG s.heap [] _ hH va_S.rf (rn_L.entry (hn _ _ _ hG))
    rw [List.map_nil, ← lg_entry_eq] at k
    obtain ⟨t, a1, o, b1, b2, b3, b4⟩ := k s₁ hh0 (Stand.of_body B)
    exact ⟨t, o, a1, b1, b2, b3, b4⟩
section CALL
variable {p : Program} {l : Launch} {e : Env} {R : Room} {s : State} {m : MethodId} {args : Array Value} {below : List Frame} {meth : Method} {c : Code} {z : Nat} {sa : Nat → Nat} {D : va_G} {dA : Nat → ClassId} {T : State} {locs : List Loc} {n1 n2 : Nat}
theorem rn_good {wc : Cond} (h : wc ∈ allW) : GoodIn allW (wc :: allW) := fun w hw => by
  have hm : w ∈ allW := by
    rcases List.mem_cons.mp hw with rfl | hw
    · exact h
    · exact hw
  exact ⟨hm, good_of_word (List.mem_filter.mp hm).2⟩
/-- the call itself: it comes back, or it throws -/
theorem rn_back {y : MethodName} {wc : Cond} {rm : Room} {G : List Value → ah_H → (ah_R → ah_H → Prop) → Prop} {cy : ByteArray} {nY : Nat} {ry : Option FieldType} {hy : List (Nat × Nat × Nat × Nat)} (hM : rn_Met l y wc rm G) (hw : rn_wc y cy nY ry hy wc) (hwc : wc ∈ allW)
    (X : Stand p l e R s m args below meth c T locs n1 n2) (hts : ∀ w ∈ allW, w.before args s = true) (hini : (Cond.initialized y.cls).before args s = true)
    {g : JFrame} (hg : g.method = m) (hsize : g.locals.size = c.maxLocals) {ig : Instr} (hdg : decode c.code g.pc = .ok (ig, 3)) (hW : 2 * g.monitorRoom + (g.stack.map fun v => v.category).sum ≤ 8) {mk : MethodId} (hn : T.methodNamed? y = some mk)
    (hfr : rm.frames + 1 ≤ R.frames) (hlo : 8 + (nY + 11) + rm.locals ≤ R.locals) (hc1 : n1 + rm.cells ≤ R.cells) (hc2 : n2 + rm.slots ≤ R.slots)
    {av : List Value} {h : ah_H} {K : ah_R → ah_H → Prop} (hH : rn_H z sa D dA h T.heap) (hK : va_K D ccl (ah_T dA) T) (hF : rn_F z sa T) (hG : G av h K) :
    ∃ (r : ah_R) (h' : ah_H) (U : State) (L : List Loc), K r h' ∧ rn_H z sa D dA h' U.heap ∧ Stand p l e R s m args below meth c U (locs ++ L) (n1 + rm.cells) (n2 + rm.slots) ∧ (∀ q ∈ L, z ≤ q.base) ∧ T.heap.size ≤ U.heap.size ∧ (∀ q : Nat, q < T.heap.size → ¬ z ≤ q → U.heap[q]? = T.heap[q]?) ∧
      (match r with
        | .inl v => Steps p.tables e below (doInvoke e (T.setTop g) [] mk (av.map (ah_v z sa)).toArray).1 (U.setTop { g with pc := g.pc + 3, stack := (v.map (ah_v z sa)).toList ++ g.stack })
        | .inr k => Steps p.tables e below (doInvoke e (T.setTop g) [] mk (av.map (ah_v z sa)).toArray).1 ((U.setTop g).pushFrame (.throwing (z + k)))) := by
  have hws : ∀ w ∈ wc :: allW, ∀ (a' : Array Value) (U : State), s.WarmedH U.vm → w.before a' U = true := pay_in hts (rn_good hwc)
  have hpre : (headSpec (wc :: allW) rm).pre.before (av.map (ah_v z sa)).toArray T = true := atoms_intro fun w hw => hws w hw _ _ X.warmed
  obtain ⟨m9, methY, cY, hn9, hmY, hcY, -, hlY, -⟩ := hw.spec (hws wc List.mem_cons_self (av.map (ah_v z sa)).toArray T X.warmed)
  cases hn.symm.trans hn9
  obtain ⟨kY, hkY, -⟩ := className_of_methodNamed hn
  have hini' : (Cond.initialized y.cls).before (av.map (ah_v z sa)).toArray T = true := word_at X.warmed (Or.inl (by first | rfl | simp [Cond.onTables, Cond.keeps, Cond.steady])) hini
  have hinitY : kY.init = .initialized := Cond.initialized_spec (findClass_of_methodNamed hn) hkY hini'
  have hA : At T g.method c below := by rw [hg]; exact X.here
  have happ : (headSpec (wc :: allW) rm).appliesLoose y e.platform (T.calling g mk (av.map (ah_v z sa)).toArray) = true :=
    Spec.appliesLoose_calling (g := g) hA hdg hn hkY hinitY
      (X.room_calling (g := g) (R' := rm) hsize hmY hcY hfr (by rw [hlY]; omega) hc1 hc2) hpre
  obtain ⟨mid, hmid⟩ := hA.above
  have hfr' : (T.setTop g).frames = (.java g :: mid) ++ below := by rw [State.frames_setTop' g hA.top, hmid]; rfl
  have hPP : (av.map (ah_v z sa)).toArray = (av.map (ah_v z sa)).toArray ∧ rn_H z sa D dA h (T.calling g mk (av.map (ah_v z sa)).toArray).heap ∧ va_K D ccl (ah_T dA) (T.calling g mk (av.map (ah_v z sa)).toArray) ∧ rn_F z sa (T.calling g mk (av.map (ah_v z sa)).toArray) ∧ G av h K :=
    ⟨rfl, hH, va_K.moved (u := T) (U := T.calling g mk (av.map (ah_v z sa)).toArray) (Vm.Alike.refl T.vm) hK, rn_F.same (u := T) (U := T.calling g mk (av.map (ah_v z sa)).toArray) rfl rfl hF, hG⟩
  obtain ⟨o, s₂, hsteps, -, hend, hq⟩ := Steps.callFree (hM z sa D dA av h K) p X.admits X.cas X.clock (acts := []) hfr' happ hPP trivial
  have hq' : rn_Q z sa D dA K (T.calling g mk (av.map (ah_v z sa)).toArray) o s₂ ∧ ∃ L, rn_End (T.calling g mk (av.map (ah_v z sa)).toArray) s₂ L rm.cells rm.slots ∧ ∀ q ∈ L, z ≤ q.base := hq
  obtain ⟨⟨r, h', hK', hO, hH', hF1, hF2⟩, L, ⟨hW₂, e2, q2, q3, q4, q5, q6⟩, hL⟩ := hq'
  rw [State.frames_setTop' g hA.top] at hend
  have e3 : s₂ = ({ (T.calling g mk (av.map (ah_v z sa)).toArray).setFrames s₂.frames with heap := s₂.heap, slotsUsed := s₂.slotsUsed } : State).setVm s₂.vm := by
    have : s₂ = ({ s₂ with vm := (T.calling g mk (av.map (ah_v z sa)).toArray).vm } : State).setVm s₂.vm := rfl
    rw [e2] at this
    exact this
  have hW' : T.WarmedH s₂.vm := hW₂
  obtain ⟨g₀, hg0⟩ := Option.isSome_iff_exists.mp hA.top
  obtain ⟨rr, hr⟩ := State.topJava?_eq_some.mp hg0
  have hsame : T.sameButNew ({ T with heap := s₂.heap, slotsUsed := s₂.slotsUsed } : State) L rm.cells rm.slots := by
    refine ⟨?_, q2, q3, q4, q5, q6⟩
    obtain ⟨t, ht, -⟩ := State.frames_cons hr
    show ({ T with heap := s₂.heap, slotsUsed := s₂.slotsUsed } : State) = { T.setFrames T.frames with heap := s₂.heap, slotsUsed := s₂.slotsUsed }
    rw [State.setFrames_self ht]
  have hr' : (({ T with heap := s₂.heap, slotsUsed := s₂.slotsUsed } : State).setVm s₂.vm).frames = .java g₀ :: rr := hr
  subst hg
  have X2 : Stand p l e R s g.method args below meth c (({ T with heap := s₂.heap, slotsUsed := s₂.slotsUsed } : State).setVm s₂.vm) (locs ++ L) (n1 + rm.cells) (n2 + rm.slots) :=
    ⟨X.admits, X.cas, X.clock, X.frames, X.room, X.hears, X.method, X.code, (X.here.setHeapUsed s₂.heap s₂.slotsUsed).setVm hW'.alike, X.tail, State.WarmedH.trans X.warmed hW', X.limits, X.bytes, X.same.trans (hsame.setVm s.vm)⟩
  refine ⟨r, h', ({ T with heap := s₂.heap, slotsUsed := s₂.slotsUsed } : State).setVm s₂.vm, L, hK', hH', X2, hL, hF1, hF2, ?_⟩
  cases r with
  | inl v =>
    have hO' : o = .returned (v.map (ah_v z sa)) := hO
    subst hO'
    obtain ⟨c₂, i₂, len₂, hc₂, hd₂, hf₂⟩ := hend
    have hcc : c₂ = c := by
      have h1 : s₂.code? g.method = T.code? g.method := by
        rw [State.code?_eq, State.code?_eq, hW'.alike.method?]
      exact Option.some.inj (hc₂.symm.trans (h1.trans hA.code))
    subst hcc
    have hlen : len₂ = 3 := by rw [hdg] at hd₂; cases hd₂; rfl
    subst hlen
    have hs₂ : s₂ = (({ T with heap := s₂.heap, slotsUsed := s₂.slotsUsed } : State).setVm s₂.vm).setTop { g with pc := g.pc + 3, stack := (v.map (ah_v z sa)).toList ++ g.stack } := by
      refine e3.trans ?_
      rw [hf₂, State.calling_eq hA.top, State.setFrames_setFrames, State.setTop_of_frames _ hr', hr]
      rfl
    show Steps p.tables e below _ ((({ T with heap := s₂.heap, slotsUsed := s₂.slotsUsed } : State).setVm s₂.vm).setTop { g with pc := g.pc + 3, stack := (v.map (ah_v z sa)).toList ++ g.stack })
    rw [← hs₂]
    exact hsteps
  | inr k =>
    have hO' : o = .threw (z + k) := hO
    subst hO'
    have hf₂ : s₂.frames = .throwing (z + k) :: .java g :: T.frames.tail := hend
    have hs₂ : s₂ = ((({ T with heap := s₂.heap, slotsUsed := s₂.slotsUsed } : State).setVm s₂.vm).setTop g).pushFrame (.throwing (z + k)) := by
      refine e3.trans ?_
      rw [hf₂, State.calling_eq hA.top, State.setFrames_setFrames, State.pushFrame, State.frames_setTop _ hr', State.setTop_of_frames _ hr', State.setFrames_setFrames, hr]
      rfl
    show Steps p.tables e below _ (((({ T with heap := s₂.heap, slotsUsed := s₂.slotsUsed } : State).setVm s₂.vm).setTop g).pushFrame (.throwing (z + k)))
    rw [← hs₂]
    exact hsteps
variable {mc ms : Nat} {K : ah_R → ah_H → Prop} {cc : ByteArray} {own nm : String} {nL : Nat} {ret : Option FieldType} {hh : List (Nat × Nat × Nat × Nat)} {pc : Nat} {lv : List (Option Value)} {st : List Value} {h : ah_H}
/-- behind a call that does not throw -/
def rn_aft (Rn : Option Value → ah_H → Prop) : ah_R → ah_H → Prop := fun r h' => match r with
  | .inl v => Rn v h'
  | .inr _ => False
theorem rn_S {H H1 : Heap} {L : List Loc} (hS : va_S (fun q => z ≤ q) s.heap H locs) (h1 : H.size ≤ H1.size) (h2 : ∀ q : Nat, q < H.size → ¬ z ≤ q → H1[q]? = H[q]?) (hL : ∀ q ∈ L, z ≤ q.base) : va_S (fun q => z ≤ q) s.heap H1 (locs ++ L) :=
  ⟨Nat.le_trans hS.1 h1, fun q g1 g2 => (h2 q (Nat.lt_of_lt_of_le g1 hS.1) g2).trans (hS.2.1 q g1 g2), fun q hq => by
    rcases List.mem_append.mp hq with g | g
    · exact hS.2.2 q g
    · exact hL q g⟩
theorem rn_go {y : MethodName} {wc : Cond} {rm : Room} {G : List Value → ah_H → (ah_R → ah_H → Prop) → Prop} {cy : ByteArray} {nY : Nat} {ry : Option FieldType} {hy : List (Nat × Nat × Nat × Nat)} (hM : rn_Met l y wc rm G) (hw : rn_wc y cy nY ry hy wc) (hwc : wc ∈ allW)
    (C : rn_Ok p l e s m args meth c z sa D dA cc own nm nL ret hh) {H : Heap} {ls : Array Slot} {T : State} (hT : T.heap = H) (hH : rn_H z sa D dA h H) (hS : va_S (fun q => z ≤ q) s.heap H locs) (hL : rn_L z sa ls nL lv) (hini : Cond.initialized y.cls ∈ allW)
    {ig : Instr} (d : decode cc pc = .ok (ig, 3)) {mk : MethodId} {vm₁ : Vm} (X₁ : Stand p l e R s m args below meth c (T.setVm vm₁) locs n1 n2) (hn : (T.setVm vm₁).methodNamed? y = some mk) {g0 : JFrame} {av : List Value}
    (hstep : ∀ target, (∀ acts, Steps p.tables e below (doInvoke e ((T.setVm vm₁).setTop (F0 m pc ls (st.map (ah_v z sa)))) acts mk (av.map (ah_v z sa)).toArray).1 target) → Steps p.tables e below (T.setTop g0) target)
    (hcat : (st.map fun v => v.category).sum ≤ 8) (hr : rm.frames + 1 ≤ R.frames ∧ 8 + (nY + 11) + rm.locals ≤ R.locals) (hc : n1 + rm.cells ≤ R.cells ∧ n2 + rm.slots ≤ R.slots)
    (hG : G av h (rn_aft fun v h' => Run p l e R s m args below meth c z sa D dA mc ms K nL (pc + 3) lv (v.toList ++ st) h' (n1 + rm.cells) (n2 + rm.slots))) : ∃ t, Steps p.tables e below (T.setTop g0) t ∧ rn_MQ below z sa D dA K s mc ms t := by
  have hF : rn_F z sa (T.setVm vm₁) := rn_F.kept (s := s) (U := T.setVm vm₁) X₁.warmed (fun q hq => by show T.heap[q]? = _; rw [hT]; exact hS.2.1 q (Nat.lt_of_lt_of_le hq C.zs) (by omega)) C.ff
  obtain ⟨r, h', U, L, hK', hH', X2, hLz, z1, z2, hst⟩ := rn_back hM hw hwc X₁ C.ts (C.ts _ hini) (g := F0 m pc ls (st.map (ah_v z sa))) rfl (hL.1.trans C.ml.symm) (ig := ig) (by rw [C.by]; exact d) (by show 2 * 0 + _ ≤ 8; rw [ah_catsum]; omega) hn hr.1 hr.2 hc.1 hc.2 (z := z) (sa := sa) (D := D) (dA := dA) (by show rn_H z sa D dA h T.heap; rw [hT]; exact hH) (va_K.moved X₁.warmed.alike C.kk) hF hG
  have z1' : H.size ≤ U.heap.size := by rw [← hT]; exact z1
  have z2' : ∀ q : Nat, q < H.size → ¬ z ≤ q → U.heap[q]? = H[q]? := by rw [← hT]; exact z2
  cases r with
  | inr k => exact absurd hK' (fun q => q)
  | inl v =>
    have k : Run p l e R s m args below meth c z sa D dA mc ms K nL (pc + 3) lv (v.toList ++ st) h' (n1 + rm.cells) (n2 + rm.slots) := hK'
    obtain ⟨t, a1, b1⟩ := k U.heap (locs ++ L) ls hH' (rn_S hS z1' z2' hLz) hL U rfl X2
    refine ⟨t, hstep t (fun acts => ?_), b1⟩
    rw [doInvoke_state]
    refine Steps.trans hst ?_
    cases v <;> exact a1
/-- the words of a call -/
def rn_lk (own : String) (i : Nat) (y : MethodName) : Prop := Cond.methodLink own i y ∈ allW ∨ ∃ host, Cond.methodLinkNest own i y host ∈ nestW
def rn_mh (y : MethodName) (n : Nat) : Prop := (y.cls ≠ "java/lang/invoke/MethodHandle" ∧ y.cls ≠ "java/lang/invoke/VarHandle") ∧ (parseMethodDescriptor y.desc).map (fun d => d.parameters.length) = some n
theorem rn_mh.len {y : MethodName} {n : Nat} (hm : rn_mh y n) {sig : MethodDescriptor} (hs : parseMethodDescriptor y.desc = some sig) : n = sig.parameters.length := by
  have h2 := hm.2
  rw [hs] at h2
  exact (Option.some.inj h2).symm
def rn_mw (y : MethodName) (cc : ByteArray) (nL : Nat) (ret : Option FieldType) (hh : List (Nat × Nat × Nat × Nat)) (wc : Cond) : Prop := rn_wc y cc nL ret hh wc ∧ wc ∈ allW
def rn_cs (own : String) (i : Nat) (y : MethodName) (n : Nat) : Prop := rn_lk own i y ∧ rn_mh y n ∧ Cond.static y ∈ allW ∧ Cond.initialized y.cls ∈ allW
def rn_cv (own : String) (i : Nat) (y : MethodName) (n : Nat) : Prop := rn_lk own i y ∧ rn_mh y n ∧ Cond.instanceMethod y ∈ allW ∧ Cond.selects y.cls y y ∈ allW ∧ Cond.initialized y.cls ∈ allW
def rn_ci (own : String) (i : Nat) (y : MethodName) (n : Nat) : Prop := rn_lk own i y ∧ rn_mh y n ∧ y.name = "<init>" ∧ Cond.instanceMethod y ∈ allW ∧ Cond.initialized y.cls ∈ allW
theorem rn_callS (C : rn_Ok p l e s m args meth c z sa D dA cc own nm nL ret hh) {y : MethodName} {wc : Cond} {rm : Room} {G : List Value → ah_H → (ah_R → ah_H → Prop) → Prop} {cy : ByteArray} {nY : Nat} {ry : Option FieldType} {hy : List (Nat × Nat × Nat × Nat)} (hM : rn_Met l y wc rm G) (hmw : rn_mw y cy nY ry hy wc) {i n : Nat} (hcs : rn_cs own i y n) (d : decode cc pc = .ok (.invokestatic i, 3)) (av : List Value) {stk : List Value} (hs : stk = av.reverse ++ st) (hlen : av.length = n)
    (hcat : (st.map fun v => v.category).sum ≤ 8) (hr : rm.frames + 1 ≤ R.frames ∧ 8 + (nY + 11) + rm.locals ≤ R.locals) (hc : n1 + rm.cells ≤ R.cells ∧ n2 + rm.slots ≤ R.slots)
    (hG : G av h (rn_aft fun v h' => Run p l e R s m args below meth c z sa D dA mc ms K nL (pc + 3) lv (v.toList ++ st) h' (n1 + rm.cells) (n2 + rm.slots))) : Run p l e R s m args below meth c z sa D dA mc ms K nL pc lv stk h n1 n2 := by
  intro H locs ls hH hS hL T hT X
  subst hs
  obtain ⟨hw, hwc⟩ := hmw
  obtain ⟨hl, hmh, hsta, hini⟩ := hcs
  obtain ⟨mk, methM, cM, hnamed, hmethM, -, -, -, -, -, -, hsigM⟩ := hw.spec (C.ts _ hwc)
  have hstatic : methM.isStatic = true := Cond.static_spec hnamed hmethM (C.ts _ hsta)
  obtain ⟨kP, hkP, -⟩ := className_of_methodNamed hnamed
  have hinitP : kP.init = .initialized := Cond.initialized_spec (findClass_of_methodNamed hnamed) hkP (C.ts _ hini)
  have hstk : (F0 m pc ls ((av.reverse ++ st).map (ah_v z sa))).stack = (av.map (ah_v z sa)).reverse ++ st.map (ah_v z sa) := by show (av.reverse ++ st).map (ah_v z sa) = _; rw [List.map_append, List.map_reverse]
  have hlen' : (av.map (ah_v z sa)).length = methM.sig.parameters.length := by rw [List.length_map, hlen]; exact hmh.len hsigM
  rcases hl with hl | ⟨host, hl⟩
  · obtain ⟨vm₁, X₁, hstep₁⟩ := X.invokestatic C.ex C.ow (C.ts _ hl) hnamed hmethM hstatic hkP hinitP hmh.1 (g := F0 m pc ls ((av.reverse ++ st).map (ah_v z sa))) rfl (argsL := av.map (ah_v z sa)) (rest := st.map (ah_v z sa)) hlen' hstk (by rw [C.by]; exact d)
    exact rn_go hM hw hwc C hT hH hS hL hini d X₁ (X₁.named hnamed) hstep₁ hcat hr hc hG
  · obtain ⟨vm₁, X₁, hstep₁⟩ := X.invokestaticNest C.ex C.ow (va_Nw.use rfl (C.ff.1 _ hl)) hnamed hmethM hstatic hkP hinitP hmh.1 (g := F0 m pc ls ((av.reverse ++ st).map (ah_v z sa))) rfl (argsL := av.map (ah_v z sa)) (rest := st.map (ah_v z sa)) hlen' hstk (by rw [C.by]; exact d)
    exact rn_go hM hw hwc C hT hH hS hL hini d X₁ (X₁.named hnamed) hstep₁ hcat hr hc hG
theorem rn_callV (C : rn_Ok p l e s m args meth c z sa D dA cc own nm nL ret hh) {y : MethodName} {wc : Cond} {rm : Room} {G : List Value → ah_H → (ah_R → ah_H → Prop) → Prop} {cy : ByteArray} {nY : Nat} {ry : Option FieldType} {hy : List (Nat × Nat × Nat × Nat)} (hM : rn_Met l y wc rm G) (hmw : rn_mw y cy nY ry hy wc) {i n : Nat} (hcv : rn_cv own i y n) (d : decode cc pc = .ok (.invokevirtual i, 3)) (q : Nat) (av : List Value) {stk : List Value} (hs : stk = av.reverse ++ .ref q :: st) (hlen : av.length = n) {ci : Nat} {fs : List Value} (hq : h[q]? = some (.inr (ci, fs))) {TT : u_T} {NN : Nat} (hcl : ccl[ci]? = some (y.cls, TT, NN))
    (hcat : (st.map fun v => v.category).sum ≤ 8) (hr : rm.frames + 1 ≤ R.frames ∧ 8 + (nY + 11) + rm.locals ≤ R.locals) (hc : n1 + rm.cells ≤ R.cells ∧ n2 + rm.slots ≤ R.slots)
    (hG : G (.ref q :: av) h (rn_aft fun v h' => Run p l e R s m args below meth c z sa D dA mc ms K nL (pc + 3) lv (v.toList ++ st) h' (n1 + rm.cells) (n2 + rm.slots))) : Run p l e R s m args below meth c z sa D dA mc ms K nL pc lv stk h n1 n2 := by
  intro H locs ls hH hS hL T hT X
  subst hs
  obtain ⟨hw, hwc⟩ := hmw
  obtain ⟨hl, hmh, hins, hsel, hini⟩ := hcv
  obtain ⟨cellB, hcB, hoB, hclB⟩ := va_recv C.kk hH.2 hcl (ah_get hq : (ah_w z sa dA h)[q]? = some (z + q, .inr (ci, fs.map (ah_v z sa))))
  obtain ⟨mk, methM, hnamed, hmethM, hstM, habM⟩ := Cond.instanceMethod_spec (C.ts _ hins)
  obtain ⟨m9, meth9, cM, hn9, hm9, -, -, -, -, -, -, hsigM⟩ := hw.spec (C.ts _ hwc)
  cases hnamed.symm.trans hn9
  cases hmethM.symm.trans hm9
  obtain ⟨c2, r2, m2, q1, q2, q3, q4, kP, hkP, hkPi⟩ := Cond.selects_spec (C.ts _ hsel)
  cases hclB.symm.trans q1
  cases (State.methodFound?_of_named hnamed hmh.1).symm.trans q2
  cases hnamed.symm.trans q3
  have hselP : selectMethod e.platform s.vm cellB.cls mk = .method mk := by rw [Launch.admits_selectMethod X.admits]; exact q4
  have hstk : (F0 m pc ls ((av.reverse ++ .ref q :: st).map (ah_v z sa))).stack = (av.map (ah_v z sa)).reverse ++ .ref (z + q) :: st.map (ah_v z sa) := by show (av.reverse ++ .ref q :: st).map (ah_v z sa) = _; rw [List.map_append, List.map_reverse]; rfl
  have hlen' : (av.map (ah_v z sa)).length = methM.sig.parameters.length := by rw [List.length_map, hlen]; exact hmh.len hsigM
  rcases hl with hl | ⟨host, hl⟩
  · obtain ⟨vm₁, X₁, hstep₁⟩ := X.invokevirtual C.ex C.ow (C.ts _ hl) hnamed hmethM hstM hkP hkPi hmh.1 (a := z + q) (cell := cellB) (by rw [hT]; exact hcB) (fun z h => by rw [h] at hoB; cases hoB) hselP hmethM habM hkP hkPi (g := F0 m pc ls ((av.reverse ++ .ref q :: st).map (ah_v z sa))) rfl (argsL := av.map (ah_v z sa)) (rest := st.map (ah_v z sa)) hlen' hstk (by rw [C.by]; exact d)
    exact rn_go hM hw hwc C hT hH hS hL hini d X₁ (X₁.named hnamed) (av := .ref q :: av) hstep₁ hcat hr hc hG
  · obtain ⟨vm₁, X₁, hstep₁⟩ := X.invokevirtualNest C.ex C.ow (va_Nw.use rfl (C.ff.1 _ hl)) hnamed hmethM hstM hkP hkPi hmh.1 (a := z + q) (cell := cellB) (by rw [hT]; exact hcB) (fun z h => by rw [h] at hoB; cases hoB) hselP hmethM habM hkP hkPi (g := F0 m pc ls ((av.reverse ++ .ref q :: st).map (ah_v z sa))) rfl (argsL := av.map (ah_v z sa)) (rest := st.map (ah_v z sa)) hlen' hstk (by rw [C.by]; exact d)
    exact rn_go hM hw hwc C hT hH hS hL hini d X₁ (X₁.named hnamed) (av := .ref q :: av) hstep₁ hcat hr hc hG
theorem rn_callI (C : rn_Ok p l e s m args meth c z sa D dA cc own nm nL ret hh) {y : MethodName} {rm : Room} {G : List Value → ah_H → (ah_R → ah_H → Prop) → Prop} {cy : ByteArray} {nY : Nat} (hM : rn_Met l y (Cond.code y cy nY none) rm G) (hmw : rn_mw y cy nY none [] (Cond.code y cy nY none)) {i n : Nat} (hci : rn_ci own i y n) (d : decode cc pc = .ok (.invokespecial i, 3)) (q : Nat) (av : List Value) {stk : List Value} (hs : stk = av.reverse ++ .ref q :: st) (hlen : av.length = n)
    (hcat : (st.map fun v => v.category).sum ≤ 8) (hr : rm.frames + 1 ≤ R.frames ∧ 8 + (nY + 11) + rm.locals ≤ R.locals) (hc : n1 + rm.cells ≤ R.cells ∧ n2 + rm.slots ≤ R.slots)
    (hG : G (.ref q :: av) h (rn_aft fun v h' => Run p l e R s m args below meth c z sa D dA mc ms K nL (pc + 3) lv (v.toList ++ st) h' (n1 + rm.cells) (n2 + rm.slots))) : Run p l e R s m args below meth c z sa D dA mc ms K nL pc lv stk h n1 n2 := by
  intro H locs ls hH hS hL T hT X
  subst hs
  obtain ⟨hw, hwc⟩ := hmw
  obtain ⟨hl, hmh, hy1, hins, hini⟩ := hci
  have hpl : e.platform.magicAccessors = ({} : Platform).magicAccessors := by rw [X.admits.platform]
  have hstk : (F0 m pc ls ((av.reverse ++ .ref q :: st).map (ah_v z sa))).stack = (av.map (ah_v z sa)).reverse ++ .ref (z + q) :: st.map (ah_v z sa) := by show (av.reverse ++ .ref q :: st).map (ah_v z sa) = _; rw [List.map_append, List.map_reverse]; rfl
  have hlen' : ∀ sig, parseMethodDescriptor y.desc = some sig → (av.map (ah_v z sa)).length = sig.parameters.length := fun sig hs => by rw [List.length_map, hlen]; exact hmh.len hs
  rcases hl with hl | ⟨host, hl⟩
  · obtain ⟨mk, methM, cM, kP, vm₁, hnamed, hmethM, hcodeM, -, hlocalsM, -, hkP, -, hW₁, hstep₁⟩ := Steps.initColdArgs (e := e) X.here C.ex X.warmed hpl C.ow hy1 hmh.1 (C.ts _ hl) (C.ts _ hins) (C.ts _ hwc) (f := F0 m pc ls ((av.reverse ++ .ref q :: st).map (ah_v z sa))) rfl hlen' hstk (by rw [C.by]; exact d)
    have X₁ := X.noted hW₁
    exact rn_go hM (Or.inr ⟨rfl, rfl⟩) hwc C hT hH hS hL hini d X₁ (X₁.named hnamed) (av := .ref q :: av) hstep₁ hcat hr hc hG
  · obtain ⟨mk, methM, cM, kP, vm₁, hnamed, hmethM, hcodeM, -, hlocalsM, -, hkP, -, hW₁, hstep₁⟩ := Steps.initColdArgsNest (e := e) X.here C.ex X.warmed hpl C.ow hy1 hmh.1 (va_Nw.use rfl (C.ff.1 _ hl)) (C.ts _ hins) (C.ts _ hwc) (f := F0 m pc ls ((av.reverse ++ .ref q :: st).map (ah_v z sa))) rfl hlen' hstk (by rw [C.by]; exact d)
    have X₁ := X.noted hW₁
    exact rn_go hM (Or.inr ⟨rfl, rfl⟩) hwc C hT hH hS hL hini d X₁ (X₁.named hnamed) (av := .ref q :: av) hstep₁ hcat hr hc hG
end CALL
end
