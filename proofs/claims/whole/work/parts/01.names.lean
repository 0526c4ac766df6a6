-- ===== PART A: goes FIRST, ahead of the names: the tables' words, and 'selects' of the private methods out of them =====
/-- a private method of a class that the tables say can be made, by its rows of tables_1 -/
def lw_okq (q : MethodName × Nat) : Prop := (q.1.cls ≠ "java/lang/invoke/MethodHandle" ∧ q.1.cls ≠ "java/lang/invoke/VarHandle") ∧ Cond.instantiable q.1.cls q.2 ∈ tables_1 ∧ Cond.privateMethod q.1 ∈ tables_1 ∧ Cond.instanceMethod q.1 ∈ tables_1
theorem lw_p0 : lw_okq (⟨"OscillatorRow", "isBody", "(I)Z"⟩, 14) := ⟨⟨by decide +kernel, by decide +kernel⟩, List.mem_of_getElem? (i := 10) (by decide +kernel), List.mem_of_getElem? (i := 165) (by decide +kernel), List.mem_of_getElem? (i := 166) (by decide +kernel)⟩
theorem lw_p1 : lw_okq (⟨"OscillatorRow", "fitFineness", "(I)V"⟩, 14) := ⟨⟨by decide +kernel, by decide +kernel⟩, List.mem_of_getElem? (i := 10) (by decide +kernel), List.mem_of_getElem? (i := 202) (by decide +kernel), List.mem_of_getElem? (i := 203) (by decide +kernel)⟩
theorem lw_p2 : lw_okq (⟨"OscillatorRow", "fits", "(II)Z"⟩, 14) := ⟨⟨by decide +kernel, by decide +kernel⟩, List.mem_of_getElem? (i := 10) (by decide +kernel), List.mem_of_getElem? (i := 209) (by decide +kernel), List.mem_of_getElem? (i := 210) (by decide +kernel)⟩
theorem lw_p3 : lw_okq (⟨"OscillatorRow", "tryUntilGood", "()J"⟩, 14) := ⟨⟨by decide +kernel, by decide +kernel⟩, List.mem_of_getElem? (i := 10) (by decide +kernel), List.mem_of_getElem? (i := 213) (by decide +kernel), List.mem_of_getElem? (i := 214) (by decide +kernel)⟩
theorem lw_p4 : lw_okq (⟨"OscillatorRow", "errorOfTry", "()J"⟩, 14) := ⟨⟨by decide +kernel, by decide +kernel⟩, List.mem_of_getElem? (i := 10) (by decide +kernel), List.mem_of_getElem? (i := 217) (by decide +kernel), List.mem_of_getElem? (i := 218) (by decide +kernel)⟩
theorem lw_p5 : lw_okq (⟨"OscillatorRow$Springs", "changeSpeeds", "(LOscillatorRow$Motion;I)Z"⟩, 5) := ⟨⟨by decide +kernel, by decide +kernel⟩, List.mem_of_getElem? (i := 24) (by decide +kernel), List.mem_of_getElem? (i := 232) (by decide +kernel), List.mem_of_getElem? (i := 233) (by decide +kernel)⟩
theorem lw_p6 : lw_okq (⟨"OscillatorRow$Springs", "changePlaces", "(LOscillatorRow$Motion;I)Z"⟩, 5) := ⟨⟨by decide +kernel, by decide +kernel⟩, List.mem_of_getElem? (i := 24) (by decide +kernel), List.mem_of_getElem? (i := 248) (by decide +kernel), List.mem_of_getElem? (i := 249) (by decide +kernel)⟩
theorem lw_p7 : lw_okq (⟨"OscillatorRow", "takeStride", "(IJ)V"⟩, 14) := ⟨⟨by decide +kernel, by decide +kernel⟩, List.mem_of_getElem? (i := 10) (by decide +kernel), List.mem_of_getElem? (i := 263) (by decide +kernel), List.mem_of_getElem? (i := 264) (by decide +kernel)⟩
theorem lw_p8 : lw_okq (⟨"OscillatorRow", "lookAtWatches", "(I)Z"⟩, 14) := ⟨⟨by decide +kernel, by decide +kernel⟩, List.mem_of_getElem? (i := 10) (by decide +kernel), List.mem_of_getElem? (i := 268) (by decide +kernel), List.mem_of_getElem? (i := 269) (by decide +kernel)⟩
theorem lw_p9 : lw_okq (⟨"OscillatorRow", "watchesSet", "()I"⟩, 14) := ⟨⟨by decide +kernel, by decide +kernel⟩, List.mem_of_getElem? (i := 10) (by decide +kernel), List.mem_of_getElem? (i := 324) (by decide +kernel), List.mem_of_getElem? (i := 325) (by decide +kernel)⟩
theorem lw_p10 : lw_okq (⟨"OscillatorRowModel", "no", "(I)Z"⟩, 22) := ⟨⟨by decide +kernel, by decide +kernel⟩, List.mem_of_getElem? (i := 332) (by decide +kernel), List.mem_of_getElem? (i := 410) (by decide +kernel), List.mem_of_getElem? (i := 411) (by decide +kernel)⟩
theorem lw_p11 : lw_okq (⟨"OscillatorRowModel", "off", "(II)Z"⟩, 22) := ⟨⟨by decide +kernel, by decide +kernel⟩, List.mem_of_getElem? (i := 332) (by decide +kernel), List.mem_of_getElem? (i := 423) (by decide +kernel), List.mem_of_getElem? (i := 424) (by decide +kernel)⟩
theorem lw_p12 : lw_okq (⟨"OscillatorRowModel", "stride", "(I)Z"⟩, 22) := ⟨⟨by decide +kernel, by decide +kernel⟩, List.mem_of_getElem? (i := 332) (by decide +kernel), List.mem_of_getElem? (i := 444) (by decide +kernel), List.mem_of_getElem? (i := 445) (by decide +kernel)⟩
theorem lw_p13 : lw_okq (⟨"OscillatorRowModel", "ticks", "()I"⟩, 22) := ⟨⟨by decide +kernel, by decide +kernel⟩, List.mem_of_getElem? (i := 332) (by decide +kernel), List.mem_of_getElem? (i := 448) (by decide +kernel), List.mem_of_getElem? (i := 449) (by decide +kernel)⟩
theorem lw_p14 : lw_okq (⟨"OscillatorRowModel", "copy", "(II)V"⟩, 22) := ⟨⟨by decide +kernel, by decide +kernel⟩, List.mem_of_getElem? (i := 332) (by decide +kernel), List.mem_of_getElem? (i := 452) (by decide +kernel), List.mem_of_getElem? (i := 453) (by decide +kernel)⟩
theorem lw_p15 : lw_okq (⟨"OscillatorRowModel", "step", "(II)Z"⟩, 22) := ⟨⟨by decide +kernel, by decide +kernel⟩, List.mem_of_getElem? (i := 332) (by decide +kernel), List.mem_of_getElem? (i := 456) (by decide +kernel), List.mem_of_getElem? (i := 457) (by decide +kernel)⟩
def lw_privs_1 : List (MethodName × Nat) := [(⟨"OscillatorRow", "isBody", "(I)Z"⟩, 14), (⟨"OscillatorRow", "fitFineness", "(I)V"⟩, 14), (⟨"OscillatorRow", "fits", "(II)Z"⟩, 14), (⟨"OscillatorRow", "tryUntilGood", "()J"⟩, 14), (⟨"OscillatorRow", "errorOfTry", "()J"⟩, 14), (⟨"OscillatorRow$Springs", "changeSpeeds", "(LOscillatorRow$Motion;I)Z"⟩, 5), (⟨"OscillatorRow$Springs", "changePlaces", "(LOscillatorRow$Motion;I)Z"⟩, 5), (⟨"OscillatorRow", "takeStride", "(IJ)V"⟩, 14), (⟨"OscillatorRow", "lookAtWatches", "(I)Z"⟩, 14), (⟨"OscillatorRow", "watchesSet", "()I"⟩, 14), (⟨"OscillatorRowModel", "no", "(I)Z"⟩, 22), (⟨"OscillatorRowModel", "off", "(II)Z"⟩, 22), (⟨"OscillatorRowModel", "stride", "(I)Z"⟩, 22), (⟨"OscillatorRowModel", "ticks", "()I"⟩, 22), (⟨"OscillatorRowModel", "copy", "(II)V"⟩, 22), (⟨"OscillatorRowModel", "step", "(II)Z"⟩, 22)]
theorem lw_r1 : ∀ q ∈ lw_privs_1, lw_okq q := List.forall_mem_cons.mpr ⟨lw_p0, List.forall_mem_cons.mpr ⟨lw_p1, List.forall_mem_cons.mpr ⟨lw_p2, List.forall_mem_cons.mpr ⟨lw_p3, List.forall_mem_cons.mpr ⟨lw_p4, List.forall_mem_cons.mpr ⟨lw_p5, List.forall_mem_cons.mpr ⟨lw_p6, List.forall_mem_cons.mpr ⟨lw_p7, List.forall_mem_cons.mpr ⟨lw_p8, List.forall_mem_cons.mpr ⟨lw_p9, List.forall_mem_cons.mpr ⟨lw_p10, List.forall_mem_cons.mpr ⟨lw_p11, List.forall_mem_cons.mpr ⟨lw_p12, List.forall_mem_cons.mpr ⟨lw_p13, List.forall_mem_cons.mpr ⟨lw_p14, List.forall_mem_cons.mpr ⟨lw_p15, fun _ h => absurd h List.not_mem_nil⟩⟩⟩⟩⟩⟩⟩⟩⟩⟩⟩⟩⟩⟩⟩⟩
theorem lw_p16 : lw_okq (⟨"OscillatorRowModel", "pushIn", "(IIJ)J"⟩, 22) := ⟨⟨by decide +kernel, by decide +kernel⟩, List.mem_of_getElem? (i := 332) (by decide +kernel), List.mem_of_getElem? (i := 460) (by decide +kernel), List.mem_of_getElem? (i := 461) (by decide +kernel)⟩
theorem lw_p17 : lw_okq (⟨"OscillatorRowModel", "kick", "(JI)J"⟩, 22) := ⟨⟨by decide +kernel, by decide +kernel⟩, List.mem_of_getElem? (i := 332) (by decide +kernel), List.mem_of_getElem? (i := 465) (by decide +kernel), List.mem_of_getElem? (i := 466) (by decide +kernel)⟩
theorem lw_p18 : lw_okq (⟨"OscillatorRowModel", "far", "(J)Z"⟩, 22) := ⟨⟨by decide +kernel, by decide +kernel⟩, List.mem_of_getElem? (i := 332) (by decide +kernel), List.mem_of_getElem? (i := 469) (by decide +kernel), List.mem_of_getElem? (i := 470) (by decide +kernel)⟩
theorem lw_p19 : lw_okq (⟨"OscillatorRowModel", "error", "()J"⟩, 22) := ⟨⟨by decide +kernel, by decide +kernel⟩, List.mem_of_getElem? (i := 332) (by decide +kernel), List.mem_of_getElem? (i := 475) (by decide +kernel), List.mem_of_getElem? (i := 476) (by decide +kernel)⟩
theorem lw_p20 : lw_okq (⟨"OscillatorRowModel", "look", "(II)Z"⟩, 22) := ⟨⟨by decide +kernel, by decide +kernel⟩, List.mem_of_getElem? (i := 332) (by decide +kernel), List.mem_of_getElem? (i := 480) (by decide +kernel), List.mem_of_getElem? (i := 481) (by decide +kernel)⟩
theorem lw_p21 : lw_okq (⟨"OscillatorRowModel", "note", "(III)V"⟩, 22) := ⟨⟨by decide +kernel, by decide +kernel⟩, List.mem_of_getElem? (i := 332) (by decide +kernel), List.mem_of_getElem? (i := 484) (by decide +kernel), List.mem_of_getElem? (i := 485) (by decide +kernel)⟩
def lw_privs_2 : List (MethodName × Nat) := [(⟨"OscillatorRowModel", "pushIn", "(IIJ)J"⟩, 22), (⟨"OscillatorRowModel", "kick", "(JI)J"⟩, 22), (⟨"OscillatorRowModel", "far", "(J)Z"⟩, 22), (⟨"OscillatorRowModel", "error", "()J"⟩, 22), (⟨"OscillatorRowModel", "look", "(II)Z"⟩, 22), (⟨"OscillatorRowModel", "note", "(III)V"⟩, 22)]
theorem lw_r2 : ∀ q ∈ lw_privs_2, lw_okq q := List.forall_mem_cons.mpr ⟨lw_p16, List.forall_mem_cons.mpr ⟨lw_p17, List.forall_mem_cons.mpr ⟨lw_p18, List.forall_mem_cons.mpr ⟨lw_p19, List.forall_mem_cons.mpr ⟨lw_p20, List.forall_mem_cons.mpr ⟨lw_p21, fun _ h => absurd h List.not_mem_nil⟩⟩⟩⟩⟩⟩
def lw_privs : List (MethodName × Nat) := lw_privs_1 ++ (lw_privs_2)
def lw_tbl : List Cond := k2_sels lw_privs ++ tables_1
theorem lw_privs_ok : ∀ q ∈ lw_privs, lw_okq q := by
  show ∀ q ∈ lw_privs_1 ++ (lw_privs_2), lw_okq q
  exact List.forall_mem_append.mpr ⟨lw_r1, lw_r2⟩
/-! Names, words by their places, decode rows: written by program out of the claim's own texts. -/
def wg : List Cond := lw_tbl.filter goodWord
def isN : Cond → Bool
  | .fieldLinkNest .. => true
  | .methodLinkNest .. => true
  | .arrayOver (.object _) => true
  | _ => false
def wn : List Cond := tables_1.filter isN
theorem wm {w : Cond} (i : Nat) (h : tables_1[i]? = some w) (g : goodWord w = true) : w ∈ wg := List.mem_filter.mpr ⟨List.mem_append_right _ (List.mem_of_getElem? h), g⟩
theorem wq {w : Cond} (i : Nat) (h : (k2_sels lw_privs)[i]? = some w) (g : goodWord w = true) : w ∈ wg := List.mem_filter.mpr ⟨List.mem_append_left _ (List.mem_of_getElem? h), g⟩
theorem wj {w : Cond} (i : Nat) (h : tables_1[i]? = some w) (g : isN w = true) : w ∈ wn := List.mem_filter.mpr ⟨List.mem_of_getElem? h, g⟩
theorem k_0 : (Jvm.Cond.initialized "OscillatorRowLaw") ∈ wg := wm 0 (by decide +kernel) (by decide +kernel)
theorem k_1 : (Jvm.Cond.initialized "OscillatorRow") ∈ wg := wm 1 (by decide +kernel) (by decide +kernel)
theorem k_2 : (Jvm.Cond.initialized "java/lang/Math") ∈ wg := wm 2 (by decide +kernel) (by decide +kernel)
theorem k_3 : (Jvm.Cond.initialized "OscillatorRow$Springs") ∈ wg := wm 3 (by decide +kernel) (by decide +kernel)
theorem k_4 : (Jvm.Cond.initialized "OscillatorRow$Motion") ∈ wg := wm 4 (by decide +kernel) (by decide +kernel)
theorem k_5 : (Jvm.Cond.initialized "OscillatorRow$Watch") ∈ wg := wm 5 (by decide +kernel) (by decide +kernel)
theorem k_6 : (Jvm.Cond.initialized "OscillatorRow$Hits") ∈ wg := wm 6 (by decide +kernel) (by decide +kernel)
theorem k_7 : (Jvm.Cond.initialized "OscillatorRowModel") ∈ wg := wm 7 (by decide +kernel) (by decide +kernel)
theorem k_8 : (Jvm.Cond.initialized "java/lang/System") ∈ wg := wm 8 (by decide +kernel) (by decide +kernel)
theorem k_9 : (Jvm.Cond.classLink "OscillatorRowLaw" (7 : Nat) "OscillatorRow") ∈ wg := wm 9 (by decide +kernel) (by decide +kernel)
theorem k_10 : (Jvm.Cond.instantiable "OscillatorRow" (14 : Nat)) ∈ wg := wm 10 (by decide +kernel) (by decide +kernel)
theorem k_11 : (Jvm.Cond.methodLink "OscillatorRowLaw" (15 : Nat) ({ cls := "OscillatorRow", name := "<init>", desc := "(I)V" } : Jvm.MethodName)) ∈ wg := wm 11 (by decide +kernel) (by decide +kernel)
theorem k_12 : (Jvm.Cond.instanceMethod ({ cls := "OscillatorRow", name := "<init>", desc := "(I)V" } : Jvm.MethodName)) ∈ wg := wm 12 (by decide +kernel) (by decide +kernel)
theorem k_13 : (Jvm.Cond.code ({ cls := "OscillatorRow", name := "<init>", desc := "(I)V" } : Jvm.MethodName) prog_1_method_1_code (3 : Nat) (Option.none : Option Jvm.ClassFile.FieldType)) ∈ wg := wm 13 (by decide +kernel) (by decide +kernel)
theorem k_14 : (Jvm.Cond.methodLink "OscillatorRow" (1 : Nat) ({ cls := "java/lang/Object", name := "<init>", desc := "()V" } : Jvm.MethodName)) ∈ wg := wm 14 (by decide +kernel) (by decide +kernel)
theorem k_15 : (Jvm.Cond.instanceMethod ({ cls := "java/lang/Object", name := "<init>", desc := "()V" } : Jvm.MethodName)) ∈ wg := wm 15 (by decide +kernel) (by decide +kernel)
theorem k_16 : (Jvm.Cond.code ({ cls := "java/lang/Object", name := "<init>", desc := "()V" } : Jvm.MethodName) object_method_1_code (1 : Nat) (Option.none : Option Jvm.ClassFile.FieldType)) ∈ wg := wm 16 (by decide +kernel) (by decide +kernel)
theorem k_17 : (Jvm.Cond.methodLink "OscillatorRow" (9 : Nat) ({ cls := "java/lang/Math", name := "min", desc := "(II)I" } : Jvm.MethodName)) ∈ wg := wm 17 (by decide +kernel) (by decide +kernel)
theorem k_18 : (Jvm.Cond.static ({ cls := "java/lang/Math", name := "min", desc := "(II)I" } : Jvm.MethodName)) ∈ wg := wm 18 (by decide +kernel) (by decide +kernel)
theorem k_19 : (Jvm.Cond.code ({ cls := "java/lang/Math", name := "min", desc := "(II)I" } : Jvm.MethodName) prog_8_method_69_code (2 : Nat) (Option.some Jvm.ClassFile.FieldType.int)) ∈ wg := wm 19 (by decide +kernel) (by decide +kernel)
theorem k_20 : (Jvm.Cond.methodLink "OscillatorRow" (15 : Nat) ({ cls := "java/lang/Math", name := "max", desc := "(II)I" } : Jvm.MethodName)) ∈ wg := wm 20 (by decide +kernel) (by decide +kernel)
theorem k_21 : (Jvm.Cond.static ({ cls := "java/lang/Math", name := "max", desc := "(II)I" } : Jvm.MethodName)) ∈ wg := wm 21 (by decide +kernel) (by decide +kernel)
theorem k_22 : (Jvm.Cond.code ({ cls := "java/lang/Math", name := "max", desc := "(II)I" } : Jvm.MethodName) prog_8_method_65_code (2 : Nat) (Option.some Jvm.ClassFile.FieldType.int)) ∈ wg := wm 22 (by decide +kernel) (by decide +kernel)
theorem k_23 : (Jvm.Cond.classLink "OscillatorRow" (22 : Nat) "OscillatorRow$Springs") ∈ wg := wm 23 (by decide +kernel) (by decide +kernel)
theorem k_24 : (Jvm.Cond.instantiable "OscillatorRow$Springs" (5 : Nat)) ∈ wg := wm 24 (by decide +kernel) (by decide +kernel)
theorem k_25 : (Jvm.Cond.methodLink "OscillatorRow" (24 : Nat) ({ cls := "OscillatorRow$Springs", name := "<init>", desc := "(I)V" } : Jvm.MethodName)) ∈ wg := wm 25 (by decide +kernel) (by decide +kernel)
theorem k_26 : (Jvm.Cond.instanceMethod ({ cls := "OscillatorRow$Springs", name := "<init>", desc := "(I)V" } : Jvm.MethodName)) ∈ wg := wm 26 (by decide +kernel) (by decide +kernel)
theorem k_27 : (Jvm.Cond.code ({ cls := "OscillatorRow$Springs", name := "<init>", desc := "(I)V" } : Jvm.MethodName) prog_4_method_1_code (2 : Nat) (Option.none : Option Jvm.ClassFile.FieldType)) ∈ wg := wm 27 (by decide +kernel) (by decide +kernel)
theorem k_28 : (Jvm.Cond.methodLink "OscillatorRow$Springs" (1 : Nat) ({ cls := "java/lang/Object", name := "<init>", desc := "()V" } : Jvm.MethodName)) ∈ wg := wm 28 (by decide +kernel) (by decide +kernel)
theorem k_29 : (Jvm.Cond.fieldLink "OscillatorRow$Springs" (7 : Nat) "OscillatorRow$Springs" "bodies" "I") ∈ wg := wm 29 (by decide +kernel) (by decide +kernel)
theorem k_30 : (Jvm.Cond.fieldLink "OscillatorRow$Springs" (13 : Nat) "OscillatorRow$Springs" "stiffnesses" "[I") ∈ wg := wm 30 (by decide +kernel) (by decide +kernel)
theorem j_31 : (Jvm.Cond.fieldLinkNest "OscillatorRow" (71 : Nat) "OscillatorRow$Springs" "stiffnesses" "[I" "OscillatorRow") ∈ wn := wj 31 (by decide +kernel) rfl
theorem k_32 : (Jvm.Cond.fieldLink "OscillatorRow$Springs" (17 : Nat) "OscillatorRow$Springs" "drags" "[I") ∈ wg := wm 32 (by decide +kernel) (by decide +kernel)
theorem j_33 : (Jvm.Cond.fieldLinkNest "OscillatorRow" (75 : Nat) "OscillatorRow$Springs" "drags" "[I" "OscillatorRow") ∈ wn := wj 33 (by decide +kernel) rfl
theorem k_34 : (Jvm.Cond.fieldLink "OscillatorRow$Springs" (20 : Nat) "OscillatorRow$Springs" "links" "[I") ∈ wg := wm 34 (by decide +kernel) (by decide +kernel)
theorem j_35 : (Jvm.Cond.fieldLinkNest "OscillatorRow" (78 : Nat) "OscillatorRow$Springs" "links" "[I" "OscillatorRow") ∈ wn := wj 35 (by decide +kernel) rfl
theorem k_36 : (Jvm.Cond.fieldLink "OscillatorRow$Springs" (23 : Nat) "OscillatorRow$Springs" "forces" "[I") ∈ wg := wm 36 (by decide +kernel) (by decide +kernel)
theorem j_37 : (Jvm.Cond.fieldLinkNest "OscillatorRow" (91 : Nat) "OscillatorRow$Springs" "forces" "[I" "OscillatorRow") ∈ wn := wj 37 (by decide +kernel) rfl
theorem k_49 : (Jvm.Cond.arrayClass Jvm.ClassFile.FieldType.int) ∈ wg := wm 49 (by decide +kernel) (by decide +kernel)
theorem k_50 : (Jvm.Cond.classLink "OscillatorRow" (31 : Nat) "OscillatorRow$Motion") ∈ wg := wm 50 (by decide +kernel) (by decide +kernel)
theorem k_51 : (Jvm.Cond.instantiable "OscillatorRow$Motion" (2 : Nat)) ∈ wg := wm 51 (by decide +kernel) (by decide +kernel)
theorem k_52 : (Jvm.Cond.methodLink "OscillatorRow" (33 : Nat) ({ cls := "OscillatorRow$Motion", name := "<init>", desc := "(I)V" } : Jvm.MethodName)) ∈ wg := wm 52 (by decide +kernel) (by decide +kernel)
theorem k_53 : (Jvm.Cond.instanceMethod ({ cls := "OscillatorRow$Motion", name := "<init>", desc := "(I)V" } : Jvm.MethodName)) ∈ wg := wm 53 (by decide +kernel) (by decide +kernel)
theorem k_54 : (Jvm.Cond.code ({ cls := "OscillatorRow$Motion", name := "<init>", desc := "(I)V" } : Jvm.MethodName) prog_3_method_1_code (2 : Nat) (Option.none : Option Jvm.ClassFile.FieldType)) ∈ wg := wm 54 (by decide +kernel) (by decide +kernel)
theorem k_55 : (Jvm.Cond.methodLink "OscillatorRow$Motion" (1 : Nat) ({ cls := "java/lang/Object", name := "<init>", desc := "()V" } : Jvm.MethodName)) ∈ wg := wm 55 (by decide +kernel) (by decide +kernel)
theorem k_56 : (Jvm.Cond.fieldLink "OscillatorRow$Motion" (7 : Nat) "OscillatorRow$Motion" "places" "[J") ∈ wg := wm 56 (by decide +kernel) (by decide +kernel)
theorem j_57 : (Jvm.Cond.fieldLinkNest "OscillatorRow$Springs" (26 : Nat) "OscillatorRow$Motion" "places" "[J" "OscillatorRow") ∈ wn := wj 57 (by decide +kernel) rfl
theorem j_58 : (Jvm.Cond.fieldLinkNest "OscillatorRow" (84 : Nat) "OscillatorRow$Motion" "places" "[J" "OscillatorRow") ∈ wn := wj 58 (by decide +kernel) rfl
theorem k_59 : (Jvm.Cond.fieldLink "OscillatorRow$Motion" (13 : Nat) "OscillatorRow$Motion" "speeds" "[J") ∈ wg := wm 59 (by decide +kernel) (by decide +kernel)
theorem j_60 : (Jvm.Cond.fieldLinkNest "OscillatorRow$Springs" (32 : Nat) "OscillatorRow$Motion" "speeds" "[J" "OscillatorRow") ∈ wn := wj 60 (by decide +kernel) rfl
theorem j_61 : (Jvm.Cond.fieldLinkNest "OscillatorRow" (88 : Nat) "OscillatorRow$Motion" "speeds" "[J" "OscillatorRow") ∈ wn := wj 61 (by decide +kernel) rfl
theorem k_67 : (Jvm.Cond.arrayClass Jvm.ClassFile.FieldType.long) ∈ wg := wm 67 (by decide +kernel) (by decide +kernel)
theorem k_68 : (Jvm.Cond.classLink "OscillatorRow" (47 : Nat) "OscillatorRow$Watch") ∈ wg := wm 68 (by decide +kernel) (by decide +kernel)
theorem j_69 : (Jvm.Cond.arrayOver (Jvm.ClassFile.FieldType.object "OscillatorRow$Watch")) ∈ wn := wj 69 (by decide +kernel) rfl
theorem k_70 : (Jvm.Cond.instantiable "OscillatorRow$Watch" (4 : Nat)) ∈ wg := wm 70 (by decide +kernel) (by decide +kernel)
theorem j_71 : (Jvm.Cond.methodLinkNest "OscillatorRow" (53 : Nat) ({ cls := "OscillatorRow$Watch", name := "<init>", desc := "()V" } : Jvm.MethodName) "OscillatorRow") ∈ wn := wj 71 (by decide +kernel) rfl
theorem k_72 : (Jvm.Cond.instanceMethod ({ cls := "OscillatorRow$Watch", name := "<init>", desc := "()V" } : Jvm.MethodName)) ∈ wg := wm 72 (by decide +kernel) (by decide +kernel)
theorem k_73 : (Jvm.Cond.code ({ cls := "OscillatorRow$Watch", name := "<init>", desc := "()V" } : Jvm.MethodName) prog_5_method_1_code (1 : Nat) (Option.none : Option Jvm.ClassFile.FieldType)) ∈ wg := wm 73 (by decide +kernel) (by decide +kernel)
theorem k_74 : (Jvm.Cond.methodLink "OscillatorRow$Watch" (3 : Nat) ({ cls := "java/lang/Object", name := "<init>", desc := "()V" } : Jvm.MethodName)) ∈ wg := wm 74 (by decide +kernel) (by decide +kernel)
theorem j_75 : (Jvm.Cond.fieldLinkNest "OscillatorRow" (95 : Nat) "OscillatorRow$Watch" "watched" "I" "OscillatorRow") ∈ wn := wj 75 (by decide +kernel) rfl
theorem k_76 : (Jvm.Cond.fieldLink "OscillatorRow$Watch" (23 : Nat) "OscillatorRow$Watch" "level" "J") ∈ wg := wm 76 (by decide +kernel) (by decide +kernel)
theorem j_77 : (Jvm.Cond.fieldLinkNest "OscillatorRow" (98 : Nat) "OscillatorRow$Watch" "level" "J" "OscillatorRow") ∈ wn := wj 77 (by decide +kernel) rfl
theorem k_78 : (Jvm.Cond.fieldLink "OscillatorRow$Watch" (19 : Nat) "OscillatorRow$Watch" "up" "Z") ∈ wg := wm 78 (by decide +kernel) (by decide +kernel)
theorem j_79 : (Jvm.Cond.fieldLinkNest "OscillatorRow" (102 : Nat) "OscillatorRow$Watch" "up" "Z" "OscillatorRow") ∈ wn := wj 79 (by decide +kernel) rfl
theorem k_80 : (Jvm.Cond.fieldLink "OscillatorRow$Watch" (9 : Nat) "OscillatorRow$Watch" "action" "I") ∈ wg := wm 80 (by decide +kernel) (by decide +kernel)
theorem j_81 : (Jvm.Cond.fieldLinkNest "OscillatorRow" (106 : Nat) "OscillatorRow$Watch" "action" "I" "OscillatorRow") ∈ wn := wj 81 (by decide +kernel) rfl
theorem k_91 : (Jvm.Cond.classLink "OscillatorRow" (54 : Nat) "OscillatorRow$Hits") ∈ wg := wm 91 (by decide +kernel) (by decide +kernel)
theorem k_92 : (Jvm.Cond.instantiable "OscillatorRow$Hits" (5 : Nat)) ∈ wg := wm 92 (by decide +kernel) (by decide +kernel)
theorem j_93 : (Jvm.Cond.methodLinkNest "OscillatorRow" (56 : Nat) ({ cls := "OscillatorRow$Hits", name := "<init>", desc := "()V" } : Jvm.MethodName) "OscillatorRow") ∈ wn := wj 93 (by decide +kernel) rfl
theorem k_94 : (Jvm.Cond.instanceMethod ({ cls := "OscillatorRow$Hits", name := "<init>", desc := "()V" } : Jvm.MethodName)) ∈ wg := wm 94 (by decide +kernel) (by decide +kernel)
theorem k_95 : (Jvm.Cond.code ({ cls := "OscillatorRow$Hits", name := "<init>", desc := "()V" } : Jvm.MethodName) prog_2_method_1_code (1 : Nat) (Option.none : Option Jvm.ClassFile.FieldType)) ∈ wg := wm 95 (by decide +kernel) (by decide +kernel)
theorem k_96 : (Jvm.Cond.methodLink "OscillatorRow$Hits" (1 : Nat) ({ cls := "java/lang/Object", name := "<init>", desc := "()V" } : Jvm.MethodName)) ∈ wg := wm 96 (by decide +kernel) (by decide +kernel)
theorem k_97 : (Jvm.Cond.fieldLink "OscillatorRow$Hits" (9 : Nat) "OscillatorRow$Hits" "byWatch" "[I") ∈ wg := wm 97 (by decide +kernel) (by decide +kernel)
theorem j_98 : (Jvm.Cond.fieldLinkNest "OscillatorRow" (142 : Nat) "OscillatorRow$Hits" "byWatch" "[I" "OscillatorRow") ∈ wn := wj 98 (by decide +kernel) rfl
theorem k_99 : (Jvm.Cond.fieldLink "OscillatorRow$Hits" (13 : Nat) "OscillatorRow$Hits" "atTime" "[I") ∈ wg := wm 99 (by decide +kernel) (by decide +kernel)
theorem j_100 : (Jvm.Cond.fieldLinkNest "OscillatorRow" (145 : Nat) "OscillatorRow$Hits" "atTime" "[I" "OscillatorRow") ∈ wn := wj 100 (by decide +kernel) rfl
theorem k_101 : (Jvm.Cond.fieldLink "OscillatorRow$Hits" (16 : Nat) "OscillatorRow$Hits" "withSpeed" "[I") ∈ wg := wm 101 (by decide +kernel) (by decide +kernel)
theorem j_102 : (Jvm.Cond.fieldLinkNest "OscillatorRow" (148 : Nat) "OscillatorRow$Hits" "withSpeed" "[I" "OscillatorRow") ∈ wn := wj 102 (by decide +kernel) rfl
theorem k_103 : (Jvm.Cond.fieldLink "OscillatorRow$Hits" (19 : Nat) "OscillatorRow$Hits" "kept" "I") ∈ wg := wm 103 (by decide +kernel) (by decide +kernel)
theorem k_104 : (Jvm.Cond.fieldLink "OscillatorRow$Hits" (23 : Nat) "OscillatorRow$Hits" "counted" "I") ∈ wg := wm 104 (by decide +kernel) (by decide +kernel)
theorem j_105 : (Jvm.Cond.fieldLinkNest "OscillatorRow" (151 : Nat) "OscillatorRow$Hits" "counted" "I" "OscillatorRow") ∈ wn := wj 105 (by decide +kernel) rfl
theorem k_117 : (Jvm.Cond.fieldLink "OscillatorRow" (18 : Nat) "OscillatorRow" "bodies" "I") ∈ wg := wm 117 (by decide +kernel) (by decide +kernel)
theorem k_118 : (Jvm.Cond.fieldLink "OscillatorRow" (27 : Nat) "OscillatorRow" "springs" "LOscillatorRow$Springs;") ∈ wg := wm 118 (by decide +kernel) (by decide +kernel)
theorem k_119 : (Jvm.Cond.fieldLink "OscillatorRow" (34 : Nat) "OscillatorRow" "now" "LOscillatorRow$Motion;") ∈ wg := wm 119 (by decide +kernel) (by decide +kernel)
theorem k_120 : (Jvm.Cond.fieldLink "OscillatorRow" (38 : Nat) "OscillatorRow" "before" "LOscillatorRow$Motion;") ∈ wg := wm 120 (by decide +kernel) (by decide +kernel)
theorem k_121 : (Jvm.Cond.fieldLink "OscillatorRow" (41 : Nat) "OscillatorRow" "coarse" "LOscillatorRow$Motion;") ∈ wg := wm 121 (by decide +kernel) (by decide +kernel)
theorem k_122 : (Jvm.Cond.fieldLink "OscillatorRow" (44 : Nat) "OscillatorRow" "fine" "LOscillatorRow$Motion;") ∈ wg := wm 122 (by decide +kernel) (by decide +kernel)
theorem k_123 : (Jvm.Cond.fieldLink "OscillatorRow" (49 : Nat) "OscillatorRow" "watches" "[LOscillatorRow$Watch;") ∈ wg := wm 123 (by decide +kernel) (by decide +kernel)
theorem k_124 : (Jvm.Cond.fieldLink "OscillatorRow" (57 : Nat) "OscillatorRow" "hits" "LOscillatorRow$Hits;") ∈ wg := wm 124 (by decide +kernel) (by decide +kernel)
theorem k_125 : (Jvm.Cond.fieldLink "OscillatorRow" (61 : Nat) "OscillatorRow" "allowedError" "I") ∈ wg := wm 125 (by decide +kernel) (by decide +kernel)
theorem k_126 : (Jvm.Cond.fieldLink "OscillatorRow" (157 : Nat) "OscillatorRow" "time" "I") ∈ wg := wm 126 (by decide +kernel) (by decide +kernel)
theorem k_127 : (Jvm.Cond.fieldLink "OscillatorRow" (118 : Nat) "OscillatorRow" "fineness" "I") ∈ wg := wm 127 (by decide +kernel) (by decide +kernel)
theorem k_128 : (Jvm.Cond.fieldLink "OscillatorRow" (160 : Nat) "OscillatorRow" "strides" "I") ∈ wg := wm 128 (by decide +kernel) (by decide +kernel)
theorem k_129 : (Jvm.Cond.fieldLink "OscillatorRow" (163 : Nat) "OscillatorRow" "rejected" "I") ∈ wg := wm 129 (by decide +kernel) (by decide +kernel)
theorem k_130 : (Jvm.Cond.fieldLink "OscillatorRow" (166 : Nat) "OscillatorRow" "latestError" "J") ∈ wg := wm 130 (by decide +kernel) (by decide +kernel)
theorem k_160 : (Jvm.Cond.methodLink "OscillatorRowLaw" (21 : Nat) ({ cls := "OscillatorRow", name := "body", desc := "(III)I" } : Jvm.MethodName)) ∈ wg := wm 160 (by decide +kernel) (by decide +kernel)
theorem k_161 : (Jvm.Cond.instanceMethod ({ cls := "OscillatorRow", name := "body", desc := "(III)I" } : Jvm.MethodName)) ∈ wg := wm 161 (by decide +kernel) (by decide +kernel)
theorem k_162 : (Jvm.Cond.selects "OscillatorRow" ({ cls := "OscillatorRow", name := "body", desc := "(III)I" } : Jvm.MethodName) ({ cls := "OscillatorRow", name := "body", desc := "(III)I" } : Jvm.MethodName)) ∈ wg := wm 162 (by decide +kernel) (by decide +kernel)
theorem k_163 : (Jvm.Cond.code ({ cls := "OscillatorRow", name := "body", desc := "(III)I" } : Jvm.MethodName) prog_1_method_2_code (4 : Nat) (Option.some Jvm.ClassFile.FieldType.int)) ∈ wg := wm 163 (by decide +kernel) (by decide +kernel)
theorem k_164 : (Jvm.Cond.methodLink "OscillatorRow" (64 : Nat) ({ cls := "OscillatorRow", name := "isBody", desc := "(I)Z" } : Jvm.MethodName)) ∈ wg := wm 164 (by decide +kernel) (by decide +kernel)
theorem k_166 : (Jvm.Cond.instanceMethod ({ cls := "OscillatorRow", name := "isBody", desc := "(I)Z" } : Jvm.MethodName)) ∈ wg := wm 166 (by decide +kernel) (by decide +kernel)
theorem k_167 : (Jvm.Cond.code ({ cls := "OscillatorRow", name := "isBody", desc := "(I)Z" } : Jvm.MethodName) prog_1_method_15_code (2 : Nat) (Option.some Jvm.ClassFile.FieldType.boolean)) ∈ wg := wm 167 (by decide +kernel) (by decide +kernel)
theorem k_168 : (Jvm.Cond.methodLink "OscillatorRow" (68 : Nat) ({ cls := "OscillatorRow", name := "isSixteenths", desc := "(I)Z" } : Jvm.MethodName)) ∈ wg := wm 168 (by decide +kernel) (by decide +kernel)
theorem k_169 : (Jvm.Cond.static ({ cls := "OscillatorRow", name := "isSixteenths", desc := "(I)Z" } : Jvm.MethodName)) ∈ wg := wm 169 (by decide +kernel) (by decide +kernel)
theorem k_170 : (Jvm.Cond.code ({ cls := "OscillatorRow", name := "isSixteenths", desc := "(I)Z" } : Jvm.MethodName) prog_1_method_16_code (1 : Nat) (Option.some Jvm.ClassFile.FieldType.boolean)) ∈ wg := wm 170 (by decide +kernel) (by decide +kernel)
theorem k_171 : (Jvm.Cond.methodLink "OscillatorRowLaw" (26 : Nat) ({ cls := "OscillatorRow", name := "link", desc := "(II)I" } : Jvm.MethodName)) ∈ wg := wm 171 (by decide +kernel) (by decide +kernel)
theorem k_172 : (Jvm.Cond.instanceMethod ({ cls := "OscillatorRow", name := "link", desc := "(II)I" } : Jvm.MethodName)) ∈ wg := wm 172 (by decide +kernel) (by decide +kernel)
theorem k_173 : (Jvm.Cond.selects "OscillatorRow" ({ cls := "OscillatorRow", name := "link", desc := "(II)I" } : Jvm.MethodName) ({ cls := "OscillatorRow", name := "link", desc := "(II)I" } : Jvm.MethodName)) ∈ wg := wm 173 (by decide +kernel) (by decide +kernel)
theorem k_174 : (Jvm.Cond.code ({ cls := "OscillatorRow", name := "link", desc := "(II)I" } : Jvm.MethodName) prog_1_method_3_code (3 : Nat) (Option.some Jvm.ClassFile.FieldType.int)) ∈ wg := wm 174 (by decide +kernel) (by decide +kernel)
theorem k_175 : (Jvm.Cond.methodLink "OscillatorRowLaw" (31 : Nat) ({ cls := "OscillatorRow", name := "set", desc := "(III)I" } : Jvm.MethodName)) ∈ wg := wm 175 (by decide +kernel) (by decide +kernel)
theorem k_176 : (Jvm.Cond.instanceMethod ({ cls := "OscillatorRow", name := "set", desc := "(III)I" } : Jvm.MethodName)) ∈ wg := wm 176 (by decide +kernel) (by decide +kernel)
theorem k_177 : (Jvm.Cond.selects "OscillatorRow" ({ cls := "OscillatorRow", name := "set", desc := "(III)I" } : Jvm.MethodName) ({ cls := "OscillatorRow", name := "set", desc := "(III)I" } : Jvm.MethodName)) ∈ wg := wm 177 (by decide +kernel) (by decide +kernel)
theorem k_178 : (Jvm.Cond.code ({ cls := "OscillatorRow", name := "set", desc := "(III)I" } : Jvm.MethodName) prog_1_method_4_code (4 : Nat) (Option.some Jvm.ClassFile.FieldType.int)) ∈ wg := wm 178 (by decide +kernel) (by decide +kernel)
theorem k_179 : (Jvm.Cond.methodLink "OscillatorRow" (81 : Nat) ({ cls := "OscillatorRow", name := "isUnits", desc := "(I)Z" } : Jvm.MethodName)) ∈ wg := wm 179 (by decide +kernel) (by decide +kernel)
theorem k_180 : (Jvm.Cond.static ({ cls := "OscillatorRow", name := "isUnits", desc := "(I)Z" } : Jvm.MethodName)) ∈ wg := wm 180 (by decide +kernel) (by decide +kernel)
theorem k_181 : (Jvm.Cond.code ({ cls := "OscillatorRow", name := "isUnits", desc := "(I)Z" } : Jvm.MethodName) prog_1_method_17_code (1 : Nat) (Option.some Jvm.ClassFile.FieldType.boolean)) ∈ wg := wm 181 (by decide +kernel) (by decide +kernel)
theorem k_182 : (Jvm.Cond.constant "OscillatorRow" (173 : Nat) (-1000000000 : Int32)) ∈ wg := wm 182 (by decide +kernel) (by decide +kernel)
theorem k_183 : (Jvm.Cond.constant "OscillatorRow" (174 : Nat) (1000000000 : Int32)) ∈ wg := wm 183 (by decide +kernel) (by decide +kernel)
theorem k_184 : (Jvm.Cond.methodLink "OscillatorRowLaw" (35 : Nat) ({ cls := "OscillatorRow", name := "force", desc := "(II)I" } : Jvm.MethodName)) ∈ wg := wm 184 (by decide +kernel) (by decide +kernel)
theorem k_185 : (Jvm.Cond.instanceMethod ({ cls := "OscillatorRow", name := "force", desc := "(II)I" } : Jvm.MethodName)) ∈ wg := wm 185 (by decide +kernel) (by decide +kernel)
theorem k_186 : (Jvm.Cond.selects "OscillatorRow" ({ cls := "OscillatorRow", name := "force", desc := "(II)I" } : Jvm.MethodName) ({ cls := "OscillatorRow", name := "force", desc := "(II)I" } : Jvm.MethodName)) ∈ wg := wm 186 (by decide +kernel) (by decide +kernel)
theorem k_187 : (Jvm.Cond.code ({ cls := "OscillatorRow", name := "force", desc := "(II)I" } : Jvm.MethodName) prog_1_method_5_code (3 : Nat) (Option.some Jvm.ClassFile.FieldType.int)) ∈ wg := wm 187 (by decide +kernel) (by decide +kernel)
theorem k_188 : (Jvm.Cond.methodLink "OscillatorRowLaw" (39 : Nat) ({ cls := "OscillatorRow", name := "tolerance", desc := "(I)I" } : Jvm.MethodName)) ∈ wg := wm 188 (by decide +kernel) (by decide +kernel)
theorem k_189 : (Jvm.Cond.instanceMethod ({ cls := "OscillatorRow", name := "tolerance", desc := "(I)I" } : Jvm.MethodName)) ∈ wg := wm 189 (by decide +kernel) (by decide +kernel)
theorem k_190 : (Jvm.Cond.selects "OscillatorRow" ({ cls := "OscillatorRow", name := "tolerance", desc := "(I)I" } : Jvm.MethodName) ({ cls := "OscillatorRow", name := "tolerance", desc := "(I)I" } : Jvm.MethodName)) ∈ wg := wm 190 (by decide +kernel) (by decide +kernel)
theorem k_191 : (Jvm.Cond.code ({ cls := "OscillatorRow", name := "tolerance", desc := "(I)I" } : Jvm.MethodName) prog_1_method_6_code (2 : Nat) (Option.some Jvm.ClassFile.FieldType.int)) ∈ wg := wm 191 (by decide +kernel) (by decide +kernel)
theorem k_192 : (Jvm.Cond.constant "OscillatorRow" (94 : Nat) (1000000 : Int32)) ∈ wg := wm 192 (by decide +kernel) (by decide +kernel)
theorem k_193 : (Jvm.Cond.methodLink "OscillatorRowLaw" (44 : Nat) ({ cls := "OscillatorRow", name := "watch", desc := "(IIIZI)I" } : Jvm.MethodName)) ∈ wg := wm 193 (by decide +kernel) (by decide +kernel)
theorem k_194 : (Jvm.Cond.instanceMethod ({ cls := "OscillatorRow", name := "watch", desc := "(IIIZI)I" } : Jvm.MethodName)) ∈ wg := wm 194 (by decide +kernel) (by decide +kernel)
theorem k_195 : (Jvm.Cond.selects "OscillatorRow" ({ cls := "OscillatorRow", name := "watch", desc := "(IIIZI)I" } : Jvm.MethodName) ({ cls := "OscillatorRow", name := "watch", desc := "(IIIZI)I" } : Jvm.MethodName)) ∈ wg := wm 195 (by decide +kernel) (by decide +kernel)
theorem k_196 : (Jvm.Cond.code ({ cls := "OscillatorRow", name := "watch", desc := "(IIIZI)I" } : Jvm.MethodName) prog_1_method_7_code (7 : Nat) (Option.some Jvm.ClassFile.FieldType.int)) ∈ wg := wm 196 (by decide +kernel) (by decide +kernel)
theorem k_197 : (Jvm.Cond.methodLink "OscillatorRowLaw" (49 : Nat) ({ cls := "OscillatorRow", name := "advance", desc := "(I)I" } : Jvm.MethodName)) ∈ wg := wm 197 (by decide +kernel) (by decide +kernel)
theorem k_198 : (Jvm.Cond.instanceMethod ({ cls := "OscillatorRow", name := "advance", desc := "(I)I" } : Jvm.MethodName)) ∈ wg := wm 198 (by decide +kernel) (by decide +kernel)
theorem k_199 : (Jvm.Cond.selects "OscillatorRow" ({ cls := "OscillatorRow", name := "advance", desc := "(I)I" } : Jvm.MethodName) ({ cls := "OscillatorRow", name := "advance", desc := "(I)I" } : Jvm.MethodName)) ∈ wg := wm 199 (by decide +kernel) (by decide +kernel)
theorem k_200 : (Jvm.Cond.code ({ cls := "OscillatorRow", name := "advance", desc := "(I)I" } : Jvm.MethodName) prog_1_method_8_code (8 : Nat) (Option.some Jvm.ClassFile.FieldType.int)) ∈ wg := wm 200 (by decide +kernel) (by decide +kernel)
theorem k_201 : (Jvm.Cond.methodLink "OscillatorRow" (109 : Nat) ({ cls := "OscillatorRow", name := "fitFineness", desc := "(I)V" } : Jvm.MethodName)) ∈ wg := wm 201 (by decide +kernel) (by decide +kernel)
theorem k_203 : (Jvm.Cond.instanceMethod ({ cls := "OscillatorRow", name := "fitFineness", desc := "(I)V" } : Jvm.MethodName)) ∈ wg := wm 203 (by decide +kernel) (by decide +kernel)
theorem k_204 : (Jvm.Cond.code ({ cls := "OscillatorRow", name := "fitFineness", desc := "(I)V" } : Jvm.MethodName) prog_1_method_20_code (2 : Nat) (Option.none : Option Jvm.ClassFile.FieldType)) ∈ wg := wm 204 (by decide +kernel) (by decide +kernel)
theorem k_205 : (Jvm.Cond.methodLink "OscillatorRow" (121 : Nat) ({ cls := "OscillatorRow", name := "ticksOf", desc := "(I)I" } : Jvm.MethodName)) ∈ wg := wm 205 (by decide +kernel) (by decide +kernel)
theorem k_206 : (Jvm.Cond.static ({ cls := "OscillatorRow", name := "ticksOf", desc := "(I)I" } : Jvm.MethodName)) ∈ wg := wm 206 (by decide +kernel) (by decide +kernel)
theorem k_207 : (Jvm.Cond.code ({ cls := "OscillatorRow", name := "ticksOf", desc := "(I)I" } : Jvm.MethodName) prog_1_method_19_code (1 : Nat) (Option.some Jvm.ClassFile.FieldType.int)) ∈ wg := wm 207 (by decide +kernel) (by decide +kernel)
theorem k_208 : (Jvm.Cond.methodLink "OscillatorRow" (179 : Nat) ({ cls := "OscillatorRow", name := "fits", desc := "(II)Z" } : Jvm.MethodName)) ∈ wg := wm 208 (by decide +kernel) (by decide +kernel)
theorem k_210 : (Jvm.Cond.instanceMethod ({ cls := "OscillatorRow", name := "fits", desc := "(II)Z" } : Jvm.MethodName)) ∈ wg := wm 210 (by decide +kernel) (by decide +kernel)
theorem k_211 : (Jvm.Cond.code ({ cls := "OscillatorRow", name := "fits", desc := "(II)Z" } : Jvm.MethodName) prog_1_method_21_code (3 : Nat) (Option.some Jvm.ClassFile.FieldType.boolean)) ∈ wg := wm 211 (by decide +kernel) (by decide +kernel)
theorem k_212 : (Jvm.Cond.methodLink "OscillatorRow" (112 : Nat) ({ cls := "OscillatorRow", name := "tryUntilGood", desc := "()J" } : Jvm.MethodName)) ∈ wg := wm 212 (by decide +kernel) (by decide +kernel)
theorem k_214 : (Jvm.Cond.instanceMethod ({ cls := "OscillatorRow", name := "tryUntilGood", desc := "()J" } : Jvm.MethodName)) ∈ wg := wm 214 (by decide +kernel) (by decide +kernel)
theorem k_215 : (Jvm.Cond.code ({ cls := "OscillatorRow", name := "tryUntilGood", desc := "()J" } : Jvm.MethodName) prog_1_method_22_code (3 : Nat) (Option.some Jvm.ClassFile.FieldType.long)) ∈ wg := wm 215 (by decide +kernel) (by decide +kernel)
theorem k_216 : (Jvm.Cond.methodLink "OscillatorRow" (183 : Nat) ({ cls := "OscillatorRow", name := "errorOfTry", desc := "()J" } : Jvm.MethodName)) ∈ wg := wm 216 (by decide +kernel) (by decide +kernel)
theorem k_218 : (Jvm.Cond.instanceMethod ({ cls := "OscillatorRow", name := "errorOfTry", desc := "()J" } : Jvm.MethodName)) ∈ wg := wm 218 (by decide +kernel) (by decide +kernel)
theorem k_219 : (Jvm.Cond.code ({ cls := "OscillatorRow", name := "errorOfTry", desc := "()J" } : Jvm.MethodName) prog_1_method_23_code (2 : Nat) (Option.some Jvm.ClassFile.FieldType.long)) ∈ wg := wm 219 (by decide +kernel) (by decide +kernel)
theorem k_220 : (Jvm.Cond.methodLink "OscillatorRow" (186 : Nat) ({ cls := "OscillatorRow$Motion", name := "copyFrom", desc := "(LOscillatorRow$Motion;)V" } : Jvm.MethodName)) ∈ wg := wm 220 (by decide +kernel) (by decide +kernel)
theorem k_221 : (Jvm.Cond.instanceMethod ({ cls := "OscillatorRow$Motion", name := "copyFrom", desc := "(LOscillatorRow$Motion;)V" } : Jvm.MethodName)) ∈ wg := wm 221 (by decide +kernel) (by decide +kernel)
theorem k_222 : (Jvm.Cond.selects "OscillatorRow$Motion" ({ cls := "OscillatorRow$Motion", name := "copyFrom", desc := "(LOscillatorRow$Motion;)V" } : Jvm.MethodName) ({ cls := "OscillatorRow$Motion", name := "copyFrom", desc := "(LOscillatorRow$Motion;)V" } : Jvm.MethodName)) ∈ wg := wm 222 (by decide +kernel) (by decide +kernel)
theorem k_223 : (Jvm.Cond.code ({ cls := "OscillatorRow$Motion", name := "copyFrom", desc := "(LOscillatorRow$Motion;)V" } : Jvm.MethodName) prog_3_method_2_code (2 : Nat) (Option.none : Option Jvm.ClassFile.FieldType)) ∈ wg := wm 223 (by decide +kernel) (by decide +kernel)
theorem k_224 : (Jvm.Cond.methodLink "OscillatorRow$Motion" (16 : Nat) ({ cls := "java/lang/System", name := "arraycopy", desc := "(Ljava/lang/Object;ILjava/lang/Object;II)V" } : Jvm.MethodName)) ∈ wg := wm 224 (by decide +kernel) (by decide +kernel)
theorem k_225 : (Jvm.Cond.static ({ cls := "java/lang/System", name := "arraycopy", desc := "(Ljava/lang/Object;ILjava/lang/Object;II)V" } : Jvm.MethodName)) ∈ wg := wm 225 (by decide +kernel) (by decide +kernel)
theorem k_226 : (Jvm.Cond.native ({ cls := "java/lang/System", name := "arraycopy", desc := "(Ljava/lang/Object;ILjava/lang/Object;II)V" } : Jvm.MethodName)) ∈ wg := wm 226 (by decide +kernel) (by decide +kernel)
theorem k_227 : (Jvm.Cond.methodLink "OscillatorRow" (190 : Nat) ({ cls := "OscillatorRow$Springs", name := "step", desc := "(LOscillatorRow$Motion;I)Z" } : Jvm.MethodName)) ∈ wg := wm 227 (by decide +kernel) (by decide +kernel)
theorem k_228 : (Jvm.Cond.instanceMethod ({ cls := "OscillatorRow$Springs", name := "step", desc := "(LOscillatorRow$Motion;I)Z" } : Jvm.MethodName)) ∈ wg := wm 228 (by decide +kernel) (by decide +kernel)
theorem k_229 : (Jvm.Cond.selects "OscillatorRow$Springs" ({ cls := "OscillatorRow$Springs", name := "step", desc := "(LOscillatorRow$Motion;I)Z" } : Jvm.MethodName) ({ cls := "OscillatorRow$Springs", name := "step", desc := "(LOscillatorRow$Motion;I)Z" } : Jvm.MethodName)) ∈ wg := wm 229 (by decide +kernel) (by decide +kernel)
theorem k_230 : (Jvm.Cond.code ({ cls := "OscillatorRow$Springs", name := "step", desc := "(LOscillatorRow$Motion;I)Z" } : Jvm.MethodName) prog_4_method_3_code (3 : Nat) (Option.some Jvm.ClassFile.FieldType.boolean)) ∈ wg := wm 230 (by decide +kernel) (by decide +kernel)
theorem k_231 : (Jvm.Cond.methodLink "OscillatorRow$Springs" (35 : Nat) ({ cls := "OscillatorRow$Springs", name := "changeSpeeds", desc := "(LOscillatorRow$Motion;I)Z" } : Jvm.MethodName)) ∈ wg := wm 231 (by decide +kernel) (by decide +kernel)
theorem k_233 : (Jvm.Cond.instanceMethod ({ cls := "OscillatorRow$Springs", name := "changeSpeeds", desc := "(LOscillatorRow$Motion;I)Z" } : Jvm.MethodName)) ∈ wg := wm 233 (by decide +kernel) (by decide +kernel)
theorem k_234 : (Jvm.Cond.code ({ cls := "OscillatorRow$Springs", name := "changeSpeeds", desc := "(LOscillatorRow$Motion;I)Z" } : Jvm.MethodName) prog_4_method_4_code (7 : Nat) (Option.some Jvm.ClassFile.FieldType.boolean)) ∈ wg := wm 234 (by decide +kernel) (by decide +kernel)
theorem k_235 : (Jvm.Cond.methodLink "OscillatorRow$Springs" (42 : Nat) ({ cls := "OscillatorRow$Springs", name := "pushOn", desc := "(ILOscillatorRow$Motion;)J" } : Jvm.MethodName)) ∈ wg := wm 235 (by decide +kernel) (by decide +kernel)
theorem k_236 : (Jvm.Cond.instanceMethod ({ cls := "OscillatorRow$Springs", name := "pushOn", desc := "(ILOscillatorRow$Motion;)J" } : Jvm.MethodName)) ∈ wg := wm 236 (by decide +kernel) (by decide +kernel)
theorem k_237 : (Jvm.Cond.selects "OscillatorRow$Springs" ({ cls := "OscillatorRow$Springs", name := "pushOn", desc := "(ILOscillatorRow$Motion;)J" } : Jvm.MethodName) ({ cls := "OscillatorRow$Springs", name := "pushOn", desc := "(ILOscillatorRow$Motion;)J" } : Jvm.MethodName)) ∈ wg := wm 237 (by decide +kernel) (by decide +kernel)
theorem k_238 : (Jvm.Cond.code ({ cls := "OscillatorRow$Springs", name := "pushOn", desc := "(ILOscillatorRow$Motion;)J" } : Jvm.MethodName) prog_4_method_2_code (7 : Nat) (Option.some Jvm.ClassFile.FieldType.long)) ∈ wg := wm 238 (by decide +kernel) (by decide +kernel)
theorem k_239 : (Jvm.Cond.methodLink "OscillatorRow$Springs" (46 : Nat) ({ cls := "OscillatorRow$Springs", name := "roundedPart", desc := "(JI)J" } : Jvm.MethodName)) ∈ wg := wm 239 (by decide +kernel) (by decide +kernel)
theorem k_240 : (Jvm.Cond.static ({ cls := "OscillatorRow$Springs", name := "roundedPart", desc := "(JI)J" } : Jvm.MethodName)) ∈ wg := wm 240 (by decide +kernel) (by decide +kernel)
theorem k_241 : (Jvm.Cond.code ({ cls := "OscillatorRow$Springs", name := "roundedPart", desc := "(JI)J" } : Jvm.MethodName) prog_4_method_6_code (5 : Nat) (Option.some Jvm.ClassFile.FieldType.long)) ∈ wg := wm 241 (by decide +kernel) (by decide +kernel)
theorem k_242 : (Jvm.Cond.methodLink "OscillatorRow$Springs" (50 : Nat) ({ cls := "OscillatorRow$Springs", name := "isNear", desc := "(J)Z" } : Jvm.MethodName)) ∈ wg := wm 242 (by decide +kernel) (by decide +kernel)
theorem k_243 : (Jvm.Cond.static ({ cls := "OscillatorRow$Springs", name := "isNear", desc := "(J)Z" } : Jvm.MethodName)) ∈ wg := wm 243 (by decide +kernel) (by decide +kernel)
theorem k_244 : (Jvm.Cond.code ({ cls := "OscillatorRow$Springs", name := "isNear", desc := "(J)Z" } : Jvm.MethodName) prog_4_method_7_code (2 : Nat) (Option.some Jvm.ClassFile.FieldType.boolean)) ∈ wg := wm 244 (by decide +kernel) (by decide +kernel)
theorem k_245 : (Jvm.Cond.constantLong "OscillatorRow$Springs" (54 : Nat) (-1024000000 : Int64)) ∈ wg := wm 245 (by decide +kernel) (by decide +kernel)
theorem k_246 : (Jvm.Cond.constantLong "OscillatorRow$Springs" (56 : Nat) (1024000000 : Int64)) ∈ wg := wm 246 (by decide +kernel) (by decide +kernel)
theorem k_247 : (Jvm.Cond.methodLink "OscillatorRow$Springs" (39 : Nat) ({ cls := "OscillatorRow$Springs", name := "changePlaces", desc := "(LOscillatorRow$Motion;I)Z" } : Jvm.MethodName)) ∈ wg := wm 247 (by decide +kernel) (by decide +kernel)
theorem k_249 : (Jvm.Cond.instanceMethod ({ cls := "OscillatorRow$Springs", name := "changePlaces", desc := "(LOscillatorRow$Motion;I)Z" } : Jvm.MethodName)) ∈ wg := wm 249 (by decide +kernel) (by decide +kernel)
theorem k_250 : (Jvm.Cond.code ({ cls := "OscillatorRow$Springs", name := "changePlaces", desc := "(LOscillatorRow$Motion;I)Z" } : Jvm.MethodName) prog_4_method_5_code (5 : Nat) (Option.some Jvm.ClassFile.FieldType.boolean)) ∈ wg := wm 250 (by decide +kernel) (by decide +kernel)
theorem k_251 : (Jvm.Cond.methodLink "OscillatorRow" (194 : Nat) ({ cls := "OscillatorRow$Motion", name := "greatestDifference", desc := "(LOscillatorRow$Motion;)J" } : Jvm.MethodName)) ∈ wg := wm 251 (by decide +kernel) (by decide +kernel)
theorem k_252 : (Jvm.Cond.instanceMethod ({ cls := "OscillatorRow$Motion", name := "greatestDifference", desc := "(LOscillatorRow$Motion;)J" } : Jvm.MethodName)) ∈ wg := wm 252 (by decide +kernel) (by decide +kernel)
theorem k_253 : (Jvm.Cond.selects "OscillatorRow$Motion" ({ cls := "OscillatorRow$Motion", name := "greatestDifference", desc := "(LOscillatorRow$Motion;)J" } : Jvm.MethodName) ({ cls := "OscillatorRow$Motion", name := "greatestDifference", desc := "(LOscillatorRow$Motion;)J" } : Jvm.MethodName)) ∈ wg := wm 253 (by decide +kernel) (by decide +kernel)
theorem k_254 : (Jvm.Cond.code ({ cls := "OscillatorRow$Motion", name := "greatestDifference", desc := "(LOscillatorRow$Motion;)J" } : Jvm.MethodName) prog_3_method_3_code (5 : Nat) (Option.some Jvm.ClassFile.FieldType.long)) ∈ wg := wm 254 (by decide +kernel) (by decide +kernel)
theorem k_255 : (Jvm.Cond.methodLink "OscillatorRow$Motion" (22 : Nat) ({ cls := "java/lang/Math", name := "abs", desc := "(J)J" } : Jvm.MethodName)) ∈ wg := wm 255 (by decide +kernel) (by decide +kernel)
theorem k_256 : (Jvm.Cond.static ({ cls := "java/lang/Math", name := "abs", desc := "(J)J" } : Jvm.MethodName)) ∈ wg := wm 256 (by decide +kernel) (by decide +kernel)
theorem k_257 : (Jvm.Cond.code ({ cls := "java/lang/Math", name := "abs", desc := "(J)J" } : Jvm.MethodName) prog_8_method_61_code (2 : Nat) (Option.some Jvm.ClassFile.FieldType.long)) ∈ wg := wm 257 (by decide +kernel) (by decide +kernel)
theorem k_258 : (Jvm.Cond.methodLink "OscillatorRow$Motion" (28 : Nat) ({ cls := "java/lang/Math", name := "max", desc := "(JJ)J" } : Jvm.MethodName)) ∈ wg := wm 258 (by decide +kernel) (by decide +kernel)
theorem k_259 : (Jvm.Cond.static ({ cls := "java/lang/Math", name := "max", desc := "(JJ)J" } : Jvm.MethodName)) ∈ wg := wm 259 (by decide +kernel) (by decide +kernel)
theorem k_260 : (Jvm.Cond.code ({ cls := "java/lang/Math", name := "max", desc := "(JJ)J" } : Jvm.MethodName) prog_8_method_66_code (4 : Nat) (Option.some Jvm.ClassFile.FieldType.long)) ∈ wg := wm 260 (by decide +kernel) (by decide +kernel)
theorem k_261 : (Jvm.Cond.constantLong "OscillatorRow" (116 : Nat) (-1 : Int64)) ∈ wg := wm 261 (by decide +kernel) (by decide +kernel)
theorem k_262 : (Jvm.Cond.methodLink "OscillatorRow" (125 : Nat) ({ cls := "OscillatorRow", name := "takeStride", desc := "(IJ)V" } : Jvm.MethodName)) ∈ wg := wm 262 (by decide +kernel) (by decide +kernel)
theorem k_264 : (Jvm.Cond.instanceMethod ({ cls := "OscillatorRow", name := "takeStride", desc := "(IJ)V" } : Jvm.MethodName)) ∈ wg := wm 264 (by decide +kernel) (by decide +kernel)
theorem k_265 : (Jvm.Cond.code ({ cls := "OscillatorRow", name := "takeStride", desc := "(IJ)V" } : Jvm.MethodName) prog_1_method_24_code (4 : Nat) (Option.none : Option Jvm.ClassFile.FieldType)) ∈ wg := wm 265 (by decide +kernel) (by decide +kernel)
theorem k_266 : (Jvm.Cond.constantLong "OscillatorRow" (198 : Nat) (8 : Int64)) ∈ wg := wm 266 (by decide +kernel) (by decide +kernel)
theorem k_267 : (Jvm.Cond.methodLink "OscillatorRow" (129 : Nat) ({ cls := "OscillatorRow", name := "lookAtWatches", desc := "(I)Z" } : Jvm.MethodName)) ∈ wg := wm 267 (by decide +kernel) (by decide +kernel)
theorem k_269 : (Jvm.Cond.instanceMethod ({ cls := "OscillatorRow", name := "lookAtWatches", desc := "(I)Z" } : Jvm.MethodName)) ∈ wg := wm 269 (by decide +kernel) (by decide +kernel)
theorem k_270 : (Jvm.Cond.code ({ cls := "OscillatorRow", name := "lookAtWatches", desc := "(I)Z" } : Jvm.MethodName) prog_1_method_25_code (7 : Nat) (Option.some Jvm.ClassFile.FieldType.boolean)) ∈ wg := wm 270 (by decide +kernel) (by decide +kernel)
theorem k_271 : (Jvm.Cond.methodLink "OscillatorRow" (200 : Nat) ({ cls := "OscillatorRow$Watch", name := "isHitBy", desc := "(JJ)Z" } : Jvm.MethodName)) ∈ wg := wm 271 (by decide +kernel) (by decide +kernel)
theorem k_272 : (Jvm.Cond.instanceMethod ({ cls := "OscillatorRow$Watch", name := "isHitBy", desc := "(JJ)Z" } : Jvm.MethodName)) ∈ wg := wm 272 (by decide +kernel) (by decide +kernel)
theorem k_273 : (Jvm.Cond.selects "OscillatorRow$Watch" ({ cls := "OscillatorRow$Watch", name := "isHitBy", desc := "(JJ)Z" } : Jvm.MethodName) ({ cls := "OscillatorRow$Watch", name := "isHitBy", desc := "(JJ)Z" } : Jvm.MethodName)) ∈ wg := wm 273 (by decide +kernel) (by decide +kernel)
theorem k_274 : (Jvm.Cond.code ({ cls := "OscillatorRow$Watch", name := "isHitBy", desc := "(JJ)Z" } : Jvm.MethodName) prog_5_method_3_code (5 : Nat) (Option.some Jvm.ClassFile.FieldType.boolean)) ∈ wg := wm 274 (by decide +kernel) (by decide +kernel)
theorem k_275 : (Jvm.Cond.methodLink "OscillatorRow$Watch" (15 : Nat) ({ cls := "OscillatorRow$Watch", name := "isSet", desc := "()Z" } : Jvm.MethodName)) ∈ wg := wm 275 (by decide +kernel) (by decide +kernel)
theorem k_276 : (Jvm.Cond.instanceMethod ({ cls := "OscillatorRow$Watch", name := "isSet", desc := "()Z" } : Jvm.MethodName)) ∈ wg := wm 276 (by decide +kernel) (by decide +kernel)
theorem k_277 : (Jvm.Cond.selects "OscillatorRow$Watch" ({ cls := "OscillatorRow$Watch", name := "isSet", desc := "()Z" } : Jvm.MethodName) ({ cls := "OscillatorRow$Watch", name := "isSet", desc := "()Z" } : Jvm.MethodName)) ∈ wg := wm 277 (by decide +kernel) (by decide +kernel)
theorem k_278 : (Jvm.Cond.code ({ cls := "OscillatorRow$Watch", name := "isSet", desc := "()Z" } : Jvm.MethodName) prog_5_method_2_code (1 : Nat) (Option.some Jvm.ClassFile.FieldType.boolean)) ∈ wg := wm 278 (by decide +kernel) (by decide +kernel)
theorem k_279 : (Jvm.Cond.methodLink "OscillatorRow" (204 : Nat) ({ cls := "OscillatorRow$Watch", name := "ticksUntilLevel", desc := "(JJI)I" } : Jvm.MethodName)) ∈ wg := wm 279 (by decide +kernel) (by decide +kernel)
theorem k_280 : (Jvm.Cond.instanceMethod ({ cls := "OscillatorRow$Watch", name := "ticksUntilLevel", desc := "(JJI)I" } : Jvm.MethodName)) ∈ wg := wm 280 (by decide +kernel) (by decide +kernel)
theorem k_281 : (Jvm.Cond.selects "OscillatorRow$Watch" ({ cls := "OscillatorRow$Watch", name := "ticksUntilLevel", desc := "(JJI)I" } : Jvm.MethodName) ({ cls := "OscillatorRow$Watch", name := "ticksUntilLevel", desc := "(JJI)I" } : Jvm.MethodName)) ∈ wg := wm 281 (by decide +kernel) (by decide +kernel)
theorem k_282 : (Jvm.Cond.code ({ cls := "OscillatorRow$Watch", name := "ticksUntilLevel", desc := "(JJI)I" } : Jvm.MethodName) prog_5_method_4_code (10 : Nat) (Option.some Jvm.ClassFile.FieldType.int)) ∈ wg := wm 282 (by decide +kernel) (by decide +kernel)
theorem k_283 : (Jvm.Cond.methodLink "OscillatorRow$Watch" (27 : Nat) ({ cls := "java/lang/Math", name := "abs", desc := "(J)J" } : Jvm.MethodName)) ∈ wg := wm 283 (by decide +kernel) (by decide +kernel)
theorem k_284 : (Jvm.Cond.methodLink "OscillatorRow" (208 : Nat) ({ cls := "OscillatorRow$Hits", name := "note", desc := "(III)V" } : Jvm.MethodName)) ∈ wg := wm 284 (by decide +kernel) (by decide +kernel)
theorem k_285 : (Jvm.Cond.instanceMethod ({ cls := "OscillatorRow$Hits", name := "note", desc := "(III)V" } : Jvm.MethodName)) ∈ wg := wm 285 (by decide +kernel) (by decide +kernel)
theorem k_286 : (Jvm.Cond.selects "OscillatorRow$Hits" ({ cls := "OscillatorRow$Hits", name := "note", desc := "(III)V" } : Jvm.MethodName) ({ cls := "OscillatorRow$Hits", name := "note", desc := "(III)V" } : Jvm.MethodName)) ∈ wg := wm 286 (by decide +kernel) (by decide +kernel)
theorem k_287 : (Jvm.Cond.code ({ cls := "OscillatorRow$Hits", name := "note", desc := "(III)V" } : Jvm.MethodName) prog_2_method_3_code (4 : Nat) (Option.none : Option Jvm.ClassFile.FieldType)) ∈ wg := wm 287 (by decide +kernel) (by decide +kernel)
theorem k_288 : (Jvm.Cond.methodLink "OscillatorRowLaw" (53 : Nat) ({ cls := "OscillatorRow", name := "place", desc := "(I)I" } : Jvm.MethodName)) ∈ wg := wm 288 (by decide +kernel) (by decide +kernel)
theorem k_289 : (Jvm.Cond.instanceMethod ({ cls := "OscillatorRow", name := "place", desc := "(I)I" } : Jvm.MethodName)) ∈ wg := wm 289 (by decide +kernel) (by decide +kernel)
theorem k_290 : (Jvm.Cond.selects "OscillatorRow" ({ cls := "OscillatorRow", name := "place", desc := "(I)I" } : Jvm.MethodName) ({ cls := "OscillatorRow", name := "place", desc := "(I)I" } : Jvm.MethodName)) ∈ wg := wm 290 (by decide +kernel) (by decide +kernel)
theorem k_291 : (Jvm.Cond.code ({ cls := "OscillatorRow", name := "place", desc := "(I)I" } : Jvm.MethodName) prog_1_method_9_code (2 : Nat) (Option.some Jvm.ClassFile.FieldType.int)) ∈ wg := wm 291 (by decide +kernel) (by decide +kernel)
theorem k_292 : (Jvm.Cond.methodLink "OscillatorRowLaw" (57 : Nat) ({ cls := "OscillatorRow", name := "speed", desc := "(I)I" } : Jvm.MethodName)) ∈ wg := wm 292 (by decide +kernel) (by decide +kernel)
theorem k_293 : (Jvm.Cond.instanceMethod ({ cls := "OscillatorRow", name := "speed", desc := "(I)I" } : Jvm.MethodName)) ∈ wg := wm 293 (by decide +kernel) (by decide +kernel)
theorem k_294 : (Jvm.Cond.selects "OscillatorRow" ({ cls := "OscillatorRow", name := "speed", desc := "(I)I" } : Jvm.MethodName) ({ cls := "OscillatorRow", name := "speed", desc := "(I)I" } : Jvm.MethodName)) ∈ wg := wm 294 (by decide +kernel) (by decide +kernel)
theorem k_295 : (Jvm.Cond.code ({ cls := "OscillatorRow", name := "speed", desc := "(I)I" } : Jvm.MethodName) prog_1_method_10_code (2 : Nat) (Option.some Jvm.ClassFile.FieldType.int)) ∈ wg := wm 295 (by decide +kernel) (by decide +kernel)
theorem k_296 : (Jvm.Cond.methodLink "OscillatorRowLaw" (61 : Nat) ({ cls := "OscillatorRow", name := "push", desc := "(I)J" } : Jvm.MethodName)) ∈ wg := wm 296 (by decide +kernel) (by decide +kernel)
theorem k_297 : (Jvm.Cond.instanceMethod ({ cls := "OscillatorRow", name := "push", desc := "(I)J" } : Jvm.MethodName)) ∈ wg := wm 297 (by decide +kernel) (by decide +kernel)
theorem k_298 : (Jvm.Cond.selects "OscillatorRow" ({ cls := "OscillatorRow", name := "push", desc := "(I)J" } : Jvm.MethodName) ({ cls := "OscillatorRow", name := "push", desc := "(I)J" } : Jvm.MethodName)) ∈ wg := wm 298 (by decide +kernel) (by decide +kernel)
theorem k_299 : (Jvm.Cond.code ({ cls := "OscillatorRow", name := "push", desc := "(I)J" } : Jvm.MethodName) prog_1_method_11_code (2 : Nat) (Option.some Jvm.ClassFile.FieldType.long)) ∈ wg := wm 299 (by decide +kernel) (by decide +kernel)
theorem k_300 : (Jvm.Cond.methodLink "OscillatorRow" (132 : Nat) ({ cls := "OscillatorRow$Springs", name := "pushOn", desc := "(ILOscillatorRow$Motion;)J" } : Jvm.MethodName)) ∈ wg := wm 300 (by decide +kernel) (by decide +kernel)
theorem k_301 : (Jvm.Cond.constantLong "OscillatorRow" (136 : Nat) (-2000000000 : Int64)) ∈ wg := wm 301 (by decide +kernel) (by decide +kernel)
theorem k_302 : (Jvm.Cond.methodLink "OscillatorRowLaw" (66 : Nat) ({ cls := "OscillatorRow", name := "hit", desc := "(II)I" } : Jvm.MethodName)) ∈ wg := wm 302 (by decide +kernel) (by decide +kernel)
theorem k_303 : (Jvm.Cond.instanceMethod ({ cls := "OscillatorRow", name := "hit", desc := "(II)I" } : Jvm.MethodName)) ∈ wg := wm 303 (by decide +kernel) (by decide +kernel)
theorem k_304 : (Jvm.Cond.selects "OscillatorRow" ({ cls := "OscillatorRow", name := "hit", desc := "(II)I" } : Jvm.MethodName) ({ cls := "OscillatorRow", name := "hit", desc := "(II)I" } : Jvm.MethodName)) ∈ wg := wm 304 (by decide +kernel) (by decide +kernel)
theorem k_305 : (Jvm.Cond.code ({ cls := "OscillatorRow", name := "hit", desc := "(II)I" } : Jvm.MethodName) prog_1_method_12_code (3 : Nat) (Option.some Jvm.ClassFile.FieldType.int)) ∈ wg := wm 305 (by decide +kernel) (by decide +kernel)
theorem k_306 : (Jvm.Cond.methodLink "OscillatorRow" (138 : Nat) ({ cls := "OscillatorRow$Hits", name := "keeps", desc := "(I)Z" } : Jvm.MethodName)) ∈ wg := wm 306 (by decide +kernel) (by decide +kernel)
theorem k_307 : (Jvm.Cond.instanceMethod ({ cls := "OscillatorRow$Hits", name := "keeps", desc := "(I)Z" } : Jvm.MethodName)) ∈ wg := wm 307 (by decide +kernel) (by decide +kernel)
theorem k_308 : (Jvm.Cond.selects "OscillatorRow$Hits" ({ cls := "OscillatorRow$Hits", name := "keeps", desc := "(I)Z" } : Jvm.MethodName) ({ cls := "OscillatorRow$Hits", name := "keeps", desc := "(I)Z" } : Jvm.MethodName)) ∈ wg := wm 308 (by decide +kernel) (by decide +kernel)
theorem k_309 : (Jvm.Cond.code ({ cls := "OscillatorRow$Hits", name := "keeps", desc := "(I)Z" } : Jvm.MethodName) prog_2_method_2_code (2 : Nat) (Option.some Jvm.ClassFile.FieldType.boolean)) ∈ wg := wm 309 (by decide +kernel) (by decide +kernel)
theorem k_310 : (Jvm.Cond.constant "OscillatorRow" (141 : Nat) (-2000000000 : Int32)) ∈ wg := wm 310 (by decide +kernel) (by decide +kernel)
theorem k_311 : (Jvm.Cond.methodLink "OscillatorRowLaw" (70 : Nat) ({ cls := "OscillatorRow", name := "clear", desc := "()I" } : Jvm.MethodName)) ∈ wg := wm 311 (by decide +kernel) (by decide +kernel)
theorem k_312 : (Jvm.Cond.instanceMethod ({ cls := "OscillatorRow", name := "clear", desc := "()I" } : Jvm.MethodName)) ∈ wg := wm 312 (by decide +kernel) (by decide +kernel)
theorem k_313 : (Jvm.Cond.selects "OscillatorRow" ({ cls := "OscillatorRow", name := "clear", desc := "()I" } : Jvm.MethodName) ({ cls := "OscillatorRow", name := "clear", desc := "()I" } : Jvm.MethodName)) ∈ wg := wm 313 (by decide +kernel) (by decide +kernel)
theorem k_314 : (Jvm.Cond.code ({ cls := "OscillatorRow", name := "clear", desc := "()I" } : Jvm.MethodName) prog_1_method_13_code (2 : Nat) (Option.some Jvm.ClassFile.FieldType.int)) ∈ wg := wm 314 (by decide +kernel) (by decide +kernel)
theorem k_315 : (Jvm.Cond.methodLink "OscillatorRow" (154 : Nat) ({ cls := "OscillatorRow$Hits", name := "forget", desc := "()V" } : Jvm.MethodName)) ∈ wg := wm 315 (by decide +kernel) (by decide +kernel)
theorem k_316 : (Jvm.Cond.instanceMethod ({ cls := "OscillatorRow$Hits", name := "forget", desc := "()V" } : Jvm.MethodName)) ∈ wg := wm 316 (by decide +kernel) (by decide +kernel)
theorem k_317 : (Jvm.Cond.selects "OscillatorRow$Hits" ({ cls := "OscillatorRow$Hits", name := "forget", desc := "()V" } : Jvm.MethodName) ({ cls := "OscillatorRow$Hits", name := "forget", desc := "()V" } : Jvm.MethodName)) ∈ wg := wm 317 (by decide +kernel) (by decide +kernel)
theorem k_318 : (Jvm.Cond.code ({ cls := "OscillatorRow$Hits", name := "forget", desc := "()V" } : Jvm.MethodName) prog_2_method_4_code (1 : Nat) (Option.none : Option Jvm.ClassFile.FieldType)) ∈ wg := wm 318 (by decide +kernel) (by decide +kernel)
theorem k_319 : (Jvm.Cond.methodLink "OscillatorRowLaw" (75 : Nat) ({ cls := "OscillatorRow", name := "count", desc := "(I)I" } : Jvm.MethodName)) ∈ wg := wm 319 (by decide +kernel) (by decide +kernel)
theorem k_320 : (Jvm.Cond.instanceMethod ({ cls := "OscillatorRow", name := "count", desc := "(I)I" } : Jvm.MethodName)) ∈ wg := wm 320 (by decide +kernel) (by decide +kernel)
theorem k_321 : (Jvm.Cond.selects "OscillatorRow" ({ cls := "OscillatorRow", name := "count", desc := "(I)I" } : Jvm.MethodName) ({ cls := "OscillatorRow", name := "count", desc := "(I)I" } : Jvm.MethodName)) ∈ wg := wm 321 (by decide +kernel) (by decide +kernel)
theorem k_322 : (Jvm.Cond.code ({ cls := "OscillatorRow", name := "count", desc := "(I)I" } : Jvm.MethodName) prog_1_method_14_code (2 : Nat) (Option.some Jvm.ClassFile.FieldType.int)) ∈ wg := wm 322 (by decide +kernel) (by decide +kernel)
theorem k_323 : (Jvm.Cond.methodLink "OscillatorRow" (169 : Nat) ({ cls := "OscillatorRow", name := "watchesSet", desc := "()I" } : Jvm.MethodName)) ∈ wg := wm 323 (by decide +kernel) (by decide +kernel)
theorem k_325 : (Jvm.Cond.instanceMethod ({ cls := "OscillatorRow", name := "watchesSet", desc := "()I" } : Jvm.MethodName)) ∈ wg := wm 325 (by decide +kernel) (by decide +kernel)
theorem k_326 : (Jvm.Cond.code ({ cls := "OscillatorRow", name := "watchesSet", desc := "()I" } : Jvm.MethodName) prog_1_method_18_code (3 : Nat) (Option.some Jvm.ClassFile.FieldType.int)) ∈ wg := wm 326 (by decide +kernel) (by decide +kernel)
theorem k_327 : (Jvm.Cond.methodLink "OscillatorRow" (175 : Nat) ({ cls := "OscillatorRow$Watch", name := "isSet", desc := "()Z" } : Jvm.MethodName)) ∈ wg := wm 327 (by decide +kernel) (by decide +kernel)
theorem k_328 : (Jvm.Cond.methodLink "OscillatorRowLaw" (9 : Nat) ({ cls := "OscillatorRowLaw", name := "cell", desc := "([II)I" } : Jvm.MethodName)) ∈ wg := wm 328 (by decide +kernel) (by decide +kernel)
theorem k_329 : (Jvm.Cond.static ({ cls := "OscillatorRowLaw", name := "cell", desc := "([II)I" } : Jvm.MethodName)) ∈ wg := wm 329 (by decide +kernel) (by decide +kernel)
theorem k_330 : (Jvm.Cond.code ({ cls := "OscillatorRowLaw", name := "cell", desc := "([II)I" } : Jvm.MethodName) method_2_code (2 : Nat) (Option.some Jvm.ClassFile.FieldType.int)) ∈ wg := wm 330 (by decide +kernel) (by decide +kernel)
theorem k_331 : (Jvm.Cond.classLink "OscillatorRowLaw" (18 : Nat) "OscillatorRowModel") ∈ wg := wm 331 (by decide +kernel) (by decide +kernel)
theorem k_332 : (Jvm.Cond.instantiable "OscillatorRowModel" (22 : Nat)) ∈ wg := wm 332 (by decide +kernel) (by decide +kernel)
theorem k_333 : (Jvm.Cond.methodLink "OscillatorRowLaw" (20 : Nat) ({ cls := "OscillatorRowModel", name := "<init>", desc := "(I)V" } : Jvm.MethodName)) ∈ wg := wm 333 (by decide +kernel) (by decide +kernel)
theorem k_334 : (Jvm.Cond.instanceMethod ({ cls := "OscillatorRowModel", name := "<init>", desc := "(I)V" } : Jvm.MethodName)) ∈ wg := wm 334 (by decide +kernel) (by decide +kernel)
theorem k_335 : (Jvm.Cond.code ({ cls := "OscillatorRowModel", name := "<init>", desc := "(I)V" } : Jvm.MethodName) prog_7_method_1_code (2 : Nat) (Option.none : Option Jvm.ClassFile.FieldType)) ∈ wg := wm 335 (by decide +kernel) (by decide +kernel)
theorem k_336 : (Jvm.Cond.methodLink "OscillatorRowModel" (1 : Nat) ({ cls := "java/lang/Object", name := "<init>", desc := "()V" } : Jvm.MethodName)) ∈ wg := wm 336 (by decide +kernel) (by decide +kernel)
theorem k_337 : (Jvm.Cond.fieldLink "OscillatorRowModel" (58 : Nat) "OscillatorRowModel" "bodies" "I") ∈ wg := wm 337 (by decide +kernel) (by decide +kernel)
theorem k_338 : (Jvm.Cond.fieldLink "OscillatorRowModel" (7 : Nat) "OscillatorRowModel" "stiffness" "[J") ∈ wg := wm 338 (by decide +kernel) (by decide +kernel)
theorem k_339 : (Jvm.Cond.fieldLink "OscillatorRowModel" (13 : Nat) "OscillatorRowModel" "drag" "[J") ∈ wg := wm 339 (by decide +kernel) (by decide +kernel)
theorem k_340 : (Jvm.Cond.fieldLink "OscillatorRowModel" (16 : Nat) "OscillatorRowModel" "links" "[J") ∈ wg := wm 340 (by decide +kernel) (by decide +kernel)
theorem k_341 : (Jvm.Cond.fieldLink "OscillatorRowModel" (19 : Nat) "OscillatorRowModel" "forces" "[J") ∈ wg := wm 341 (by decide +kernel) (by decide +kernel)
theorem k_342 : (Jvm.Cond.fieldLink "OscillatorRowModel" (22 : Nat) "OscillatorRowModel" "place" "[J") ∈ wg := wm 342 (by decide +kernel) (by decide +kernel)
theorem k_343 : (Jvm.Cond.fieldLink "OscillatorRowModel" (25 : Nat) "OscillatorRowModel" "speed" "[J") ∈ wg := wm 343 (by decide +kernel) (by decide +kernel)
theorem k_344 : (Jvm.Cond.fieldLink "OscillatorRowModel" (28 : Nat) "OscillatorRowModel" "middle" "[J") ∈ wg := wm 344 (by decide +kernel) (by decide +kernel)
theorem k_345 : (Jvm.Cond.fieldLink "OscillatorRowModel" (31 : Nat) "OscillatorRowModel" "wBody" "[I") ∈ wg := wm 345 (by decide +kernel) (by decide +kernel)
theorem k_346 : (Jvm.Cond.fieldLink "OscillatorRowModel" (35 : Nat) "OscillatorRowModel" "wLevel" "[J") ∈ wg := wm 346 (by decide +kernel) (by decide +kernel)
theorem k_347 : (Jvm.Cond.fieldLink "OscillatorRowModel" (38 : Nat) "OscillatorRowModel" "wUp" "[Z") ∈ wg := wm 347 (by decide +kernel) (by decide +kernel)
theorem k_348 : (Jvm.Cond.fieldLink "OscillatorRowModel" (42 : Nat) "OscillatorRowModel" "wAction" "[I") ∈ wg := wm 348 (by decide +kernel) (by decide +kernel)
theorem k_349 : (Jvm.Cond.fieldLink "OscillatorRowModel" (45 : Nat) "OscillatorRowModel" "wSet" "[Z") ∈ wg := wm 349 (by decide +kernel) (by decide +kernel)
theorem k_350 : (Jvm.Cond.fieldLink "OscillatorRowModel" (48 : Nat) "OscillatorRowModel" "hits" "[I") ∈ wg := wm 350 (by decide +kernel) (by decide +kernel)
theorem k_351 : (Jvm.Cond.fieldLink "OscillatorRowModel" (51 : Nat) "OscillatorRowModel" "before" "[J") ∈ wg := wm 351 (by decide +kernel) (by decide +kernel)
theorem k_352 : (Jvm.Cond.fieldLink "OscillatorRowModel" (113 : Nat) "OscillatorRowModel" "hitCount" "I") ∈ wg := wm 352 (by decide +kernel) (by decide +kernel)
theorem k_353 : (Jvm.Cond.fieldLink "OscillatorRowModel" (96 : Nat) "OscillatorRowModel" "time" "I") ∈ wg := wm 353 (by decide +kernel) (by decide +kernel)
theorem k_354 : (Jvm.Cond.fieldLink "OscillatorRowModel" (89 : Nat) "OscillatorRowModel" "fineness" "I") ∈ wg := wm 354 (by decide +kernel) (by decide +kernel)
theorem k_355 : (Jvm.Cond.fieldLink "OscillatorRowModel" (123 : Nat) "OscillatorRowModel" "strides" "I") ∈ wg := wm 355 (by decide +kernel) (by decide +kernel)
theorem k_356 : (Jvm.Cond.fieldLink "OscillatorRowModel" (110 : Nat) "OscillatorRowModel" "rejected" "I") ∈ wg := wm 356 (by decide +kernel) (by decide +kernel)
theorem k_357 : (Jvm.Cond.fieldLink "OscillatorRowModel" (126 : Nat) "OscillatorRowModel" "lastError" "I") ∈ wg := wm 357 (by decide +kernel) (by decide +kernel)
theorem k_358 : (Jvm.Cond.fieldLink "OscillatorRowModel" (54 : Nat) "OscillatorRowModel" "tolerance" "I") ∈ wg := wm 358 (by decide +kernel) (by decide +kernel)
theorem k_404 : (Jvm.Cond.arrayClass Jvm.ClassFile.FieldType.boolean) ∈ wg := wm 404 (by decide +kernel) (by decide +kernel)
theorem k_405 : (Jvm.Cond.methodLink "OscillatorRowLaw" (25 : Nat) ({ cls := "OscillatorRowModel", name := "body", desc := "(III)I" } : Jvm.MethodName)) ∈ wg := wm 405 (by decide +kernel) (by decide +kernel)
theorem k_406 : (Jvm.Cond.instanceMethod ({ cls := "OscillatorRowModel", name := "body", desc := "(III)I" } : Jvm.MethodName)) ∈ wg := wm 406 (by decide +kernel) (by decide +kernel)
theorem k_407 : (Jvm.Cond.selects "OscillatorRowModel" ({ cls := "OscillatorRowModel", name := "body", desc := "(III)I" } : Jvm.MethodName) ({ cls := "OscillatorRowModel", name := "body", desc := "(III)I" } : Jvm.MethodName)) ∈ wg := wm 407 (by decide +kernel) (by decide +kernel)
theorem k_408 : (Jvm.Cond.code ({ cls := "OscillatorRowModel", name := "body", desc := "(III)I" } : Jvm.MethodName) prog_7_method_4_code (4 : Nat) (Option.some Jvm.ClassFile.FieldType.int)) ∈ wg := wm 408 (by decide +kernel) (by decide +kernel)
theorem k_409 : (Jvm.Cond.methodLink "OscillatorRowModel" (61 : Nat) ({ cls := "OscillatorRowModel", name := "no", desc := "(I)Z" } : Jvm.MethodName)) ∈ wg := wm 409 (by decide +kernel) (by decide +kernel)
theorem k_411 : (Jvm.Cond.instanceMethod ({ cls := "OscillatorRowModel", name := "no", desc := "(I)Z" } : Jvm.MethodName)) ∈ wg := wm 411 (by decide +kernel) (by decide +kernel)
theorem k_412 : (Jvm.Cond.code ({ cls := "OscillatorRowModel", name := "no", desc := "(I)Z" } : Jvm.MethodName) prog_7_method_2_code (2 : Nat) (Option.some Jvm.ClassFile.FieldType.boolean)) ∈ wg := wm 412 (by decide +kernel) (by decide +kernel)
theorem k_413 : (Jvm.Cond.methodLink "OscillatorRowLaw" (30 : Nat) ({ cls := "OscillatorRowModel", name := "link", desc := "(II)I" } : Jvm.MethodName)) ∈ wg := wm 413 (by decide +kernel) (by decide +kernel)
theorem k_414 : (Jvm.Cond.instanceMethod ({ cls := "OscillatorRowModel", name := "link", desc := "(II)I" } : Jvm.MethodName)) ∈ wg := wm 414 (by decide +kernel) (by decide +kernel)
theorem k_415 : (Jvm.Cond.selects "OscillatorRowModel" ({ cls := "OscillatorRowModel", name := "link", desc := "(II)I" } : Jvm.MethodName) ({ cls := "OscillatorRowModel", name := "link", desc := "(II)I" } : Jvm.MethodName)) ∈ wg := wm 415 (by decide +kernel) (by decide +kernel)
theorem k_416 : (Jvm.Cond.code ({ cls := "OscillatorRowModel", name := "link", desc := "(II)I" } : Jvm.MethodName) prog_7_method_5_code (3 : Nat) (Option.some Jvm.ClassFile.FieldType.int)) ∈ wg := wm 416 (by decide +kernel) (by decide +kernel)
theorem k_417 : (Jvm.Cond.methodLink "OscillatorRowLaw" (34 : Nat) ({ cls := "OscillatorRowModel", name := "set", desc := "(III)I" } : Jvm.MethodName)) ∈ wg := wm 417 (by decide +kernel) (by decide +kernel)
theorem k_418 : (Jvm.Cond.instanceMethod ({ cls := "OscillatorRowModel", name := "set", desc := "(III)I" } : Jvm.MethodName)) ∈ wg := wm 418 (by decide +kernel) (by decide +kernel)
theorem k_419 : (Jvm.Cond.selects "OscillatorRowModel" ({ cls := "OscillatorRowModel", name := "set", desc := "(III)I" } : Jvm.MethodName) ({ cls := "OscillatorRowModel", name := "set", desc := "(III)I" } : Jvm.MethodName)) ∈ wg := wm 419 (by decide +kernel) (by decide +kernel)
theorem k_420 : (Jvm.Cond.code ({ cls := "OscillatorRowModel", name := "set", desc := "(III)I" } : Jvm.MethodName) prog_7_method_6_code (4 : Nat) (Option.some Jvm.ClassFile.FieldType.int)) ∈ wg := wm 420 (by decide +kernel) (by decide +kernel)
theorem k_421 : (Jvm.Cond.constant "OscillatorRowModel" (65 : Nat) (1000000000 : Int32)) ∈ wg := wm 421 (by decide +kernel) (by decide +kernel)
theorem k_422 : (Jvm.Cond.methodLink "OscillatorRowModel" (66 : Nat) ({ cls := "OscillatorRowModel", name := "off", desc := "(II)Z" } : Jvm.MethodName)) ∈ wg := wm 422 (by decide +kernel) (by decide +kernel)
theorem k_424 : (Jvm.Cond.instanceMethod ({ cls := "OscillatorRowModel", name := "off", desc := "(II)Z" } : Jvm.MethodName)) ∈ wg := wm 424 (by decide +kernel) (by decide +kernel)
theorem k_425 : (Jvm.Cond.code ({ cls := "OscillatorRowModel", name := "off", desc := "(II)Z" } : Jvm.MethodName) prog_7_method_3_code (3 : Nat) (Option.some Jvm.ClassFile.FieldType.boolean)) ∈ wg := wm 425 (by decide +kernel) (by decide +kernel)
theorem k_426 : (Jvm.Cond.methodLink "OscillatorRowLaw" (38 : Nat) ({ cls := "OscillatorRowModel", name := "force", desc := "(II)I" } : Jvm.MethodName)) ∈ wg := wm 426 (by decide +kernel) (by decide +kernel)
theorem k_427 : (Jvm.Cond.instanceMethod ({ cls := "OscillatorRowModel", name := "force", desc := "(II)I" } : Jvm.MethodName)) ∈ wg := wm 427 (by decide +kernel) (by decide +kernel)
theorem k_428 : (Jvm.Cond.selects "OscillatorRowModel" ({ cls := "OscillatorRowModel", name := "force", desc := "(II)I" } : Jvm.MethodName) ({ cls := "OscillatorRowModel", name := "force", desc := "(II)I" } : Jvm.MethodName)) ∈ wg := wm 428 (by decide +kernel) (by decide +kernel)
theorem k_429 : (Jvm.Cond.code ({ cls := "OscillatorRowModel", name := "force", desc := "(II)I" } : Jvm.MethodName) prog_7_method_7_code (3 : Nat) (Option.some Jvm.ClassFile.FieldType.int)) ∈ wg := wm 429 (by decide +kernel) (by decide +kernel)
theorem k_430 : (Jvm.Cond.methodLink "OscillatorRowLaw" (43 : Nat) ({ cls := "OscillatorRowModel", name := "tolerance", desc := "(I)I" } : Jvm.MethodName)) ∈ wg := wm 430 (by decide +kernel) (by decide +kernel)
theorem k_431 : (Jvm.Cond.instanceMethod ({ cls := "OscillatorRowModel", name := "tolerance", desc := "(I)I" } : Jvm.MethodName)) ∈ wg := wm 431 (by decide +kernel) (by decide +kernel)
theorem k_432 : (Jvm.Cond.selects "OscillatorRowModel" ({ cls := "OscillatorRowModel", name := "tolerance", desc := "(I)I" } : Jvm.MethodName) ({ cls := "OscillatorRowModel", name := "tolerance", desc := "(I)I" } : Jvm.MethodName)) ∈ wg := wm 432 (by decide +kernel) (by decide +kernel)
theorem k_433 : (Jvm.Cond.code ({ cls := "OscillatorRowModel", name := "tolerance", desc := "(I)I" } : Jvm.MethodName) prog_7_method_8_code (2 : Nat) (Option.some Jvm.ClassFile.FieldType.int)) ∈ wg := wm 433 (by decide +kernel) (by decide +kernel)
theorem k_434 : (Jvm.Cond.constant "OscillatorRowModel" (70 : Nat) (1000000 : Int32)) ∈ wg := wm 434 (by decide +kernel) (by decide +kernel)
theorem k_435 : (Jvm.Cond.methodLink "OscillatorRowLaw" (48 : Nat) ({ cls := "OscillatorRowModel", name := "watch", desc := "(IIIZI)I" } : Jvm.MethodName)) ∈ wg := wm 435 (by decide +kernel) (by decide +kernel)
theorem k_436 : (Jvm.Cond.instanceMethod ({ cls := "OscillatorRowModel", name := "watch", desc := "(IIIZI)I" } : Jvm.MethodName)) ∈ wg := wm 436 (by decide +kernel) (by decide +kernel)
theorem k_437 : (Jvm.Cond.selects "OscillatorRowModel" ({ cls := "OscillatorRowModel", name := "watch", desc := "(IIIZI)I" } : Jvm.MethodName) ({ cls := "OscillatorRowModel", name := "watch", desc := "(IIIZI)I" } : Jvm.MethodName)) ∈ wg := wm 437 (by decide +kernel) (by decide +kernel)
theorem k_438 : (Jvm.Cond.code ({ cls := "OscillatorRowModel", name := "watch", desc := "(IIIZI)I" } : Jvm.MethodName) prog_7_method_9_code (6 : Nat) (Option.some Jvm.ClassFile.FieldType.int)) ∈ wg := wm 438 (by decide +kernel) (by decide +kernel)
theorem k_439 : (Jvm.Cond.methodLink "OscillatorRowLaw" (52 : Nat) ({ cls := "OscillatorRowModel", name := "advance", desc := "(I)I" } : Jvm.MethodName)) ∈ wg := wm 439 (by decide +kernel) (by decide +kernel)
theorem k_440 : (Jvm.Cond.instanceMethod ({ cls := "OscillatorRowModel", name := "advance", desc := "(I)I" } : Jvm.MethodName)) ∈ wg := wm 440 (by decide +kernel) (by decide +kernel)
theorem k_441 : (Jvm.Cond.selects "OscillatorRowModel" ({ cls := "OscillatorRowModel", name := "advance", desc := "(I)I" } : Jvm.MethodName) ({ cls := "OscillatorRowModel", name := "advance", desc := "(I)I" } : Jvm.MethodName)) ∈ wg := wm 441 (by decide +kernel) (by decide +kernel)
theorem k_442 : (Jvm.Cond.code ({ cls := "OscillatorRowModel", name := "advance", desc := "(I)I" } : Jvm.MethodName) prog_7_method_20_code (8 : Nat) (Option.some Jvm.ClassFile.FieldType.int)) ∈ wg := wm 442 (by decide +kernel) (by decide +kernel)
theorem k_443 : (Jvm.Cond.methodLink "OscillatorRowModel" (120 : Nat) ({ cls := "OscillatorRowModel", name := "stride", desc := "(I)Z" } : Jvm.MethodName)) ∈ wg := wm 443 (by decide +kernel) (by decide +kernel)
theorem k_445 : (Jvm.Cond.instanceMethod ({ cls := "OscillatorRowModel", name := "stride", desc := "(I)Z" } : Jvm.MethodName)) ∈ wg := wm 445 (by decide +kernel) (by decide +kernel)
theorem k_446 : (Jvm.Cond.code ({ cls := "OscillatorRowModel", name := "stride", desc := "(I)Z" } : Jvm.MethodName) prog_7_method_17_code (3 : Nat) (Option.some Jvm.ClassFile.FieldType.boolean)) ∈ wg := wm 446 (by decide +kernel) (by decide +kernel)
theorem k_447 : (Jvm.Cond.methodLink "OscillatorRowModel" (92 : Nat) ({ cls := "OscillatorRowModel", name := "ticks", desc := "()I" } : Jvm.MethodName)) ∈ wg := wm 447 (by decide +kernel) (by decide +kernel)
theorem k_449 : (Jvm.Cond.instanceMethod ({ cls := "OscillatorRowModel", name := "ticks", desc := "()I" } : Jvm.MethodName)) ∈ wg := wm 449 (by decide +kernel) (by decide +kernel)
theorem k_450 : (Jvm.Cond.code ({ cls := "OscillatorRowModel", name := "ticks", desc := "()I" } : Jvm.MethodName) prog_7_method_16_code (1 : Nat) (Option.some Jvm.ClassFile.FieldType.int)) ∈ wg := wm 450 (by decide +kernel) (by decide +kernel)
theorem k_451 : (Jvm.Cond.methodLink "OscillatorRowModel" (99 : Nat) ({ cls := "OscillatorRowModel", name := "copy", desc := "(II)V" } : Jvm.MethodName)) ∈ wg := wm 451 (by decide +kernel) (by decide +kernel)
theorem k_453 : (Jvm.Cond.instanceMethod ({ cls := "OscillatorRowModel", name := "copy", desc := "(II)V" } : Jvm.MethodName)) ∈ wg := wm 453 (by decide +kernel) (by decide +kernel)
theorem k_454 : (Jvm.Cond.code ({ cls := "OscillatorRowModel", name := "copy", desc := "(II)V" } : Jvm.MethodName) prog_7_method_14_code (4 : Nat) (Option.none : Option Jvm.ClassFile.FieldType)) ∈ wg := wm 454 (by decide +kernel) (by decide +kernel)
theorem k_455 : (Jvm.Cond.methodLink "OscillatorRowModel" (103 : Nat) ({ cls := "OscillatorRowModel", name := "step", desc := "(II)Z" } : Jvm.MethodName)) ∈ wg := wm 455 (by decide +kernel) (by decide +kernel)
theorem k_457 : (Jvm.Cond.instanceMethod ({ cls := "OscillatorRowModel", name := "step", desc := "(II)Z" } : Jvm.MethodName)) ∈ wg := wm 457 (by decide +kernel) (by decide +kernel)
theorem k_458 : (Jvm.Cond.code ({ cls := "OscillatorRowModel", name := "step", desc := "(II)Z" } : Jvm.MethodName) prog_7_method_13_code (7 : Nat) (Option.some Jvm.ClassFile.FieldType.boolean)) ∈ wg := wm 458 (by decide +kernel) (by decide +kernel)
theorem k_459 : (Jvm.Cond.methodLink "OscillatorRowModel" (77 : Nat) ({ cls := "OscillatorRowModel", name := "pushIn", desc := "(IIJ)J" } : Jvm.MethodName)) ∈ wg := wm 459 (by decide +kernel) (by decide +kernel)
theorem k_461 : (Jvm.Cond.instanceMethod ({ cls := "OscillatorRowModel", name := "pushIn", desc := "(IIJ)J" } : Jvm.MethodName)) ∈ wg := wm 461 (by decide +kernel) (by decide +kernel)
theorem k_462 : (Jvm.Cond.code ({ cls := "OscillatorRowModel", name := "pushIn", desc := "(IIJ)J" } : Jvm.MethodName) prog_7_method_10_code (9 : Nat) (Option.some Jvm.ClassFile.FieldType.long)) ∈ wg := wm 462 (by decide +kernel) (by decide +kernel)
theorem k_463 : (Jvm.Cond.constantLong "OscillatorRowModel" (71 : Nat) (16 : Int64)) ∈ wg := wm 463 (by decide +kernel) (by decide +kernel)
theorem k_464 : (Jvm.Cond.methodLink "OscillatorRowModel" (81 : Nat) ({ cls := "OscillatorRowModel", name := "kick", desc := "(JI)J" } : Jvm.MethodName)) ∈ wg := wm 464 (by decide +kernel) (by decide +kernel)
theorem k_466 : (Jvm.Cond.instanceMethod ({ cls := "OscillatorRowModel", name := "kick", desc := "(JI)J" } : Jvm.MethodName)) ∈ wg := wm 466 (by decide +kernel) (by decide +kernel)
theorem k_467 : (Jvm.Cond.code ({ cls := "OscillatorRowModel", name := "kick", desc := "(JI)J" } : Jvm.MethodName) prog_7_method_12_code (4 : Nat) (Option.some Jvm.ClassFile.FieldType.long)) ∈ wg := wm 467 (by decide +kernel) (by decide +kernel)
theorem k_468 : (Jvm.Cond.methodLink "OscillatorRowModel" (85 : Nat) ({ cls := "OscillatorRowModel", name := "far", desc := "(J)Z" } : Jvm.MethodName)) ∈ wg := wm 468 (by decide +kernel) (by decide +kernel)
theorem k_470 : (Jvm.Cond.instanceMethod ({ cls := "OscillatorRowModel", name := "far", desc := "(J)Z" } : Jvm.MethodName)) ∈ wg := wm 470 (by decide +kernel) (by decide +kernel)
theorem k_471 : (Jvm.Cond.code ({ cls := "OscillatorRowModel", name := "far", desc := "(J)Z" } : Jvm.MethodName) prog_7_method_11_code (3 : Nat) (Option.some Jvm.ClassFile.FieldType.boolean)) ∈ wg := wm 471 (by decide +kernel) (by decide +kernel)
theorem k_472 : (Jvm.Cond.constantLong "OscillatorRowModel" (73 : Nat) (1024000000 : Int64)) ∈ wg := wm 472 (by decide +kernel) (by decide +kernel)
theorem k_473 : (Jvm.Cond.constantLong "OscillatorRowModel" (75 : Nat) (-1024000000 : Int64)) ∈ wg := wm 473 (by decide +kernel) (by decide +kernel)
theorem k_474 : (Jvm.Cond.methodLink "OscillatorRowModel" (106 : Nat) ({ cls := "OscillatorRowModel", name := "error", desc := "()J" } : Jvm.MethodName)) ∈ wg := wm 474 (by decide +kernel) (by decide +kernel)
theorem k_476 : (Jvm.Cond.instanceMethod ({ cls := "OscillatorRowModel", name := "error", desc := "()J" } : Jvm.MethodName)) ∈ wg := wm 476 (by decide +kernel) (by decide +kernel)
theorem k_477 : (Jvm.Cond.code ({ cls := "OscillatorRowModel", name := "error", desc := "()J" } : Jvm.MethodName) prog_7_method_15_code (8 : Nat) (Option.some Jvm.ClassFile.FieldType.long)) ∈ wg := wm 477 (by decide +kernel) (by decide +kernel)
theorem k_478 : (Jvm.Cond.constantLong "OscillatorRowModel" (129 : Nat) (8 : Int64)) ∈ wg := wm 478 (by decide +kernel) (by decide +kernel)
theorem k_479 : (Jvm.Cond.methodLink "OscillatorRowModel" (131 : Nat) ({ cls := "OscillatorRowModel", name := "look", desc := "(II)Z" } : Jvm.MethodName)) ∈ wg := wm 479 (by decide +kernel) (by decide +kernel)
theorem k_481 : (Jvm.Cond.instanceMethod ({ cls := "OscillatorRowModel", name := "look", desc := "(II)Z" } : Jvm.MethodName)) ∈ wg := wm 481 (by decide +kernel) (by decide +kernel)
theorem k_482 : (Jvm.Cond.code ({ cls := "OscillatorRowModel", name := "look", desc := "(II)Z" } : Jvm.MethodName) prog_7_method_19_code (10 : Nat) (Option.some Jvm.ClassFile.FieldType.boolean)) ∈ wg := wm 482 (by decide +kernel) (by decide +kernel)
theorem k_483 : (Jvm.Cond.methodLink "OscillatorRowModel" (116 : Nat) ({ cls := "OscillatorRowModel", name := "note", desc := "(III)V" } : Jvm.MethodName)) ∈ wg := wm 483 (by decide +kernel) (by decide +kernel)
theorem k_485 : (Jvm.Cond.instanceMethod ({ cls := "OscillatorRowModel", name := "note", desc := "(III)V" } : Jvm.MethodName)) ∈ wg := wm 485 (by decide +kernel) (by decide +kernel)
theorem k_486 : (Jvm.Cond.code ({ cls := "OscillatorRowModel", name := "note", desc := "(III)V" } : Jvm.MethodName) prog_7_method_18_code (9 : Nat) (Option.none : Option Jvm.ClassFile.FieldType)) ∈ wg := wm 486 (by decide +kernel) (by decide +kernel)
theorem k_487 : (Jvm.Cond.methodLink "OscillatorRowLaw" (56 : Nat) ({ cls := "OscillatorRowModel", name := "place", desc := "(I)I" } : Jvm.MethodName)) ∈ wg := wm 487 (by decide +kernel) (by decide +kernel)
theorem k_488 : (Jvm.Cond.instanceMethod ({ cls := "OscillatorRowModel", name := "place", desc := "(I)I" } : Jvm.MethodName)) ∈ wg := wm 488 (by decide +kernel) (by decide +kernel)
theorem k_489 : (Jvm.Cond.selects "OscillatorRowModel" ({ cls := "OscillatorRowModel", name := "place", desc := "(I)I" } : Jvm.MethodName) ({ cls := "OscillatorRowModel", name := "place", desc := "(I)I" } : Jvm.MethodName)) ∈ wg := wm 489 (by decide +kernel) (by decide +kernel)
theorem k_490 : (Jvm.Cond.code ({ cls := "OscillatorRowModel", name := "place", desc := "(I)I" } : Jvm.MethodName) prog_7_method_21_code (2 : Nat) (Option.some Jvm.ClassFile.FieldType.int)) ∈ wg := wm 490 (by decide +kernel) (by decide +kernel)
theorem k_491 : (Jvm.Cond.methodLink "OscillatorRowLaw" (60 : Nat) ({ cls := "OscillatorRowModel", name := "speed", desc := "(I)I" } : Jvm.MethodName)) ∈ wg := wm 491 (by decide +kernel) (by decide +kernel)
theorem k_492 : (Jvm.Cond.instanceMethod ({ cls := "OscillatorRowModel", name := "speed", desc := "(I)I" } : Jvm.MethodName)) ∈ wg := wm 492 (by decide +kernel) (by decide +kernel)
theorem k_493 : (Jvm.Cond.selects "OscillatorRowModel" ({ cls := "OscillatorRowModel", name := "speed", desc := "(I)I" } : Jvm.MethodName) ({ cls := "OscillatorRowModel", name := "speed", desc := "(I)I" } : Jvm.MethodName)) ∈ wg := wm 493 (by decide +kernel) (by decide +kernel)
theorem k_494 : (Jvm.Cond.code ({ cls := "OscillatorRowModel", name := "speed", desc := "(I)I" } : Jvm.MethodName) prog_7_method_22_code (2 : Nat) (Option.some Jvm.ClassFile.FieldType.int)) ∈ wg := wm 494 (by decide +kernel) (by decide +kernel)
theorem k_495 : (Jvm.Cond.methodLink "OscillatorRowLaw" (65 : Nat) ({ cls := "OscillatorRowModel", name := "push", desc := "(I)J" } : Jvm.MethodName)) ∈ wg := wm 495 (by decide +kernel) (by decide +kernel)
theorem k_496 : (Jvm.Cond.instanceMethod ({ cls := "OscillatorRowModel", name := "push", desc := "(I)J" } : Jvm.MethodName)) ∈ wg := wm 496 (by decide +kernel) (by decide +kernel)
theorem k_497 : (Jvm.Cond.selects "OscillatorRowModel" ({ cls := "OscillatorRowModel", name := "push", desc := "(I)J" } : Jvm.MethodName) ({ cls := "OscillatorRowModel", name := "push", desc := "(I)J" } : Jvm.MethodName)) ∈ wg := wm 497 (by decide +kernel) (by decide +kernel)
theorem k_498 : (Jvm.Cond.code ({ cls := "OscillatorRowModel", name := "push", desc := "(I)J" } : Jvm.MethodName) prog_7_method_23_code (2 : Nat) (Option.some Jvm.ClassFile.FieldType.long)) ∈ wg := wm 498 (by decide +kernel) (by decide +kernel)
theorem k_499 : (Jvm.Cond.constantLong "OscillatorRowModel" (134 : Nat) (-2000000000 : Int64)) ∈ wg := wm 499 (by decide +kernel) (by decide +kernel)
theorem k_500 : (Jvm.Cond.methodLink "OscillatorRowLaw" (69 : Nat) ({ cls := "OscillatorRowModel", name := "hit", desc := "(II)I" } : Jvm.MethodName)) ∈ wg := wm 500 (by decide +kernel) (by decide +kernel)
theorem k_501 : (Jvm.Cond.instanceMethod ({ cls := "OscillatorRowModel", name := "hit", desc := "(II)I" } : Jvm.MethodName)) ∈ wg := wm 501 (by decide +kernel) (by decide +kernel)
theorem k_502 : (Jvm.Cond.selects "OscillatorRowModel" ({ cls := "OscillatorRowModel", name := "hit", desc := "(II)I" } : Jvm.MethodName) ({ cls := "OscillatorRowModel", name := "hit", desc := "(II)I" } : Jvm.MethodName)) ∈ wg := wm 502 (by decide +kernel) (by decide +kernel)
theorem k_503 : (Jvm.Cond.code ({ cls := "OscillatorRowModel", name := "hit", desc := "(II)I" } : Jvm.MethodName) prog_7_method_24_code (3 : Nat) (Option.some Jvm.ClassFile.FieldType.int)) ∈ wg := wm 503 (by decide +kernel) (by decide +kernel)
theorem k_504 : (Jvm.Cond.constant "OscillatorRowModel" (136 : Nat) (-2000000000 : Int32)) ∈ wg := wm 504 (by decide +kernel) (by decide +kernel)
theorem k_505 : (Jvm.Cond.methodLink "OscillatorRowLaw" (74 : Nat) ({ cls := "OscillatorRowModel", name := "clear", desc := "()I" } : Jvm.MethodName)) ∈ wg := wm 505 (by decide +kernel) (by decide +kernel)
theorem k_506 : (Jvm.Cond.instanceMethod ({ cls := "OscillatorRowModel", name := "clear", desc := "()I" } : Jvm.MethodName)) ∈ wg := wm 506 (by decide +kernel) (by decide +kernel)
theorem k_507 : (Jvm.Cond.selects "OscillatorRowModel" ({ cls := "OscillatorRowModel", name := "clear", desc := "()I" } : Jvm.MethodName) ({ cls := "OscillatorRowModel", name := "clear", desc := "()I" } : Jvm.MethodName)) ∈ wg := wm 507 (by decide +kernel) (by decide +kernel)
theorem k_508 : (Jvm.Cond.code ({ cls := "OscillatorRowModel", name := "clear", desc := "()I" } : Jvm.MethodName) prog_7_method_25_code (2 : Nat) (Option.some Jvm.ClassFile.FieldType.int)) ∈ wg := wm 508 (by decide +kernel) (by decide +kernel)
theorem k_509 : (Jvm.Cond.methodLink "OscillatorRowLaw" (78 : Nat) ({ cls := "OscillatorRowModel", name := "count", desc := "(I)I" } : Jvm.MethodName)) ∈ wg := wm 509 (by decide +kernel) (by decide +kernel)
theorem k_510 : (Jvm.Cond.instanceMethod ({ cls := "OscillatorRowModel", name := "count", desc := "(I)I" } : Jvm.MethodName)) ∈ wg := wm 510 (by decide +kernel) (by decide +kernel)
theorem k_511 : (Jvm.Cond.selects "OscillatorRowModel" ({ cls := "OscillatorRowModel", name := "count", desc := "(I)I" } : Jvm.MethodName) ({ cls := "OscillatorRowModel", name := "count", desc := "(I)I" } : Jvm.MethodName)) ∈ wg := wm 511 (by decide +kernel) (by decide +kernel)
theorem k_512 : (Jvm.Cond.code ({ cls := "OscillatorRowModel", name := "count", desc := "(I)I" } : Jvm.MethodName) prog_7_method_26_code (4 : Nat) (Option.some Jvm.ClassFile.FieldType.int)) ∈ wg := wm 512 (by decide +kernel) (by decide +kernel)
theorem p_0 : Cond.selects "OscillatorRow" (⟨"OscillatorRow", "isBody", "(I)Z"⟩ : MethodName) (⟨"OscillatorRow", "isBody", "(I)Z"⟩ : MethodName) ∈ wg := wq 0 (by decide +kernel) (by decide +kernel)
theorem p_1 : Cond.selects "OscillatorRow" (⟨"OscillatorRow", "fitFineness", "(I)V"⟩ : MethodName) (⟨"OscillatorRow", "fitFineness", "(I)V"⟩ : MethodName) ∈ wg := wq 1 (by decide +kernel) (by decide +kernel)
theorem p_2 : Cond.selects "OscillatorRow" (⟨"OscillatorRow", "fits", "(II)Z"⟩ : MethodName) (⟨"OscillatorRow", "fits", "(II)Z"⟩ : MethodName) ∈ wg := wq 2 (by decide +kernel) (by decide +kernel)
theorem p_3 : Cond.selects "OscillatorRow" (⟨"OscillatorRow", "tryUntilGood", "()J"⟩ : MethodName) (⟨"OscillatorRow", "tryUntilGood", "()J"⟩ : MethodName) ∈ wg := wq 3 (by decide +kernel) (by decide +kernel)
theorem p_4 : Cond.selects "OscillatorRow" (⟨"OscillatorRow", "errorOfTry", "()J"⟩ : MethodName) (⟨"OscillatorRow", "errorOfTry", "()J"⟩ : MethodName) ∈ wg := wq 4 (by decide +kernel) (by decide +kernel)
theorem p_5 : Cond.selects "OscillatorRow$Springs" (⟨"OscillatorRow$Springs", "changeSpeeds", "(LOscillatorRow$Motion;I)Z"⟩ : MethodName) (⟨"OscillatorRow$Springs", "changeSpeeds", "(LOscillatorRow$Motion;I)Z"⟩ : MethodName) ∈ wg := wq 5 (by decide +kernel) (by decide +kernel)
theorem p_6 : Cond.selects "OscillatorRow$Springs" (⟨"OscillatorRow$Springs", "changePlaces", "(LOscillatorRow$Motion;I)Z"⟩ : MethodName) (⟨"OscillatorRow$Springs", "changePlaces", "(LOscillatorRow$Motion;I)Z"⟩ : MethodName) ∈ wg := wq 6 (by decide +kernel) (by decide +kernel)
theorem p_7 : Cond.selects "OscillatorRow" (⟨"OscillatorRow", "takeStride", "(IJ)V"⟩ : MethodName) (⟨"OscillatorRow", "takeStride", "(IJ)V"⟩ : MethodName) ∈ wg := wq 7 (by decide +kernel) (by decide +kernel)
theorem p_8 : Cond.selects "OscillatorRow" (⟨"OscillatorRow", "lookAtWatches", "(I)Z"⟩ : MethodName) (⟨"OscillatorRow", "lookAtWatches", "(I)Z"⟩ : MethodName) ∈ wg := wq 8 (by decide +kernel) (by decide +kernel)
theorem p_9 : Cond.selects "OscillatorRow" (⟨"OscillatorRow", "watchesSet", "()I"⟩ : MethodName) (⟨"OscillatorRow", "watchesSet", "()I"⟩ : MethodName) ∈ wg := wq 9 (by decide +kernel) (by decide +kernel)
theorem p_10 : Cond.selects "OscillatorRowModel" (⟨"OscillatorRowModel", "no", "(I)Z"⟩ : MethodName) (⟨"OscillatorRowModel", "no", "(I)Z"⟩ : MethodName) ∈ wg := wq 10 (by decide +kernel) (by decide +kernel)
theorem p_11 : Cond.selects "OscillatorRowModel" (⟨"OscillatorRowModel", "off", "(II)Z"⟩ : MethodName) (⟨"OscillatorRowModel", "off", "(II)Z"⟩ : MethodName) ∈ wg := wq 11 (by decide +kernel) (by decide +kernel)
theorem p_12 : Cond.selects "OscillatorRowModel" (⟨"OscillatorRowModel", "stride", "(I)Z"⟩ : MethodName) (⟨"OscillatorRowModel", "stride", "(I)Z"⟩ : MethodName) ∈ wg := wq 12 (by decide +kernel) (by decide +kernel)
theorem p_13 : Cond.selects "OscillatorRowModel" (⟨"OscillatorRowModel", "ticks", "()I"⟩ : MethodName) (⟨"OscillatorRowModel", "ticks", "()I"⟩ : MethodName) ∈ wg := wq 13 (by decide +kernel) (by decide +kernel)
theorem p_14 : Cond.selects "OscillatorRowModel" (⟨"OscillatorRowModel", "copy", "(II)V"⟩ : MethodName) (⟨"OscillatorRowModel", "copy", "(II)V"⟩ : MethodName) ∈ wg := wq 14 (by decide +kernel) (by decide +kernel)
theorem p_15 : Cond.selects "OscillatorRowModel" (⟨"OscillatorRowModel", "step", "(II)Z"⟩ : MethodName) (⟨"OscillatorRowModel", "step", "(II)Z"⟩ : MethodName) ∈ wg := wq 15 (by decide +kernel) (by decide +kernel)
theorem p_16 : Cond.selects "OscillatorRowModel" (⟨"OscillatorRowModel", "pushIn", "(IIJ)J"⟩ : MethodName) (⟨"OscillatorRowModel", "pushIn", "(IIJ)J"⟩ : MethodName) ∈ wg := wq 16 (by decide +kernel) (by decide +kernel)
theorem p_17 : Cond.selects "OscillatorRowModel" (⟨"OscillatorRowModel", "kick", "(JI)J"⟩ : MethodName) (⟨"OscillatorRowModel", "kick", "(JI)J"⟩ : MethodName) ∈ wg := wq 17 (by decide +kernel) (by decide +kernel)
theorem p_18 : Cond.selects "OscillatorRowModel" (⟨"OscillatorRowModel", "far", "(J)Z"⟩ : MethodName) (⟨"OscillatorRowModel", "far", "(J)Z"⟩ : MethodName) ∈ wg := wq 18 (by decide +kernel) (by decide +kernel)
theorem p_19 : Cond.selects "OscillatorRowModel" (⟨"OscillatorRowModel", "error", "()J"⟩ : MethodName) (⟨"OscillatorRowModel", "error", "()J"⟩ : MethodName) ∈ wg := wq 19 (by decide +kernel) (by decide +kernel)
theorem p_20 : Cond.selects "OscillatorRowModel" (⟨"OscillatorRowModel", "look", "(II)Z"⟩ : MethodName) (⟨"OscillatorRowModel", "look", "(II)Z"⟩ : MethodName) ∈ wg := wq 20 (by decide +kernel) (by decide +kernel)
theorem p_21 : Cond.selects "OscillatorRowModel" (⟨"OscillatorRowModel", "note", "(III)V"⟩ : MethodName) (⟨"OscillatorRowModel", "note", "(III)V"⟩ : MethodName) ∈ wg := wq 21 (by decide +kernel) (by decide +kernel)
def T_H : u_T := fun k => match k with
  | 0 => ("OscillatorRow$Hits", "byWatch", "[I", true)
  | 1 => ("OscillatorRow$Hits", "atTime", "[I", true)
  | 2 => ("OscillatorRow$Hits", "withSpeed", "[I", true)
  | 3 => ("OscillatorRow$Hits", "kept", "I", false)
  | _ => ("OscillatorRow$Hits", "counted", "I", false)
def t_H : Nat → FieldType := fun k => match k with
  | 0 => .array .int
  | 1 => .array .int
  | 2 => .array .int
  | 3 => .int
  | _ => .int
theorem n_H_ok : ∀ a, a < 5 → ∀ b, b < 5 → a ≠ b → (T_H a).2.1 ≠ (T_H b).2.1 := by decide +kernel
theorem t_H_ok : ∀ k, k < 5 → parseFieldDescriptor (T_H k).2.2.1 = some (t_H k) := by decide +kernel
theorem i_H : ∀ w ∈ u_ws "OscillatorRow$Hits" T_H 5, w ∈ wg := by decide +kernel
def T_M : u_T := fun k => match k with
  | 0 => ("OscillatorRow$Motion", "places", "[J", true)
  | _ => ("OscillatorRow$Motion", "speeds", "[J", true)
def t_M : Nat → FieldType := fun k => match k with
  | 0 => .array .long
  | _ => .array .long
theorem n_M_ok : ∀ a, a < 2 → ∀ b, b < 2 → a ≠ b → (T_M a).2.1 ≠ (T_M b).2.1 := by decide +kernel
theorem t_M_ok : ∀ k, k < 2 → parseFieldDescriptor (T_M k).2.2.1 = some (t_M k) := by decide +kernel
theorem i_M : ∀ w ∈ u_ws "OscillatorRow$Motion" T_M 2, w ∈ wg := by decide +kernel
def T_S : u_T := fun k => match k with
  | 0 => ("OscillatorRow$Springs", "bodies", "I", true)
  | 1 => ("OscillatorRow$Springs", "stiffnesses", "[I", true)
  | 2 => ("OscillatorRow$Springs", "drags", "[I", true)
  | 3 => ("OscillatorRow$Springs", "links", "[I", true)
  | _ => ("OscillatorRow$Springs", "forces", "[I", true)
def t_S : Nat → FieldType := fun k => match k with
  | 0 => .int
  | 1 => .array .int
  | 2 => .array .int
  | 3 => .array .int
  | _ => .array .int
theorem n_S_ok : ∀ a, a < 5 → ∀ b, b < 5 → a ≠ b → (T_S a).2.1 ≠ (T_S b).2.1 := by decide +kernel
theorem t_S_ok : ∀ k, k < 5 → parseFieldDescriptor (T_S k).2.2.1 = some (t_S k) := by decide +kernel
theorem i_S : ∀ w ∈ u_ws "OscillatorRow$Springs" T_S 5, w ∈ wg := by decide +kernel
def T_W : u_T := fun k => match k with
  | 0 => ("OscillatorRow$Watch", "watched", "I", false)
  | 1 => ("OscillatorRow$Watch", "level", "J", false)
  | 2 => ("OscillatorRow$Watch", "up", "Z", false)
  | _ => ("OscillatorRow$Watch", "action", "I", false)
def t_W : Nat → FieldType := fun k => match k with
  | 0 => .int
  | 1 => .long
  | 2 => .boolean
  | _ => .int
theorem n_W_ok : ∀ a, a < 4 → ∀ b, b < 4 → a ≠ b → (T_W a).2.1 ≠ (T_W b).2.1 := by decide +kernel
theorem t_W_ok : ∀ k, k < 4 → parseFieldDescriptor (T_W k).2.2.1 = some (t_W k) := by decide +kernel
theorem i_W : ∀ w ∈ u_ws "OscillatorRow$Watch" T_W 4, w ∈ wg := by decide +kernel
def T_R : u_T := fun k => match k with
  | 0 => ("OscillatorRow", "bodies", "I", true)
  | 1 => ("OscillatorRow", "springs", "LOscillatorRow$Springs;", true)
  | 2 => ("OscillatorRow", "now", "LOscillatorRow$Motion;", true)
  | 3 => ("OscillatorRow", "before", "LOscillatorRow$Motion;", true)
  | 4 => ("OscillatorRow", "coarse", "LOscillatorRow$Motion;", true)
  | 5 => ("OscillatorRow", "fine", "LOscillatorRow$Motion;", true)
  | 6 => ("OscillatorRow", "watches", "[LOscillatorRow$Watch;", true)
  | 7 => ("OscillatorRow", "hits", "LOscillatorRow$Hits;", true)
  | 8 => ("OscillatorRow", "allowedError", "I", false)
  | 9 => ("OscillatorRow", "time", "I", false)
  | 10 => ("OscillatorRow", "fineness", "I", false)
  | 11 => ("OscillatorRow", "strides", "I", false)
  | 12 => ("OscillatorRow", "rejected", "I", false)
  | _ => ("OscillatorRow", "latestError", "J", false)
def t_R : Nat → FieldType := fun k => match k with
  | 0 => .int
  | 1 => .object "OscillatorRow$Springs"
  | 2 => .object "OscillatorRow$Motion"
  | 3 => .object "OscillatorRow$Motion"
  | 4 => .object "OscillatorRow$Motion"
  | 5 => .object "OscillatorRow$Motion"
  | 6 => .array (.object "OscillatorRow$Watch")
  | 7 => .object "OscillatorRow$Hits"
  | 8 => .int
  | 9 => .int
  | 10 => .int
  | 11 => .int
  | 12 => .int
  | _ => .long
theorem n_R_ok : ∀ a, a < 14 → ∀ b, b < 14 → a ≠ b → (T_R a).2.1 ≠ (T_R b).2.1 := by decide +kernel
theorem t_R_ok : ∀ k, k < 14 → parseFieldDescriptor (T_R k).2.2.1 = some (t_R k) := by decide +kernel
theorem i_R : ∀ w ∈ u_ws "OscillatorRow" T_R 14, w ∈ wg := by decide +kernel
def T_X : u_T := fun k => match k with
  | 0 => ("OscillatorRowModel", "bodies", "I", true)
  | 1 => ("OscillatorRowModel", "stiffness", "[J", true)
  | 2 => ("OscillatorRowModel", "drag", "[J", true)
  | 3 => ("OscillatorRowModel", "links", "[J", true)
  | 4 => ("OscillatorRowModel", "forces", "[J", true)
  | 5 => ("OscillatorRowModel", "place", "[J", true)
  | 6 => ("OscillatorRowModel", "speed", "[J", true)
  | 7 => ("OscillatorRowModel", "middle", "[J", true)
  | 8 => ("OscillatorRowModel", "wBody", "[I", true)
  | 9 => ("OscillatorRowModel", "wLevel", "[J", true)
  | 10 => ("OscillatorRowModel", "wUp", "[Z", true)
  | 11 => ("OscillatorRowModel", "wAction", "[I", true)
  | 12 => ("OscillatorRowModel", "wSet", "[Z", true)
  | 13 => ("OscillatorRowModel", "hits", "[I", true)
  | 14 => ("OscillatorRowModel", "before", "[J", true)
  | 15 => ("OscillatorRowModel", "hitCount", "I", false)
  | 16 => ("OscillatorRowModel", "time", "I", false)
  | 17 => ("OscillatorRowModel", "fineness", "I", false)
  | 18 => ("OscillatorRowModel", "strides", "I", false)
  | 19 => ("OscillatorRowModel", "rejected", "I", false)
  | 20 => ("OscillatorRowModel", "lastError", "I", false)
  | _ => ("OscillatorRowModel", "tolerance", "I", false)
def t_X : Nat → FieldType := fun k => match k with
  | 0 => .int
  | 1 => .array .long
  | 2 => .array .long
  | 3 => .array .long
  | 4 => .array .long
  | 5 => .array .long
  | 6 => .array .long
  | 7 => .array .long
  | 8 => .array .int
  | 9 => .array .long
  | 10 => .array .boolean
  | 11 => .array .int
  | 12 => .array .boolean
  | 13 => .array .int
  | 14 => .array .long
  | 15 => .int
  | 16 => .int
  | 17 => .int
  | 18 => .int
  | 19 => .int
  | 20 => .int
  | _ => .int
theorem n_X_ok : ∀ a, a < 22 → ∀ b, b < 22 → a ≠ b → (T_X a).2.1 ≠ (T_X b).2.1 := by decide +kernel
theorem t_X_ok : ∀ k, k < 22 → parseFieldDescriptor (T_X k).2.2.1 = some (t_X k) := by decide +kernel
theorem i_X : ∀ w ∈ u_ws "OscillatorRowModel" T_X 22, w ∈ wg := by decide +kernel
abbrev vwCl : List vw_C := [("OscillatorRow$Hits", T_H, 5), ("OscillatorRow$Motion", T_M, 2), ("OscillatorRow$Springs", T_S, 5), ("OscillatorRow$Watch", T_W, 4), ("OscillatorRow", T_R, 14), ("OscillatorRowModel", T_X, 22)]
abbrev tyv (cI cL cW cZ : ClassId) : List (ClassId × FieldType) := [(cI, .int), (cL, .long), (cW, .object "OscillatorRow$Watch"), (cZ, .boolean)]
abbrev y_R_init : MethodName := ⟨"OscillatorRow", "<init>", "(I)V"⟩
abbrev w_R_init : List Cond := .code y_R_init prog_1_method_1_code 3 none :: wg
abbrev y_S_init : MethodName := ⟨"OscillatorRow$Springs", "<init>", "(I)V"⟩
abbrev w_S_init : List Cond := .code y_S_init prog_4_method_1_code 2 none :: wg
abbrev y_M_init : MethodName := ⟨"OscillatorRow$Motion", "<init>", "(I)V"⟩
abbrev w_M_init : List Cond := .code y_M_init prog_3_method_1_code 2 none :: wg
abbrev y_W_init : MethodName := ⟨"OscillatorRow$Watch", "<init>", "()V"⟩
abbrev w_W_init : List Cond := .code y_W_init prog_5_method_1_code 1 none :: wg
abbrev y_H_init : MethodName := ⟨"OscillatorRow$Hits", "<init>", "()V"⟩
abbrev w_H_init : List Cond := .code y_H_init prog_2_method_1_code 1 none :: wg
abbrev y_R_body : MethodName := ⟨"OscillatorRow", "body", "(III)I"⟩
abbrev w_R_body : List Cond := .code y_R_body prog_1_method_2_code 4 (some .int) :: wg
abbrev y_R_isBody : MethodName := ⟨"OscillatorRow", "isBody", "(I)Z"⟩
abbrev w_R_isBody : List Cond := .code y_R_isBody prog_1_method_15_code 2 (some .boolean) :: wg
abbrev y_R_isSixteenths : MethodName := ⟨"OscillatorRow", "isSixteenths", "(I)Z"⟩
abbrev w_R_isSixteenths : List Cond := .code y_R_isSixteenths prog_1_method_16_code 1 (some .boolean) :: wg
abbrev y_R_link : MethodName := ⟨"OscillatorRow", "link", "(II)I"⟩
abbrev w_R_link : List Cond := .code y_R_link prog_1_method_3_code 3 (some .int) :: wg
abbrev y_R_set : MethodName := ⟨"OscillatorRow", "set", "(III)I"⟩
abbrev w_R_set : List Cond := .code y_R_set prog_1_method_4_code 4 (some .int) :: wg
abbrev y_R_isUnits : MethodName := ⟨"OscillatorRow", "isUnits", "(I)Z"⟩
abbrev w_R_isUnits : List Cond := .code y_R_isUnits prog_1_method_17_code 1 (some .boolean) :: wg
abbrev y_R_force : MethodName := ⟨"OscillatorRow", "force", "(II)I"⟩
abbrev w_R_force : List Cond := .code y_R_force prog_1_method_5_code 3 (some .int) :: wg
abbrev y_R_tolerance : MethodName := ⟨"OscillatorRow", "tolerance", "(I)I"⟩
abbrev w_R_tolerance : List Cond := .code y_R_tolerance prog_1_method_6_code 2 (some .int) :: wg
abbrev y_R_watch : MethodName := ⟨"OscillatorRow", "watch", "(IIIZI)I"⟩
abbrev w_R_watch : List Cond := .code y_R_watch prog_1_method_7_code 7 (some .int) :: wg
abbrev y_R_advance : MethodName := ⟨"OscillatorRow", "advance", "(I)I"⟩
abbrev w_R_advance : List Cond := .code y_R_advance prog_1_method_8_code 8 (some .int) :: wg
abbrev y_R_fitFineness : MethodName := ⟨"OscillatorRow", "fitFineness", "(I)V"⟩
abbrev w_R_fitFineness : List Cond := .code y_R_fitFineness prog_1_method_20_code 2 none :: wg
abbrev y_R_ticksOf : MethodName := ⟨"OscillatorRow", "ticksOf", "(I)I"⟩
abbrev w_R_ticksOf : List Cond := .code y_R_ticksOf prog_1_method_19_code 1 (some .int) :: wg
abbrev y_R_fits : MethodName := ⟨"OscillatorRow", "fits", "(II)Z"⟩
abbrev w_R_fits : List Cond := .code y_R_fits prog_1_method_21_code 3 (some .boolean) :: wg
abbrev y_R_tryUntilGood : MethodName := ⟨"OscillatorRow", "tryUntilGood", "()J"⟩
abbrev w_R_tryUntilGood : List Cond := .code y_R_tryUntilGood prog_1_method_22_code 3 (some .long) :: wg
abbrev y_R_errorOfTry : MethodName := ⟨"OscillatorRow", "errorOfTry", "()J"⟩
abbrev w_R_errorOfTry : List Cond := .code y_R_errorOfTry prog_1_method_23_code 2 (some .long) :: wg
abbrev y_M_copyFrom : MethodName := ⟨"OscillatorRow$Motion", "copyFrom", "(LOscillatorRow$Motion;)V"⟩
abbrev w_M_copyFrom : List Cond := .code y_M_copyFrom prog_3_method_2_code 2 none :: wg
abbrev y_S_step : MethodName := ⟨"OscillatorRow$Springs", "step", "(LOscillatorRow$Motion;I)Z"⟩
abbrev w_S_step : List Cond := .code y_S_step prog_4_method_3_code 3 (some .boolean) :: wg
abbrev y_S_changeSpeeds : MethodName := ⟨"OscillatorRow$Springs", "changeSpeeds", "(LOscillatorRow$Motion;I)Z"⟩
abbrev w_S_changeSpeeds : List Cond := .code y_S_changeSpeeds prog_4_method_4_code 7 (some .boolean) :: wg
abbrev y_S_pushOn : MethodName := ⟨"OscillatorRow$Springs", "pushOn", "(ILOscillatorRow$Motion;)J"⟩
abbrev w_S_pushOn : List Cond := .code y_S_pushOn prog_4_method_2_code 7 (some .long) :: wg
abbrev y_S_roundedPart : MethodName := ⟨"OscillatorRow$Springs", "roundedPart", "(JI)J"⟩
abbrev w_S_roundedPart : List Cond := .code y_S_roundedPart prog_4_method_6_code 5 (some .long) :: wg
abbrev y_S_isNear : MethodName := ⟨"OscillatorRow$Springs", "isNear", "(J)Z"⟩
abbrev w_S_isNear : List Cond := .code y_S_isNear prog_4_method_7_code 2 (some .boolean) :: wg
abbrev y_S_changePlaces : MethodName := ⟨"OscillatorRow$Springs", "changePlaces", "(LOscillatorRow$Motion;I)Z"⟩
abbrev w_S_changePlaces : List Cond := .code y_S_changePlaces prog_4_method_5_code 5 (some .boolean) :: wg
abbrev y_M_greatestDifference : MethodName := ⟨"OscillatorRow$Motion", "greatestDifference", "(LOscillatorRow$Motion;)J"⟩
abbrev w_M_greatestDifference : List Cond := .code y_M_greatestDifference prog_3_method_3_code 5 (some .long) :: wg
abbrev y_R_takeStride : MethodName := ⟨"OscillatorRow", "takeStride", "(IJ)V"⟩
abbrev w_R_takeStride : List Cond := .code y_R_takeStride prog_1_method_24_code 4 none :: wg
abbrev y_R_lookAtWatches : MethodName := ⟨"OscillatorRow", "lookAtWatches", "(I)Z"⟩
abbrev w_R_lookAtWatches : List Cond := .code y_R_lookAtWatches prog_1_method_25_code 7 (some .boolean) :: wg
abbrev y_W_isHitBy : MethodName := ⟨"OscillatorRow$Watch", "isHitBy", "(JJ)Z"⟩
abbrev w_W_isHitBy : List Cond := .code y_W_isHitBy prog_5_method_3_code 5 (some .boolean) :: wg
abbrev y_W_isSet : MethodName := ⟨"OscillatorRow$Watch", "isSet", "()Z"⟩
abbrev w_W_isSet : List Cond := .code y_W_isSet prog_5_method_2_code 1 (some .boolean) :: wg
abbrev y_W_ticksUntilLevel : MethodName := ⟨"OscillatorRow$Watch", "ticksUntilLevel", "(JJI)I"⟩
abbrev w_W_ticksUntilLevel : List Cond := .code y_W_ticksUntilLevel prog_5_method_4_code 10 (some .int) :: wg
abbrev y_H_note : MethodName := ⟨"OscillatorRow$Hits", "note", "(III)V"⟩
abbrev w_H_note : List Cond := .code y_H_note prog_2_method_3_code 4 none :: wg
abbrev y_R_place : MethodName := ⟨"OscillatorRow", "place", "(I)I"⟩
abbrev w_R_place : List Cond := .code y_R_place prog_1_method_9_code 2 (some .int) :: wg
abbrev y_R_speed : MethodName := ⟨"OscillatorRow", "speed", "(I)I"⟩
abbrev w_R_speed : List Cond := .code y_R_speed prog_1_method_10_code 2 (some .int) :: wg
abbrev y_R_push : MethodName := ⟨"OscillatorRow", "push", "(I)J"⟩
abbrev w_R_push : List Cond := .code y_R_push prog_1_method_11_code 2 (some .long) :: wg
abbrev y_R_hit : MethodName := ⟨"OscillatorRow", "hit", "(II)I"⟩
abbrev w_R_hit : List Cond := .code y_R_hit prog_1_method_12_code 3 (some .int) :: wg
abbrev y_H_keeps : MethodName := ⟨"OscillatorRow$Hits", "keeps", "(I)Z"⟩
abbrev w_H_keeps : List Cond := .code y_H_keeps prog_2_method_2_code 2 (some .boolean) :: wg
abbrev y_R_clear : MethodName := ⟨"OscillatorRow", "clear", "()I"⟩
abbrev w_R_clear : List Cond := .code y_R_clear prog_1_method_13_code 2 (some .int) :: wg
abbrev y_H_forget : MethodName := ⟨"OscillatorRow$Hits", "forget", "()V"⟩
abbrev w_H_forget : List Cond := .code y_H_forget prog_2_method_4_code 1 none :: wg
abbrev y_R_count : MethodName := ⟨"OscillatorRow", "count", "(I)I"⟩
abbrev w_R_count : List Cond := .code y_R_count prog_1_method_14_code 2 (some .int) :: wg
abbrev y_R_watchesSet : MethodName := ⟨"OscillatorRow", "watchesSet", "()I"⟩
abbrev w_R_watchesSet : List Cond := .code y_R_watchesSet prog_1_method_18_code 3 (some .int) :: wg
abbrev y_L_cell : MethodName := ⟨"OscillatorRowLaw", "cell", "([II)I"⟩
abbrev w_L_cell : List Cond := .code y_L_cell method_2_code 2 (some .int) :: wg
abbrev y_X_init : MethodName := ⟨"OscillatorRowModel", "<init>", "(I)V"⟩
abbrev w_X_init : List Cond := .code y_X_init prog_7_method_1_code 2 none :: wg
abbrev y_X_body : MethodName := ⟨"OscillatorRowModel", "body", "(III)I"⟩
abbrev w_X_body : List Cond := .code y_X_body prog_7_method_4_code 4 (some .int) :: wg
abbrev y_X_no : MethodName := ⟨"OscillatorRowModel", "no", "(I)Z"⟩
abbrev w_X_no : List Cond := .code y_X_no prog_7_method_2_code 2 (some .boolean) :: wg
abbrev y_X_link : MethodName := ⟨"OscillatorRowModel", "link", "(II)I"⟩
abbrev w_X_link : List Cond := .code y_X_link prog_7_method_5_code 3 (some .int) :: wg
abbrev y_X_set : MethodName := ⟨"OscillatorRowModel", "set", "(III)I"⟩
abbrev w_X_set : List Cond := .code y_X_set prog_7_method_6_code 4 (some .int) :: wg
abbrev y_X_off : MethodName := ⟨"OscillatorRowModel", "off", "(II)Z"⟩
abbrev w_X_off : List Cond := .code y_X_off prog_7_method_3_code 3 (some .boolean) :: wg
abbrev y_X_force : MethodName := ⟨"OscillatorRowModel", "force", "(II)I"⟩
abbrev w_X_force : List Cond := .code y_X_force prog_7_method_7_code 3 (some .int) :: wg
abbrev y_X_tolerance : MethodName := ⟨"OscillatorRowModel", "tolerance", "(I)I"⟩
abbrev w_X_tolerance : List Cond := .code y_X_tolerance prog_7_method_8_code 2 (some .int) :: wg
abbrev y_X_watch : MethodName := ⟨"OscillatorRowModel", "watch", "(IIIZI)I"⟩
abbrev w_X_watch : List Cond := .code y_X_watch prog_7_method_9_code 6 (some .int) :: wg
abbrev y_X_advance : MethodName := ⟨"OscillatorRowModel", "advance", "(I)I"⟩
abbrev w_X_advance : List Cond := .code y_X_advance prog_7_method_20_code 8 (some .int) :: wg
abbrev y_X_stride : MethodName := ⟨"OscillatorRowModel", "stride", "(I)Z"⟩
abbrev w_X_stride : List Cond := .code y_X_stride prog_7_method_17_code 3 (some .boolean) :: wg
abbrev y_X_ticks : MethodName := ⟨"OscillatorRowModel", "ticks", "()I"⟩
abbrev w_X_ticks : List Cond := .code y_X_ticks prog_7_method_16_code 1 (some .int) :: wg
abbrev y_X_copy : MethodName := ⟨"OscillatorRowModel", "copy", "(II)V"⟩
abbrev w_X_copy : List Cond := .code y_X_copy prog_7_method_14_code 4 none :: wg
abbrev y_X_step : MethodName := ⟨"OscillatorRowModel", "step", "(II)Z"⟩
abbrev w_X_step : List Cond := .code y_X_step prog_7_method_13_code 7 (some .boolean) :: wg
abbrev y_X_pushIn : MethodName := ⟨"OscillatorRowModel", "pushIn", "(IIJ)J"⟩
abbrev w_X_pushIn : List Cond := .code y_X_pushIn prog_7_method_10_code 9 (some .long) :: wg
abbrev y_X_kick : MethodName := ⟨"OscillatorRowModel", "kick", "(JI)J"⟩
abbrev w_X_kick : List Cond := .code y_X_kick prog_7_method_12_code 4 (some .long) :: wg
abbrev y_X_far : MethodName := ⟨"OscillatorRowModel", "far", "(J)Z"⟩
abbrev w_X_far : List Cond := .code y_X_far prog_7_method_11_code 3 (some .boolean) :: wg
abbrev y_X_error : MethodName := ⟨"OscillatorRowModel", "error", "()J"⟩
abbrev w_X_error : List Cond := .code y_X_error prog_7_method_15_code 8 (some .long) :: wg
abbrev y_X_look : MethodName := ⟨"OscillatorRowModel", "look", "(II)Z"⟩
abbrev w_X_look : List Cond := .code y_X_look prog_7_method_19_code 10 (some .boolean) :: wg
abbrev y_X_note : MethodName := ⟨"OscillatorRowModel", "note", "(III)V"⟩
abbrev w_X_note : List Cond := .code y_X_note prog_7_method_18_code 9 none :: wg
abbrev y_X_place : MethodName := ⟨"OscillatorRowModel", "place", "(I)I"⟩
abbrev w_X_place : List Cond := .code y_X_place prog_7_method_21_code 2 (some .int) :: wg
abbrev y_X_speed : MethodName := ⟨"OscillatorRowModel", "speed", "(I)I"⟩
abbrev w_X_speed : List Cond := .code y_X_speed prog_7_method_22_code 2 (some .int) :: wg
abbrev y_X_push : MethodName := ⟨"OscillatorRowModel", "push", "(I)J"⟩
abbrev w_X_push : List Cond := .code y_X_push prog_7_method_23_code 2 (some .long) :: wg
abbrev y_X_hit : MethodName := ⟨"OscillatorRowModel", "hit", "(II)I"⟩
abbrev w_X_hit : List Cond := .code y_X_hit prog_7_method_24_code 3 (some .int) :: wg
abbrev y_X_clear : MethodName := ⟨"OscillatorRowModel", "clear", "()I"⟩
abbrev w_X_clear : List Cond := .code y_X_clear prog_7_method_25_code 2 (some .int) :: wg
abbrev y_X_count : MethodName := ⟨"OscillatorRowModel", "count", "(I)I"⟩
abbrev w_X_count : List Cond := .code y_X_count prog_7_method_26_code 4 (some .int) :: wg
