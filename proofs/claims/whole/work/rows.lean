section
-- ===== PART A: goes FIRST, ahead of the names: the tables' words, and 'selects' of the private methods out of them =====
/-- a private method of a class that the tables say can be made, by its rows of tables_1 -/
def lw_okq (q : MethodName × Nat) : Prop := (q.1.cls ≠ "java/lang/invoke/MethodHandle" ∧ q.1.cls ≠ "java/lang/invoke/VarHandle") ∧ Cond.instantiable q.1.cls q.2 ∈ tables_1 ∧ Cond.privateMethod q.1 ∈ tables_1 ∧ Cond.instanceMethod q.1 ∈ tables_1
theorem lw_p0 : lw_okq (⟨"OscillatorRow", "isBody", "(I)Z"⟩, 14) := ⟨⟨by decide +kernel, by decide +kernel⟩, List.mem_of_getElem? (i := 10) (by decide +kernel), List.mem_of_getElem? (i := 162) (by decide +kernel), List.mem_of_getElem? (i := 163) (by decide +kernel)⟩
theorem lw_p1 : lw_okq (⟨"OscillatorRow", "fitFineness", "(I)V"⟩, 14) := ⟨⟨by decide +kernel, by decide +kernel⟩, List.mem_of_getElem? (i := 10) (by decide +kernel), List.mem_of_getElem? (i := 199) (by decide +kernel), List.mem_of_getElem? (i := 200) (by decide +kernel)⟩
theorem lw_p2 : lw_okq (⟨"OscillatorRow", "fits", "(II)Z"⟩, 14) := ⟨⟨by decide +kernel, by decide +kernel⟩, List.mem_of_getElem? (i := 10) (by decide +kernel), List.mem_of_getElem? (i := 206) (by decide +kernel), List.mem_of_getElem? (i := 207) (by decide +kernel)⟩
theorem lw_p3 : lw_okq (⟨"OscillatorRow", "tryUntilGood", "()J"⟩, 14) := ⟨⟨by decide +kernel, by decide +kernel⟩, List.mem_of_getElem? (i := 10) (by decide +kernel), List.mem_of_getElem? (i := 210) (by decide +kernel), List.mem_of_getElem? (i := 211) (by decide +kernel)⟩
theorem lw_p4 : lw_okq (⟨"OscillatorRow", "errorOfTry", "()J"⟩, 14) := ⟨⟨by decide +kernel, by decide +kernel⟩, List.mem_of_getElem? (i := 10) (by decide +kernel), List.mem_of_getElem? (i := 214) (by decide +kernel), List.mem_of_getElem? (i := 215) (by decide +kernel)⟩
theorem lw_p5 : lw_okq (⟨"OscillatorRow$Springs", "changeSpeeds", "(LOscillatorRow$Motion;I)Z"⟩, 5) := ⟨⟨by decide +kernel, by decide +kernel⟩, List.mem_of_getElem? (i := 24) (by decide +kernel), List.mem_of_getElem? (i := 229) (by decide +kernel), List.mem_of_getElem? (i := 230) (by decide +kernel)⟩
theorem lw_p6 : lw_okq (⟨"OscillatorRow$Springs", "changePlaces", "(LOscillatorRow$Motion;I)Z"⟩, 5) := ⟨⟨by decide +kernel, by decide +kernel⟩, List.mem_of_getElem? (i := 24) (by decide +kernel), List.mem_of_getElem? (i := 245) (by decide +kernel), List.mem_of_getElem? (i := 246) (by decide +kernel)⟩
theorem lw_p7 : lw_okq (⟨"OscillatorRow", "takeStride", "(IJ)V"⟩, 14) := ⟨⟨by decide +kernel, by decide +kernel⟩, List.mem_of_getElem? (i := 10) (by decide +kernel), List.mem_of_getElem? (i := 260) (by decide +kernel), List.mem_of_getElem? (i := 261) (by decide +kernel)⟩
theorem lw_p8 : lw_okq (⟨"OscillatorRow", "lookAtWatches", "(I)Z"⟩, 14) := ⟨⟨by decide +kernel, by decide +kernel⟩, List.mem_of_getElem? (i := 10) (by decide +kernel), List.mem_of_getElem? (i := 265) (by decide +kernel), List.mem_of_getElem? (i := 266) (by decide +kernel)⟩
theorem lw_p9 : lw_okq (⟨"OscillatorRow", "watchesSet", "()I"⟩, 14) := ⟨⟨by decide +kernel, by decide +kernel⟩, List.mem_of_getElem? (i := 10) (by decide +kernel), List.mem_of_getElem? (i := 317) (by decide +kernel), List.mem_of_getElem? (i := 318) (by decide +kernel)⟩
theorem lw_p10 : lw_okq (⟨"OscillatorRowModel", "no", "(I)Z"⟩, 22) := ⟨⟨by decide +kernel, by decide +kernel⟩, List.mem_of_getElem? (i := 325) (by decide +kernel), List.mem_of_getElem? (i := 403) (by decide +kernel), List.mem_of_getElem? (i := 404) (by decide +kernel)⟩
theorem lw_p11 : lw_okq (⟨"OscillatorRowModel", "off", "(II)Z"⟩, 22) := ⟨⟨by decide +kernel, by decide +kernel⟩, List.mem_of_getElem? (i := 325) (by decide +kernel), List.mem_of_getElem? (i := 416) (by decide +kernel), List.mem_of_getElem? (i := 417) (by decide +kernel)⟩
theorem lw_p12 : lw_okq (⟨"OscillatorRowModel", "stride", "(I)Z"⟩, 22) := ⟨⟨by decide +kernel, by decide +kernel⟩, List.mem_of_getElem? (i := 325) (by decide +kernel), List.mem_of_getElem? (i := 437) (by decide +kernel), List.mem_of_getElem? (i := 438) (by decide +kernel)⟩
theorem lw_p13 : lw_okq (⟨"OscillatorRowModel", "ticks", "()I"⟩, 22) := ⟨⟨by decide +kernel, by decide +kernel⟩, List.mem_of_getElem? (i := 325) (by decide +kernel), List.mem_of_getElem? (i := 441) (by decide +kernel), List.mem_of_getElem? (i := 442) (by decide +kernel)⟩
theorem lw_p14 : lw_okq (⟨"OscillatorRowModel", "copy", "(II)V"⟩, 22) := ⟨⟨by decide +kernel, by decide +kernel⟩, List.mem_of_getElem? (i := 325) (by decide +kernel), List.mem_of_getElem? (i := 445) (by decide +kernel), List.mem_of_getElem? (i := 446) (by decide +kernel)⟩
theorem lw_p15 : lw_okq (⟨"OscillatorRowModel", "step", "(II)Z"⟩, 22) := ⟨⟨by decide +kernel, by decide +kernel⟩, List.mem_of_getElem? (i := 325) (by decide +kernel), List.mem_of_getElem? (i := 449) (by decide +kernel), List.mem_of_getElem? (i := 450) (by decide +kernel)⟩
def lw_privs_1 : List (MethodName × Nat) := [(⟨"OscillatorRow", "isBody", "(I)Z"⟩, 14), (⟨"OscillatorRow", "fitFineness", "(I)V"⟩, 14), (⟨"OscillatorRow", "fits", "(II)Z"⟩, 14), (⟨"OscillatorRow", "tryUntilGood", "()J"⟩, 14), (⟨"OscillatorRow", "errorOfTry", "()J"⟩, 14), (⟨"OscillatorRow$Springs", "changeSpeeds", "(LOscillatorRow$Motion;I)Z"⟩, 5), (⟨"OscillatorRow$Springs", "changePlaces", "(LOscillatorRow$Motion;I)Z"⟩, 5), (⟨"OscillatorRow", "takeStride", "(IJ)V"⟩, 14), (⟨"OscillatorRow", "lookAtWatches", "(I)Z"⟩, 14), (⟨"OscillatorRow", "watchesSet", "()I"⟩, 14), (⟨"OscillatorRowModel", "no", "(I)Z"⟩, 22), (⟨"OscillatorRowModel", "off", "(II)Z"⟩, 22), (⟨"OscillatorRowModel", "stride", "(I)Z"⟩, 22), (⟨"OscillatorRowModel", "ticks", "()I"⟩, 22), (⟨"OscillatorRowModel", "copy", "(II)V"⟩, 22), (⟨"OscillatorRowModel", "step", "(II)Z"⟩, 22)]
theorem lw_r1 : ∀ q ∈ lw_privs_1, lw_okq q := List.forall_mem_cons.mpr ⟨lw_p0, List.forall_mem_cons.mpr ⟨lw_p1, List.forall_mem_cons.mpr ⟨lw_p2, List.forall_mem_cons.mpr ⟨lw_p3, List.forall_mem_cons.mpr ⟨lw_p4, List.forall_mem_cons.mpr ⟨lw_p5, List.forall_mem_cons.mpr ⟨lw_p6, List.forall_mem_cons.mpr ⟨lw_p7, List.forall_mem_cons.mpr ⟨lw_p8, List.forall_mem_cons.mpr ⟨lw_p9, List.forall_mem_cons.mpr ⟨lw_p10, List.forall_mem_cons.mpr ⟨lw_p11, List.forall_mem_cons.mpr ⟨lw_p12, List.forall_mem_cons.mpr ⟨lw_p13, List.forall_mem_cons.mpr ⟨lw_p14, List.forall_mem_cons.mpr ⟨lw_p15, fun _ h => absurd h List.not_mem_nil⟩⟩⟩⟩⟩⟩⟩⟩⟩⟩⟩⟩⟩⟩⟩⟩
theorem lw_p16 : lw_okq (⟨"OscillatorRowModel", "pushIn", "(IIJ)J"⟩, 22) := ⟨⟨by decide +kernel, by decide +kernel⟩, List.mem_of_getElem? (i := 325) (by decide +kernel), List.mem_of_getElem? (i := 453) (by decide +kernel), List.mem_of_getElem? (i := 454) (by decide +kernel)⟩
theorem lw_p17 : lw_okq (⟨"OscillatorRowModel", "kick", "(JI)J"⟩, 22) := ⟨⟨by decide +kernel, by decide +kernel⟩, List.mem_of_getElem? (i := 325) (by decide +kernel), List.mem_of_getElem? (i := 458) (by decide +kernel), List.mem_of_getElem? (i := 459) (by decide +kernel)⟩
theorem lw_p18 : lw_okq (⟨"OscillatorRowModel", "far", "(J)Z"⟩, 22) := ⟨⟨by decide +kernel, by decide +kernel⟩, List.mem_of_getElem? (i := 325) (by decide +kernel), List.mem_of_getElem? (i := 462) (by decide +kernel), List.mem_of_getElem? (i := 463) (by decide +kernel)⟩
theorem lw_p19 : lw_okq (⟨"OscillatorRowModel", "error", "()J"⟩, 22) := ⟨⟨by decide +kernel, by decide +kernel⟩, List.mem_of_getElem? (i := 325) (by decide +kernel), List.mem_of_getElem? (i := 468) (by decide +kernel), List.mem_of_getElem? (i := 469) (by decide +kernel)⟩
theorem lw_p20 : lw_okq (⟨"OscillatorRowModel", "look", "(II)Z"⟩, 22) := ⟨⟨by decide +kernel, by decide +kernel⟩, List.mem_of_getElem? (i := 325) (by decide +kernel), List.mem_of_getElem? (i := 473) (by decide +kernel), List.mem_of_getElem? (i := 474) (by decide +kernel)⟩
theorem lw_p21 : lw_okq (⟨"OscillatorRowModel", "note", "(III)V"⟩, 22) := ⟨⟨by decide +kernel, by decide +kernel⟩, List.mem_of_getElem? (i := 325) (by decide +kernel), List.mem_of_getElem? (i := 477) (by decide +kernel), List.mem_of_getElem? (i := 478) (by decide +kernel)⟩
def lw_privs_2 : List (MethodName × Nat) := [(⟨"OscillatorRowModel", "pushIn", "(IIJ)J"⟩, 22), (⟨"OscillatorRowModel", "kick", "(JI)J"⟩, 22), (⟨"OscillatorRowModel", "far", "(J)Z"⟩, 22), (⟨"OscillatorRowModel", "error", "()J"⟩, 22), (⟨"OscillatorRowModel", "look", "(II)Z"⟩, 22), (⟨"OscillatorRowModel", "note", "(III)V"⟩, 22)]
theorem lw_r2 : ∀ q ∈ lw_privs_2, lw_okq q := List.forall_mem_cons.mpr ⟨lw_p16, List.forall_mem_cons.mpr ⟨lw_p17, List.forall_mem_cons.mpr ⟨lw_p18, List.forall_mem_cons.mpr ⟨lw_p19, List.forall_mem_cons.mpr ⟨lw_p20, List.forall_mem_cons.mpr ⟨lw_p21, fun _ h => absurd h List.not_mem_nil⟩⟩⟩⟩⟩⟩
def lw_privs : List (MethodName × Nat) := lw_privs_1 ++ (lw_privs_2)
def lw_tbl : List Cond := k2_sels lw_privs ++ tables_1
theorem lw_privs_ok : ∀ q ∈ lw_privs, lw_okq q := by
  show ∀ q ∈ lw_privs_1 ++ (lw_privs_2), lw_okq q
  exact List.forall_mem_append.mpr ⟨lw_r1, lw_r2⟩
/-! Names, words by their places, decode rows: written by program out of the claim's own texts. -/
def wg : List Cond := lw_tbl.filter goodWord
def isN : Cond → Bool
  | .fieldLinkNest .. => true
  | .methodLinkNest .. => true
  | .arrayOver (.object _) => true
  | _ => false
def wn : List Cond := tables_1.filter isN
theorem wm {w : Cond} (i : Nat) (h : tables_1[i]? = some w) (g : goodWord w = true) : w ∈ wg := List.mem_filter.mpr ⟨List.mem_append_right _ (List.mem_of_getElem? h), g⟩
theorem wq {w : Cond} (i : Nat) (h : (k2_sels lw_privs)[i]? = some w) (g : goodWord w = true) : w ∈ wg := List.mem_filter.mpr ⟨List.mem_append_left _ (List.mem_of_getElem? h), g⟩
theorem wj {w : Cond} (i : Nat) (h : tables_1[i]? = some w) (g : isN w = true) : w ∈ wn := List.mem_filter.mpr ⟨List.mem_of_getElem? h, g⟩
theorem k_0 : (Jvm.Cond.initialized "OscillatorRowLaw") ∈ wg := wm 0 (by decide +kernel) (by decide +kernel)
theorem k_1 : (Jvm.Cond.initialized "OscillatorRow") ∈ wg := wm 1 (by decide +kernel) (by decide +kernel)
theorem k_2 : (Jvm.Cond.initialized "java/lang/Math") ∈ wg := wm 2 (by decide +kernel) (by decide +kernel)
theorem k_3 : (Jvm.Cond.initialized "OscillatorRow$Springs") ∈ wg := wm 3 (by decide +kernel) (by decide +kernel)
theorem k_4 : (Jvm.Cond.initialized "OscillatorRow$Motion") ∈ wg := wm 4 (by decide +kernel) (by decide +kernel)
theorem k_5 : (Jvm.Cond.initialized "OscillatorRow$Watch") ∈ wg := wm 5 (by decide +kernel) (by decide +kernel)
theorem k_6 : (Jvm.Cond.initialized "OscillatorRow$Hits") ∈ wg := wm 6 (by decide +kernel) (by decide +kernel)
theorem k_7 : (Jvm.Cond.initialized "OscillatorRowModel") ∈ wg := wm 7 (by decide +kernel) (by decide +kernel)
theorem k_8 : (Jvm.Cond.initialized "java/lang/System") ∈ wg := wm 8 (by decide +kernel) (by decide +kernel)
theorem k_9 : (Jvm.Cond.classLink "OscillatorRowLaw" (7 : Nat) "OscillatorRow") ∈ wg := wm 9 (by decide +kernel) (by decide +kernel)
theorem k_10 : (Jvm.Cond.instantiable "OscillatorRow" (14 : Nat)) ∈ wg := wm 10 (by decide +kernel) (by decide +kernel)
theorem k_11 : (Jvm.Cond.methodLink "OscillatorRowLaw" (15 : Nat) ({ cls := "OscillatorRow", name := "<init>", desc := "(I)V" } : Jvm.MethodName)) ∈ wg := wm 11 (by decide +kernel) (by decide +kernel)
theorem k_12 : (Jvm.Cond.instanceMethod ({ cls := "OscillatorRow", name := "<init>", desc := "(I)V" } : Jvm.MethodName)) ∈ wg := wm 12 (by decide +kernel) (by decide +kernel)
theorem k_13 : (Jvm.Cond.code ({ cls := "OscillatorRow", name := "<init>", desc := "(I)V" } : Jvm.MethodName) prog_1_method_1_code (3 : Nat) (Option.none : Option Jvm.ClassFile.FieldType)) ∈ wg := wm 13 (by decide +kernel) (by decide +kernel)
theorem k_14 : (Jvm.Cond.methodLink "OscillatorRow" (1 : Nat) ({ cls := "java/lang/Object", name := "<init>", desc := "()V" } : Jvm.MethodName)) ∈ wg := wm 14 (by decide +kernel) (by decide +kernel)
theorem k_15 : (Jvm.Cond.instanceMethod ({ cls := "java/lang/Object", name := "<init>", desc := "()V" } : Jvm.MethodName)) ∈ wg := wm 15 (by decide +kernel) (by decide +kernel)
theorem k_16 : (Jvm.Cond.code ({ cls := "java/lang/Object", name := "<init>", desc := "()V" } : Jvm.MethodName) object_method_1_code (1 : Nat) (Option.none : Option Jvm.ClassFile.FieldType)) ∈ wg := wm 16 (by decide +kernel) (by decide +kernel)
theorem k_17 : (Jvm.Cond.methodLink "OscillatorRow" (9 : Nat) ({ cls := "java/lang/Math", name := "min", desc := "(II)I" } : Jvm.MethodName)) ∈ wg := wm 17 (by decide +kernel) (by decide +kernel)
theorem k_18 : (Jvm.Cond.static ({ cls := "java/lang/Math", name := "min", desc := "(II)I" } : Jvm.MethodName)) ∈ wg := wm 18 (by decide +kernel) (by decide +kernel)
theorem k_19 : (Jvm.Cond.code ({ cls := "java/lang/Math", name := "min", desc := "(II)I" } : Jvm.MethodName) prog_8_method_69_code (2 : Nat) (Option.some Jvm.ClassFile.FieldType.int)) ∈ wg := wm 19 (by decide +kernel) (by decide +kernel)
theorem k_20 : (Jvm.Cond.methodLink "OscillatorRow" (15 : Nat) ({ cls := "java/lang/Math", name := "max", desc := "(II)I" } : Jvm.MethodName)) ∈ wg := wm 20 (by decide +kernel) (by decide +kernel)
theorem k_21 : (Jvm.Cond.static ({ cls := "java/lang/Math", name := "max", desc := "(II)I" } : Jvm.MethodName)) ∈ wg := wm 21 (by decide +kernel) (by decide +kernel)
theorem k_22 : (Jvm.Cond.code ({ cls := "java/lang/Math", name := "max", desc := "(II)I" } : Jvm.MethodName) prog_8_method_65_code (2 : Nat) (Option.some Jvm.ClassFile.FieldType.int)) ∈ wg := wm 22 (by decide +kernel) (by decide +kernel)
theorem k_23 : (Jvm.Cond.classLink "OscillatorRow" (22 : Nat) "OscillatorRow$Springs") ∈ wg := wm 23 (by decide +kernel) (by decide +kernel)
theorem k_24 : (Jvm.Cond.instantiable "OscillatorRow$Springs" (5 : Nat)) ∈ wg := wm 24 (by decide +kernel) (by decide +kernel)
theorem k_25 : (Jvm.Cond.methodLink "OscillatorRow" (24 : Nat) ({ cls := "OscillatorRow$Springs", name := "<init>", desc := "(I)V" } : Jvm.MethodName)) ∈ wg := wm 25 (by decide +kernel) (by decide +kernel)
theorem k_26 : (Jvm.Cond.instanceMethod ({ cls := "OscillatorRow$Springs", name := "<init>", desc := "(I)V" } : Jvm.MethodName)) ∈ wg := wm 26 (by decide +kernel) (by decide +kernel)
theorem k_27 : (Jvm.Cond.code ({ cls := "OscillatorRow$Springs", name := "<init>", desc := "(I)V" } : Jvm.MethodName) prog_4_method_1_code (2 : Nat) (Option.none : Option Jvm.ClassFile.FieldType)) ∈ wg := wm 27 (by decide +kernel) (by decide +kernel)
theorem k_28 : (Jvm.Cond.methodLink "OscillatorRow$Springs" (1 : Nat) ({ cls := "java/lang/Object", name := "<init>", desc := "()V" } : Jvm.MethodName)) ∈ wg := wm 28 (by decide +kernel) (by decide +kernel)
theorem k_29 : (Jvm.Cond.fieldLink "OscillatorRow$Springs" (7 : Nat) "OscillatorRow$Springs" "bodies" "I") ∈ wg := wm 29 (by decide +kernel) (by decide +kernel)
theorem k_30 : (Jvm.Cond.fieldLink "OscillatorRow$Springs" (13 : Nat) "OscillatorRow$Springs" "stiffnesses" "[I") ∈ wg := wm 30 (by decide +kernel) (by decide +kernel)
theorem j_31 : (Jvm.Cond.fieldLinkNest "OscillatorRow" (71 : Nat) "OscillatorRow$Springs" "stiffnesses" "[I" "OscillatorRow") ∈ wn := wj 31 (by decide +kernel) rfl
theorem k_32 : (Jvm.Cond.fieldLink "OscillatorRow$Springs" (17 : Nat) "OscillatorRow$Springs" "drags" "[I") ∈ wg := wm 32 (by decide +kernel) (by decide +kernel)
theorem j_33 : (Jvm.Cond.fieldLinkNest "OscillatorRow" (75 : Nat) "OscillatorRow$Springs" "drags" "[I" "OscillatorRow") ∈ wn := wj 33 (by decide +kernel) rfl
theorem k_34 : (Jvm.Cond.fieldLink "OscillatorRow$Springs" (20 : Nat) "OscillatorRow$Springs" "links" "[I") ∈ wg := wm 34 (by decide +kernel) (by decide +kernel)
theorem j_35 : (Jvm.Cond.fieldLinkNest "OscillatorRow" (78 : Nat) "OscillatorRow$Springs" "links" "[I" "OscillatorRow") ∈ wn := wj 35 (by decide +kernel) rfl
theorem k_36 : (Jvm.Cond.fieldLink "OscillatorRow$Springs" (23 : Nat) "OscillatorRow$Springs" "forces" "[I") ∈ wg := wm 36 (by decide +kernel) (by decide +kernel)
theorem j_37 : (Jvm.Cond.fieldLinkNest "OscillatorRow" (91 : Nat) "OscillatorRow$Springs" "forces" "[I" "OscillatorRow") ∈ wn := wj 37 (by decide +kernel) rfl
theorem k_49 : (Jvm.Cond.arrayClass Jvm.ClassFile.FieldType.int) ∈ wg := wm 49 (by decide +kernel) (by decide +kernel)
theorem k_50 : (Jvm.Cond.classLink "OscillatorRow" (31 : Nat) "OscillatorRow$Motion") ∈ wg := wm 50 (by decide +kernel) (by decide +kernel)
theorem k_51 : (Jvm.Cond.instantiable "OscillatorRow$Motion" (2 : Nat)) ∈ wg := wm 51 (by decide +kernel) (by decide +kernel)
theorem k_52 : (Jvm.Cond.methodLink "OscillatorRow" (33 : Nat) ({ cls := "OscillatorRow$Motion", name := "<init>", desc := "(I)V" } : Jvm.MethodName)) ∈ wg := wm 52 (by decide +kernel) (by decide +kernel)
theorem k_53 : (Jvm.Cond.instanceMethod ({ cls := "OscillatorRow$Motion", name := "<init>", desc := "(I)V" } : Jvm.MethodName)) ∈ wg := wm 53 (by decide +kernel) (by decide +kernel)
theorem k_54 : (Jvm.Cond.code ({ cls := "OscillatorRow$Motion", name := "<init>", desc := "(I)V" } : Jvm.MethodName) prog_3_method_1_code (2 : Nat) (Option.none : Option Jvm.ClassFile.FieldType)) ∈ wg := wm 54 (by decide +kernel) (by decide +kernel)
theorem k_55 : (Jvm.Cond.methodLink "OscillatorRow$Motion" (1 : Nat) ({ cls := "java/lang/Object", name := "<init>", desc := "()V" } : Jvm.MethodName)) ∈ wg := wm 55 (by decide +kernel) (by decide +kernel)
theorem k_56 : (Jvm.Cond.fieldLink "OscillatorRow$Motion" (7 : Nat) "OscillatorRow$Motion" "places" "[J") ∈ wg := wm 56 (by decide +kernel) (by decide +kernel)
theorem j_57 : (Jvm.Cond.fieldLinkNest "OscillatorRow$Springs" (26 : Nat) "OscillatorRow$Motion" "places" "[J" "OscillatorRow") ∈ wn := wj 57 (by decide +kernel) rfl
theorem j_58 : (Jvm.Cond.fieldLinkNest "OscillatorRow" (84 : Nat) "OscillatorRow$Motion" "places" "[J" "OscillatorRow") ∈ wn := wj 58 (by decide +kernel) rfl
theorem k_59 : (Jvm.Cond.fieldLink "OscillatorRow$Motion" (13 : Nat) "OscillatorRow$Motion" "speeds" "[J") ∈ wg := wm 59 (by decide +kernel) (by decide +kernel)
theorem j_60 : (Jvm.Cond.fieldLinkNest "OscillatorRow$Springs" (32 : Nat) "OscillatorRow$Motion" "speeds" "[J" "OscillatorRow") ∈ wn := wj 60 (by decide +kernel) rfl
theorem j_61 : (Jvm.Cond.fieldLinkNest "OscillatorRow" (88 : Nat) "OscillatorRow$Motion" "speeds" "[J" "OscillatorRow") ∈ wn := wj 61 (by decide +kernel) rfl
theorem k_67 : (Jvm.Cond.arrayClass Jvm.ClassFile.FieldType.long) ∈ wg := wm 67 (by decide +kernel) (by decide +kernel)
theorem k_68 : (Jvm.Cond.classLink "OscillatorRow" (47 : Nat) "OscillatorRow$Watch") ∈ wg := wm 68 (by decide +kernel) (by decide +kernel)
theorem j_69 : (Jvm.Cond.arrayOver (Jvm.ClassFile.FieldType.object "OscillatorRow$Watch")) ∈ wn := wj 69 (by decide +kernel) rfl
theorem k_70 : (Jvm.Cond.instantiable "OscillatorRow$Watch" (4 : Nat)) ∈ wg := wm 70 (by decide +kernel) (by decide +kernel)
theorem j_71 : (Jvm.Cond.methodLinkNest "OscillatorRow" (53 : Nat) ({ cls := "OscillatorRow$Watch", name := "<init>", desc := "()V" } : Jvm.MethodName) "OscillatorRow") ∈ wn := wj 71 (by decide +kernel) rfl
theorem k_72 : (Jvm.Cond.instanceMethod ({ cls := "OscillatorRow$Watch", name := "<init>", desc := "()V" } : Jvm.MethodName)) ∈ wg := wm 72 (by decide +kernel) (by decide +kernel)
theorem k_73 : (Jvm.Cond.code ({ cls := "OscillatorRow$Watch", name := "<init>", desc := "()V" } : Jvm.MethodName) prog_5_method_1_code (1 : Nat) (Option.none : Option Jvm.ClassFile.FieldType)) ∈ wg := wm 73 (by decide +kernel) (by decide +kernel)
theorem k_74 : (Jvm.Cond.methodLink "OscillatorRow$Watch" (3 : Nat) ({ cls := "java/lang/Object", name := "<init>", desc := "()V" } : Jvm.MethodName)) ∈ wg := wm 74 (by decide +kernel) (by decide +kernel)
theorem j_75 : (Jvm.Cond.fieldLinkNest "OscillatorRow" (95 : Nat) "OscillatorRow$Watch" "watched" "I" "OscillatorRow") ∈ wn := wj 75 (by decide +kernel) rfl
theorem k_76 : (Jvm.Cond.fieldLink "OscillatorRow$Watch" (23 : Nat) "OscillatorRow$Watch" "level" "J") ∈ wg := wm 76 (by decide +kernel) (by decide +kernel)
theorem j_77 : (Jvm.Cond.fieldLinkNest "OscillatorRow" (98 : Nat) "OscillatorRow$Watch" "level" "J" "OscillatorRow") ∈ wn := wj 77 (by decide +kernel) rfl
theorem k_78 : (Jvm.Cond.fieldLink "OscillatorRow$Watch" (19 : Nat) "OscillatorRow$Watch" "up" "Z") ∈ wg := wm 78 (by decide +kernel) (by decide +kernel)
theorem j_79 : (Jvm.Cond.fieldLinkNest "OscillatorRow" (102 : Nat) "OscillatorRow$Watch" "up" "Z" "OscillatorRow") ∈ wn := wj 79 (by decide +kernel) rfl
theorem k_80 : (Jvm.Cond.fieldLink "OscillatorRow$Watch" (9 : Nat) "OscillatorRow$Watch" "action" "I") ∈ wg := wm 80 (by decide +kernel) (by decide +kernel)
theorem j_81 : (Jvm.Cond.fieldLinkNest "OscillatorRow" (106 : Nat) "OscillatorRow$Watch" "action" "I" "OscillatorRow") ∈ wn := wj 81 (by decide +kernel) rfl
theorem k_91 : (Jvm.Cond.classLink "OscillatorRow" (54 : Nat) "OscillatorRow$Hits") ∈ wg := wm 91 (by decide +kernel) (by decide +kernel)
theorem k_92 : (Jvm.Cond.instantiable "OscillatorRow$Hits" (4 : Nat)) ∈ wg := wm 92 (by decide +kernel) (by decide +kernel)
theorem j_93 : (Jvm.Cond.methodLinkNest "OscillatorRow" (56 : Nat) ({ cls := "OscillatorRow$Hits", name := "<init>", desc := "()V" } : Jvm.MethodName) "OscillatorRow") ∈ wn := wj 93 (by decide +kernel) rfl
theorem k_94 : (Jvm.Cond.instanceMethod ({ cls := "OscillatorRow$Hits", name := "<init>", desc := "()V" } : Jvm.MethodName)) ∈ wg := wm 94 (by decide +kernel) (by decide +kernel)
theorem k_95 : (Jvm.Cond.code ({ cls := "OscillatorRow$Hits", name := "<init>", desc := "()V" } : Jvm.MethodName) prog_2_method_1_code (1 : Nat) (Option.none : Option Jvm.ClassFile.FieldType)) ∈ wg := wm 95 (by decide +kernel) (by decide +kernel)
theorem k_96 : (Jvm.Cond.methodLink "OscillatorRow$Hits" (1 : Nat) ({ cls := "java/lang/Object", name := "<init>", desc := "()V" } : Jvm.MethodName)) ∈ wg := wm 96 (by decide +kernel) (by decide +kernel)
theorem k_97 : (Jvm.Cond.fieldLink "OscillatorRow$Hits" (9 : Nat) "OscillatorRow$Hits" "byWatch" "[I") ∈ wg := wm 97 (by decide +kernel) (by decide +kernel)
theorem j_98 : (Jvm.Cond.fieldLinkNest "OscillatorRow" (142 : Nat) "OscillatorRow$Hits" "byWatch" "[I" "OscillatorRow") ∈ wn := wj 98 (by decide +kernel) rfl
theorem k_99 : (Jvm.Cond.fieldLink "OscillatorRow$Hits" (13 : Nat) "OscillatorRow$Hits" "atTime" "[I") ∈ wg := wm 99 (by decide +kernel) (by decide +kernel)
theorem j_100 : (Jvm.Cond.fieldLinkNest "OscillatorRow" (145 : Nat) "OscillatorRow$Hits" "atTime" "[I" "OscillatorRow") ∈ wn := wj 100 (by decide +kernel) rfl
theorem k_101 : (Jvm.Cond.fieldLink "OscillatorRow$Hits" (16 : Nat) "OscillatorRow$Hits" "withSpeed" "[I") ∈ wg := wm 101 (by decide +kernel) (by decide +kernel)
theorem j_102 : (Jvm.Cond.fieldLinkNest "OscillatorRow" (148 : Nat) "OscillatorRow$Hits" "withSpeed" "[I" "OscillatorRow") ∈ wn := wj 102 (by decide +kernel) rfl
theorem k_103 : (Jvm.Cond.fieldLink "OscillatorRow$Hits" (19 : Nat) "OscillatorRow$Hits" "counted" "I") ∈ wg := wm 103 (by decide +kernel) (by decide +kernel)
theorem j_104 : (Jvm.Cond.fieldLinkNest "OscillatorRow" (151 : Nat) "OscillatorRow$Hits" "counted" "I" "OscillatorRow") ∈ wn := wj 104 (by decide +kernel) rfl
theorem k_114 : (Jvm.Cond.fieldLink "OscillatorRow" (18 : Nat) "OscillatorRow" "bodies" "I") ∈ wg := wm 114 (by decide +kernel) (by decide +kernel)
theorem k_115 : (Jvm.Cond.fieldLink "OscillatorRow" (27 : Nat) "OscillatorRow" "springs" "LOscillatorRow$Springs;") ∈ wg := wm 115 (by decide +kernel) (by decide +kernel)
theorem k_116 : (Jvm.Cond.fieldLink "OscillatorRow" (34 : Nat) "OscillatorRow" "now" "LOscillatorRow$Motion;") ∈ wg := wm 116 (by decide +kernel) (by decide +kernel)
theorem k_117 : (Jvm.Cond.fieldLink "OscillatorRow" (38 : Nat) "OscillatorRow" "before" "LOscillatorRow$Motion;") ∈ wg := wm 117 (by decide +kernel) (by decide +kernel)
theorem k_118 : (Jvm.Cond.fieldLink "OscillatorRow" (41 : Nat) "OscillatorRow" "coarse" "LOscillatorRow$Motion;") ∈ wg := wm 118 (by decide +kernel) (by decide +kernel)
theorem k_119 : (Jvm.Cond.fieldLink "OscillatorRow" (44 : Nat) "OscillatorRow" "fine" "LOscillatorRow$Motion;") ∈ wg := wm 119 (by decide +kernel) (by decide +kernel)
theorem k_120 : (Jvm.Cond.fieldLink "OscillatorRow" (49 : Nat) "OscillatorRow" "watches" "[LOscillatorRow$Watch;") ∈ wg := wm 120 (by decide +kernel) (by decide +kernel)
theorem k_121 : (Jvm.Cond.fieldLink "OscillatorRow" (57 : Nat) "OscillatorRow" "hits" "LOscillatorRow$Hits;") ∈ wg := wm 121 (by decide +kernel) (by decide +kernel)
theorem k_122 : (Jvm.Cond.fieldLink "OscillatorRow" (61 : Nat) "OscillatorRow" "allowedError" "I") ∈ wg := wm 122 (by decide +kernel) (by decide +kernel)
theorem k_123 : (Jvm.Cond.fieldLink "OscillatorRow" (154 : Nat) "OscillatorRow" "time" "I") ∈ wg := wm 123 (by decide +kernel) (by decide +kernel)
theorem k_124 : (Jvm.Cond.fieldLink "OscillatorRow" (118 : Nat) "OscillatorRow" "fineness" "I") ∈ wg := wm 124 (by decide +kernel) (by decide +kernel)
theorem k_125 : (Jvm.Cond.fieldLink "OscillatorRow" (157 : Nat) "OscillatorRow" "strides" "I") ∈ wg := wm 125 (by decide +kernel) (by decide +kernel)
theorem k_126 : (Jvm.Cond.fieldLink "OscillatorRow" (160 : Nat) "OscillatorRow" "rejected" "I") ∈ wg := wm 126 (by decide +kernel) (by decide +kernel)
theorem k_127 : (Jvm.Cond.fieldLink "OscillatorRow" (163 : Nat) "OscillatorRow" "latestError" "J") ∈ wg := wm 127 (by decide +kernel) (by decide +kernel)
theorem k_157 : (Jvm.Cond.methodLink "OscillatorRowLaw" (21 : Nat) ({ cls := "OscillatorRow", name := "body", desc := "(III)I" } : Jvm.MethodName)) ∈ wg := wm 157 (by decide +kernel) (by decide +kernel)
theorem k_158 : (Jvm.Cond.instanceMethod ({ cls := "OscillatorRow", name := "body", desc := "(III)I" } : Jvm.MethodName)) ∈ wg := wm 158 (by decide +kernel) (by decide +kernel)
theorem k_159 : (Jvm.Cond.selects "OscillatorRow" ({ cls := "OscillatorRow", name := "body", desc := "(III)I" } : Jvm.MethodName) ({ cls := "OscillatorRow", name := "body", desc := "(III)I" } : Jvm.MethodName)) ∈ wg := wm 159 (by decide +kernel) (by decide +kernel)
theorem k_160 : (Jvm.Cond.code ({ cls := "OscillatorRow", name := "body", desc := "(III)I" } : Jvm.MethodName) prog_1_method_2_code (4 : Nat) (Option.some Jvm.ClassFile.FieldType.int)) ∈ wg := wm 160 (by decide +kernel) (by decide +kernel)
theorem k_161 : (Jvm.Cond.methodLink "OscillatorRow" (64 : Nat) ({ cls := "OscillatorRow", name := "isBody", desc := "(I)Z" } : Jvm.MethodName)) ∈ wg := wm 161 (by decide +kernel) (by decide +kernel)
theorem k_163 : (Jvm.Cond.instanceMethod ({ cls := "OscillatorRow", name := "isBody", desc := "(I)Z" } : Jvm.MethodName)) ∈ wg := wm 163 (by decide +kernel) (by decide +kernel)
theorem k_164 : (Jvm.Cond.code ({ cls := "OscillatorRow", name := "isBody", desc := "(I)Z" } : Jvm.MethodName) prog_1_method_15_code (2 : Nat) (Option.some Jvm.ClassFile.FieldType.boolean)) ∈ wg := wm 164 (by decide +kernel) (by decide +kernel)
theorem k_165 : (Jvm.Cond.methodLink "OscillatorRow" (68 : Nat) ({ cls := "OscillatorRow", name := "isSixteenths", desc := "(I)Z" } : Jvm.MethodName)) ∈ wg := wm 165 (by decide +kernel) (by decide +kernel)
theorem k_166 : (Jvm.Cond.static ({ cls := "OscillatorRow", name := "isSixteenths", desc := "(I)Z" } : Jvm.MethodName)) ∈ wg := wm 166 (by decide +kernel) (by decide +kernel)
theorem k_167 : (Jvm.Cond.code ({ cls := "OscillatorRow", name := "isSixteenths", desc := "(I)Z" } : Jvm.MethodName) prog_1_method_16_code (1 : Nat) (Option.some Jvm.ClassFile.FieldType.boolean)) ∈ wg := wm 167 (by decide +kernel) (by decide +kernel)
theorem k_168 : (Jvm.Cond.methodLink "OscillatorRowLaw" (26 : Nat) ({ cls := "OscillatorRow", name := "link", desc := "(II)I" } : Jvm.MethodName)) ∈ wg := wm 168 (by decide +kernel) (by decide +kernel)
theorem k_169 : (Jvm.Cond.instanceMethod ({ cls := "OscillatorRow", name := "link", desc := "(II)I" } : Jvm.MethodName)) ∈ wg := wm 169 (by decide +kernel) (by decide +kernel)
theorem k_170 : (Jvm.Cond.selects "OscillatorRow" ({ cls := "OscillatorRow", name := "link", desc := "(II)I" } : Jvm.MethodName) ({ cls := "OscillatorRow", name := "link", desc := "(II)I" } : Jvm.MethodName)) ∈ wg := wm 170 (by decide +kernel) (by decide +kernel)
theorem k_171 : (Jvm.Cond.code ({ cls := "OscillatorRow", name := "link", desc := "(II)I" } : Jvm.MethodName) prog_1_method_3_code (3 : Nat) (Option.some Jvm.ClassFile.FieldType.int)) ∈ wg := wm 171 (by decide +kernel) (by decide +kernel)
theorem k_172 : (Jvm.Cond.methodLink "OscillatorRowLaw" (31 : Nat) ({ cls := "OscillatorRow", name := "set", desc := "(III)I" } : Jvm.MethodName)) ∈ wg := wm 172 (by decide +kernel) (by decide +kernel)
theorem k_173 : (Jvm.Cond.instanceMethod ({ cls := "OscillatorRow", name := "set", desc := "(III)I" } : Jvm.MethodName)) ∈ wg := wm 173 (by decide +kernel) (by decide +kernel)
theorem k_174 : (Jvm.Cond.selects "OscillatorRow" ({ cls := "OscillatorRow", name := "set", desc := "(III)I" } : Jvm.MethodName) ({ cls := "OscillatorRow", name := "set", desc := "(III)I" } : Jvm.MethodName)) ∈ wg := wm 174 (by decide +kernel) (by decide +kernel)
theorem k_175 : (Jvm.Cond.code ({ cls := "OscillatorRow", name := "set", desc := "(III)I" } : Jvm.MethodName) prog_1_method_4_code (4 : Nat) (Option.some Jvm.ClassFile.FieldType.int)) ∈ wg := wm 175 (by decide +kernel) (by decide +kernel)
theorem k_176 : (Jvm.Cond.methodLink "OscillatorRow" (81 : Nat) ({ cls := "OscillatorRow", name := "isUnits", desc := "(I)Z" } : Jvm.MethodName)) ∈ wg := wm 176 (by decide +kernel) (by decide +kernel)
theorem k_177 : (Jvm.Cond.static ({ cls := "OscillatorRow", name := "isUnits", desc := "(I)Z" } : Jvm.MethodName)) ∈ wg := wm 177 (by decide +kernel) (by decide +kernel)
theorem k_178 : (Jvm.Cond.code ({ cls := "OscillatorRow", name := "isUnits", desc := "(I)Z" } : Jvm.MethodName) prog_1_method_17_code (1 : Nat) (Option.some Jvm.ClassFile.FieldType.boolean)) ∈ wg := wm 178 (by decide +kernel) (by decide +kernel)
theorem k_179 : (Jvm.Cond.constant "OscillatorRow" (170 : Nat) (-1000000000 : Int32)) ∈ wg := wm 179 (by decide +kernel) (by decide +kernel)
theorem k_180 : (Jvm.Cond.constant "OscillatorRow" (171 : Nat) (1000000000 : Int32)) ∈ wg := wm 180 (by decide +kernel) (by decide +kernel)
theorem k_181 : (Jvm.Cond.methodLink "OscillatorRowLaw" (35 : Nat) ({ cls := "OscillatorRow", name := "force", desc := "(II)I" } : Jvm.MethodName)) ∈ wg := wm 181 (by decide +kernel) (by decide +kernel)
theorem k_182 : (Jvm.Cond.instanceMethod ({ cls := "OscillatorRow", name := "force", desc := "(II)I" } : Jvm.MethodName)) ∈ wg := wm 182 (by decide +kernel) (by decide +kernel)
theorem k_183 : (Jvm.Cond.selects "OscillatorRow" ({ cls := "OscillatorRow", name := "force", desc := "(II)I" } : Jvm.MethodName) ({ cls := "OscillatorRow", name := "force", desc := "(II)I" } : Jvm.MethodName)) ∈ wg := wm 183 (by decide +kernel) (by decide +kernel)
theorem k_184 : (Jvm.Cond.code ({ cls := "OscillatorRow", name := "force", desc := "(II)I" } : Jvm.MethodName) prog_1_method_5_code (3 : Nat) (Option.some Jvm.ClassFile.FieldType.int)) ∈ wg := wm 184 (by decide +kernel) (by decide +kernel)
theorem k_185 : (Jvm.Cond.methodLink "OscillatorRowLaw" (39 : Nat) ({ cls := "OscillatorRow", name := "tolerance", desc := "(I)I" } : Jvm.MethodName)) ∈ wg := wm 185 (by decide +kernel) (by decide +kernel)
theorem k_186 : (Jvm.Cond.instanceMethod ({ cls := "OscillatorRow", name := "tolerance", desc := "(I)I" } : Jvm.MethodName)) ∈ wg := wm 186 (by decide +kernel) (by decide +kernel)
theorem k_187 : (Jvm.Cond.selects "OscillatorRow" ({ cls := "OscillatorRow", name := "tolerance", desc := "(I)I" } : Jvm.MethodName) ({ cls := "OscillatorRow", name := "tolerance", desc := "(I)I" } : Jvm.MethodName)) ∈ wg := wm 187 (by decide +kernel) (by decide +kernel)
theorem k_188 : (Jvm.Cond.code ({ cls := "OscillatorRow", name := "tolerance", desc := "(I)I" } : Jvm.MethodName) prog_1_method_6_code (2 : Nat) (Option.some Jvm.ClassFile.FieldType.int)) ∈ wg := wm 188 (by decide +kernel) (by decide +kernel)
theorem k_189 : (Jvm.Cond.constant "OscillatorRow" (94 : Nat) (1000000 : Int32)) ∈ wg := wm 189 (by decide +kernel) (by decide +kernel)
theorem k_190 : (Jvm.Cond.methodLink "OscillatorRowLaw" (44 : Nat) ({ cls := "OscillatorRow", name := "watch", desc := "(IIIZI)I" } : Jvm.MethodName)) ∈ wg := wm 190 (by decide +kernel) (by decide +kernel)
theorem k_191 : (Jvm.Cond.instanceMethod ({ cls := "OscillatorRow", name := "watch", desc := "(IIIZI)I" } : Jvm.MethodName)) ∈ wg := wm 191 (by decide +kernel) (by decide +kernel)
theorem k_192 : (Jvm.Cond.selects "OscillatorRow" ({ cls := "OscillatorRow", name := "watch", desc := "(IIIZI)I" } : Jvm.MethodName) ({ cls := "OscillatorRow", name := "watch", desc := "(IIIZI)I" } : Jvm.MethodName)) ∈ wg := wm 192 (by decide +kernel) (by decide +kernel)
theorem k_193 : (Jvm.Cond.code ({ cls := "OscillatorRow", name := "watch", desc := "(IIIZI)I" } : Jvm.MethodName) prog_1_method_7_code (7 : Nat) (Option.some Jvm.ClassFile.FieldType.int)) ∈ wg := wm 193 (by decide +kernel) (by decide +kernel)
theorem k_194 : (Jvm.Cond.methodLink "OscillatorRowLaw" (49 : Nat) ({ cls := "OscillatorRow", name := "advance", desc := "(I)I" } : Jvm.MethodName)) ∈ wg := wm 194 (by decide +kernel) (by decide +kernel)
theorem k_195 : (Jvm.Cond.instanceMethod ({ cls := "OscillatorRow", name := "advance", desc := "(I)I" } : Jvm.MethodName)) ∈ wg := wm 195 (by decide +kernel) (by decide +kernel)
theorem k_196 : (Jvm.Cond.selects "OscillatorRow" ({ cls := "OscillatorRow", name := "advance", desc := "(I)I" } : Jvm.MethodName) ({ cls := "OscillatorRow", name := "advance", desc := "(I)I" } : Jvm.MethodName)) ∈ wg := wm 196 (by decide +kernel) (by decide +kernel)
theorem k_197 : (Jvm.Cond.code ({ cls := "OscillatorRow", name := "advance", desc := "(I)I" } : Jvm.MethodName) prog_1_method_8_code (8 : Nat) (Option.some Jvm.ClassFile.FieldType.int)) ∈ wg := wm 197 (by decide +kernel) (by decide +kernel)
theorem k_198 : (Jvm.Cond.methodLink "OscillatorRow" (109 : Nat) ({ cls := "OscillatorRow", name := "fitFineness", desc := "(I)V" } : Jvm.MethodName)) ∈ wg := wm 198 (by decide +kernel) (by decide +kernel)
theorem k_200 : (Jvm.Cond.instanceMethod ({ cls := "OscillatorRow", name := "fitFineness", desc := "(I)V" } : Jvm.MethodName)) ∈ wg := wm 200 (by decide +kernel) (by decide +kernel)
theorem k_201 : (Jvm.Cond.code ({ cls := "OscillatorRow", name := "fitFineness", desc := "(I)V" } : Jvm.MethodName) prog_1_method_20_code (2 : Nat) (Option.none : Option Jvm.ClassFile.FieldType)) ∈ wg := wm 201 (by decide +kernel) (by decide +kernel)
theorem k_202 : (Jvm.Cond.methodLink "OscillatorRow" (121 : Nat) ({ cls := "OscillatorRow", name := "ticksOf", desc := "(I)I" } : Jvm.MethodName)) ∈ wg := wm 202 (by decide +kernel) (by decide +kernel)
theorem k_203 : (Jvm.Cond.static ({ cls := "OscillatorRow", name := "ticksOf", desc := "(I)I" } : Jvm.MethodName)) ∈ wg := wm 203 (by decide +kernel) (by decide +kernel)
theorem k_204 : (Jvm.Cond.code ({ cls := "OscillatorRow", name := "ticksOf", desc := "(I)I" } : Jvm.MethodName) prog_1_method_19_code (1 : Nat) (Option.some Jvm.ClassFile.FieldType.int)) ∈ wg := wm 204 (by decide +kernel) (by decide +kernel)
theorem k_205 : (Jvm.Cond.methodLink "OscillatorRow" (176 : Nat) ({ cls := "OscillatorRow", name := "fits", desc := "(II)Z" } : Jvm.MethodName)) ∈ wg := wm 205 (by decide +kernel) (by decide +kernel)
theorem k_207 : (Jvm.Cond.instanceMethod ({ cls := "OscillatorRow", name := "fits", desc := "(II)Z" } : Jvm.MethodName)) ∈ wg := wm 207 (by decide +kernel) (by decide +kernel)
theorem k_208 : (Jvm.Cond.code ({ cls := "OscillatorRow", name := "fits", desc := "(II)Z" } : Jvm.MethodName) prog_1_method_21_code (3 : Nat) (Option.some Jvm.ClassFile.FieldType.boolean)) ∈ wg := wm 208 (by decide +kernel) (by decide +kernel)
theorem k_209 : (Jvm.Cond.methodLink "OscillatorRow" (112 : Nat) ({ cls := "OscillatorRow", name := "tryUntilGood", desc := "()J" } : Jvm.MethodName)) ∈ wg := wm 209 (by decide +kernel) (by decide +kernel)
theorem k_211 : (Jvm.Cond.instanceMethod ({ cls := "OscillatorRow", name := "tryUntilGood", desc := "()J" } : Jvm.MethodName)) ∈ wg := wm 211 (by decide +kernel) (by decide +kernel)
theorem k_212 : (Jvm.Cond.code ({ cls := "OscillatorRow", name := "tryUntilGood", desc := "()J" } : Jvm.MethodName) prog_1_method_22_code (3 : Nat) (Option.some Jvm.ClassFile.FieldType.long)) ∈ wg := wm 212 (by decide +kernel) (by decide +kernel)
theorem k_213 : (Jvm.Cond.methodLink "OscillatorRow" (180 : Nat) ({ cls := "OscillatorRow", name := "errorOfTry", desc := "()J" } : Jvm.MethodName)) ∈ wg := wm 213 (by decide +kernel) (by decide +kernel)
theorem k_215 : (Jvm.Cond.instanceMethod ({ cls := "OscillatorRow", name := "errorOfTry", desc := "()J" } : Jvm.MethodName)) ∈ wg := wm 215 (by decide +kernel) (by decide +kernel)
theorem k_216 : (Jvm.Cond.code ({ cls := "OscillatorRow", name := "errorOfTry", desc := "()J" } : Jvm.MethodName) prog_1_method_23_code (2 : Nat) (Option.some Jvm.ClassFile.FieldType.long)) ∈ wg := wm 216 (by decide +kernel) (by decide +kernel)
theorem k_217 : (Jvm.Cond.methodLink "OscillatorRow" (183 : Nat) ({ cls := "OscillatorRow$Motion", name := "copyFrom", desc := "(LOscillatorRow$Motion;)V" } : Jvm.MethodName)) ∈ wg := wm 217 (by decide +kernel) (by decide +kernel)
theorem k_218 : (Jvm.Cond.instanceMethod ({ cls := "OscillatorRow$Motion", name := "copyFrom", desc := "(LOscillatorRow$Motion;)V" } : Jvm.MethodName)) ∈ wg := wm 218 (by decide +kernel) (by decide +kernel)
theorem k_219 : (Jvm.Cond.selects "OscillatorRow$Motion" ({ cls := "OscillatorRow$Motion", name := "copyFrom", desc := "(LOscillatorRow$Motion;)V" } : Jvm.MethodName) ({ cls := "OscillatorRow$Motion", name := "copyFrom", desc := "(LOscillatorRow$Motion;)V" } : Jvm.MethodName)) ∈ wg := wm 219 (by decide +kernel) (by decide +kernel)
theorem k_220 : (Jvm.Cond.code ({ cls := "OscillatorRow$Motion", name := "copyFrom", desc := "(LOscillatorRow$Motion;)V" } : Jvm.MethodName) prog_3_method_2_code (2 : Nat) (Option.none : Option Jvm.ClassFile.FieldType)) ∈ wg := wm 220 (by decide +kernel) (by decide +kernel)
theorem k_221 : (Jvm.Cond.methodLink "OscillatorRow$Motion" (16 : Nat) ({ cls := "java/lang/System", name := "arraycopy", desc := "(Ljava/lang/Object;ILjava/lang/Object;II)V" } : Jvm.MethodName)) ∈ wg := wm 221 (by decide +kernel) (by decide +kernel)
theorem k_222 : (Jvm.Cond.static ({ cls := "java/lang/System", name := "arraycopy", desc := "(Ljava/lang/Object;ILjava/lang/Object;II)V" } : Jvm.MethodName)) ∈ wg := wm 222 (by decide +kernel) (by decide +kernel)
theorem k_223 : (Jvm.Cond.native ({ cls := "java/lang/System", name := "arraycopy", desc := "(Ljava/lang/Object;ILjava/lang/Object;II)V" } : Jvm.MethodName)) ∈ wg := wm 223 (by decide +kernel) (by decide +kernel)
theorem k_224 : (Jvm.Cond.methodLink "OscillatorRow" (187 : Nat) ({ cls := "OscillatorRow$Springs", name := "step", desc := "(LOscillatorRow$Motion;I)Z" } : Jvm.MethodName)) ∈ wg := wm 224 (by decide +kernel) (by decide +kernel)
theorem k_225 : (Jvm.Cond.instanceMethod ({ cls := "OscillatorRow$Springs", name := "step", desc := "(LOscillatorRow$Motion;I)Z" } : Jvm.MethodName)) ∈ wg := wm 225 (by decide +kernel) (by decide +kernel)
theorem k_226 : (Jvm.Cond.selects "OscillatorRow$Springs" ({ cls := "OscillatorRow$Springs", name := "step", desc := "(LOscillatorRow$Motion;I)Z" } : Jvm.MethodName) ({ cls := "OscillatorRow$Springs", name := "step", desc := "(LOscillatorRow$Motion;I)Z" } : Jvm.MethodName)) ∈ wg := wm 226 (by decide +kernel) (by decide +kernel)
theorem k_227 : (Jvm.Cond.code ({ cls := "OscillatorRow$Springs", name := "step", desc := "(LOscillatorRow$Motion;I)Z" } : Jvm.MethodName) prog_4_method_3_code (3 : Nat) (Option.some Jvm.ClassFile.FieldType.boolean)) ∈ wg := wm 227 (by decide +kernel) (by decide +kernel)
theorem k_228 : (Jvm.Cond.methodLink "OscillatorRow$Springs" (35 : Nat) ({ cls := "OscillatorRow$Springs", name := "changeSpeeds", desc := "(LOscillatorRow$Motion;I)Z" } : Jvm.MethodName)) ∈ wg := wm 228 (by decide +kernel) (by decide +kernel)
theorem k_230 : (Jvm.Cond.instanceMethod ({ cls := "OscillatorRow$Springs", name := "changeSpeeds", desc := "(LOscillatorRow$Motion;I)Z" } : Jvm.MethodName)) ∈ wg := wm 230 (by decide +kernel) (by decide +kernel)
theorem k_231 : (Jvm.Cond.code ({ cls := "OscillatorRow$Springs", name := "changeSpeeds", desc := "(LOscillatorRow$Motion;I)Z" } : Jvm.MethodName) prog_4_method_4_code (7 : Nat) (Option.some Jvm.ClassFile.FieldType.boolean)) ∈ wg := wm 231 (by decide +kernel) (by decide +kernel)
theorem k_232 : (Jvm.Cond.methodLink "OscillatorRow$Springs" (42 : Nat) ({ cls := "OscillatorRow$Springs", name := "pushOn", desc := "(ILOscillatorRow$Motion;)J" } : Jvm.MethodName)) ∈ wg := wm 232 (by decide +kernel) (by decide +kernel)
theorem k_233 : (Jvm.Cond.instanceMethod ({ cls := "OscillatorRow$Springs", name := "pushOn", desc := "(ILOscillatorRow$Motion;)J" } : Jvm.MethodName)) ∈ wg := wm 233 (by decide +kernel) (by decide +kernel)
theorem k_234 : (Jvm.Cond.selects "OscillatorRow$Springs" ({ cls := "OscillatorRow$Springs", name := "pushOn", desc := "(ILOscillatorRow$Motion;)J" } : Jvm.MethodName) ({ cls := "OscillatorRow$Springs", name := "pushOn", desc := "(ILOscillatorRow$Motion;)J" } : Jvm.MethodName)) ∈ wg := wm 234 (by decide +kernel) (by decide +kernel)
theorem k_235 : (Jvm.Cond.code ({ cls := "OscillatorRow$Springs", name := "pushOn", desc := "(ILOscillatorRow$Motion;)J" } : Jvm.MethodName) prog_4_method_2_code (7 : Nat) (Option.some Jvm.ClassFile.FieldType.long)) ∈ wg := wm 235 (by decide +kernel) (by decide +kernel)
theorem k_236 : (Jvm.Cond.methodLink "OscillatorRow$Springs" (46 : Nat) ({ cls := "OscillatorRow$Springs", name := "roundedPart", desc := "(JI)J" } : Jvm.MethodName)) ∈ wg := wm 236 (by decide +kernel) (by decide +kernel)
theorem k_237 : (Jvm.Cond.static ({ cls := "OscillatorRow$Springs", name := "roundedPart", desc := "(JI)J" } : Jvm.MethodName)) ∈ wg := wm 237 (by decide +kernel) (by decide +kernel)
theorem k_238 : (Jvm.Cond.code ({ cls := "OscillatorRow$Springs", name := "roundedPart", desc := "(JI)J" } : Jvm.MethodName) prog_4_method_6_code (5 : Nat) (Option.some Jvm.ClassFile.FieldType.long)) ∈ wg := wm 238 (by decide +kernel) (by decide +kernel)
theorem k_239 : (Jvm.Cond.methodLink "OscillatorRow$Springs" (50 : Nat) ({ cls := "OscillatorRow$Springs", name := "isNear", desc := "(J)Z" } : Jvm.MethodName)) ∈ wg := wm 239 (by decide +kernel) (by decide +kernel)
theorem k_240 : (Jvm.Cond.static ({ cls := "OscillatorRow$Springs", name := "isNear", desc := "(J)Z" } : Jvm.MethodName)) ∈ wg := wm 240 (by decide +kernel) (by decide +kernel)
theorem k_241 : (Jvm.Cond.code ({ cls := "OscillatorRow$Springs", name := "isNear", desc := "(J)Z" } : Jvm.MethodName) prog_4_method_7_code (2 : Nat) (Option.some Jvm.ClassFile.FieldType.boolean)) ∈ wg := wm 241 (by decide +kernel) (by decide +kernel)
theorem k_242 : (Jvm.Cond.constantLong "OscillatorRow$Springs" (54 : Nat) (-1024000000 : Int64)) ∈ wg := wm 242 (by decide +kernel) (by decide +kernel)
theorem k_243 : (Jvm.Cond.constantLong "OscillatorRow$Springs" (56 : Nat) (1024000000 : Int64)) ∈ wg := wm 243 (by decide +kernel) (by decide +kernel)
theorem k_244 : (Jvm.Cond.methodLink "OscillatorRow$Springs" (39 : Nat) ({ cls := "OscillatorRow$Springs", name := "changePlaces", desc := "(LOscillatorRow$Motion;I)Z" } : Jvm.MethodName)) ∈ wg := wm 244 (by decide +kernel) (by decide +kernel)
theorem k_246 : (Jvm.Cond.instanceMethod ({ cls := "OscillatorRow$Springs", name := "changePlaces", desc := "(LOscillatorRow$Motion;I)Z" } : Jvm.MethodName)) ∈ wg := wm 246 (by decide +kernel) (by decide +kernel)
theorem k_247 : (Jvm.Cond.code ({ cls := "OscillatorRow$Springs", name := "changePlaces", desc := "(LOscillatorRow$Motion;I)Z" } : Jvm.MethodName) prog_4_method_5_code (5 : Nat) (Option.some Jvm.ClassFile.FieldType.boolean)) ∈ wg := wm 247 (by decide +kernel) (by decide +kernel)
theorem k_248 : (Jvm.Cond.methodLink "OscillatorRow" (191 : Nat) ({ cls := "OscillatorRow$Motion", name := "greatestDifference", desc := "(LOscillatorRow$Motion;)J" } : Jvm.MethodName)) ∈ wg := wm 248 (by decide +kernel) (by decide +kernel)
theorem k_249 : (Jvm.Cond.instanceMethod ({ cls := "OscillatorRow$Motion", name := "greatestDifference", desc := "(LOscillatorRow$Motion;)J" } : Jvm.MethodName)) ∈ wg := wm 249 (by decide +kernel) (by decide +kernel)
theorem k_250 : (Jvm.Cond.selects "OscillatorRow$Motion" ({ cls := "OscillatorRow$Motion", name := "greatestDifference", desc := "(LOscillatorRow$Motion;)J" } : Jvm.MethodName) ({ cls := "OscillatorRow$Motion", name := "greatestDifference", desc := "(LOscillatorRow$Motion;)J" } : Jvm.MethodName)) ∈ wg := wm 250 (by decide +kernel) (by decide +kernel)
theorem k_251 : (Jvm.Cond.code ({ cls := "OscillatorRow$Motion", name := "greatestDifference", desc := "(LOscillatorRow$Motion;)J" } : Jvm.MethodName) prog_3_method_3_code (5 : Nat) (Option.some Jvm.ClassFile.FieldType.long)) ∈ wg := wm 251 (by decide +kernel) (by decide +kernel)
theorem k_252 : (Jvm.Cond.methodLink "OscillatorRow$Motion" (22 : Nat) ({ cls := "java/lang/Math", name := "abs", desc := "(J)J" } : Jvm.MethodName)) ∈ wg := wm 252 (by decide +kernel) (by decide +kernel)
theorem k_253 : (Jvm.Cond.static ({ cls := "java/lang/Math", name := "abs", desc := "(J)J" } : Jvm.MethodName)) ∈ wg := wm 253 (by decide +kernel) (by decide +kernel)
theorem k_254 : (Jvm.Cond.code ({ cls := "java/lang/Math", name := "abs", desc := "(J)J" } : Jvm.MethodName) prog_8_method_61_code (2 : Nat) (Option.some Jvm.ClassFile.FieldType.long)) ∈ wg := wm 254 (by decide +kernel) (by decide +kernel)
theorem k_255 : (Jvm.Cond.methodLink "OscillatorRow$Motion" (28 : Nat) ({ cls := "java/lang/Math", name := "max", desc := "(JJ)J" } : Jvm.MethodName)) ∈ wg := wm 255 (by decide +kernel) (by decide +kernel)
theorem k_256 : (Jvm.Cond.static ({ cls := "java/lang/Math", name := "max", desc := "(JJ)J" } : Jvm.MethodName)) ∈ wg := wm 256 (by decide +kernel) (by decide +kernel)
theorem k_257 : (Jvm.Cond.code ({ cls := "java/lang/Math", name := "max", desc := "(JJ)J" } : Jvm.MethodName) prog_8_method_66_code (4 : Nat) (Option.some Jvm.ClassFile.FieldType.long)) ∈ wg := wm 257 (by decide +kernel) (by decide +kernel)
theorem k_258 : (Jvm.Cond.constantLong "OscillatorRow" (116 : Nat) (-1 : Int64)) ∈ wg := wm 258 (by decide +kernel) (by decide +kernel)
theorem k_259 : (Jvm.Cond.methodLink "OscillatorRow" (125 : Nat) ({ cls := "OscillatorRow", name := "takeStride", desc := "(IJ)V" } : Jvm.MethodName)) ∈ wg := wm 259 (by decide +kernel) (by decide +kernel)
theorem k_261 : (Jvm.Cond.instanceMethod ({ cls := "OscillatorRow", name := "takeStride", desc := "(IJ)V" } : Jvm.MethodName)) ∈ wg := wm 261 (by decide +kernel) (by decide +kernel)
theorem k_262 : (Jvm.Cond.code ({ cls := "OscillatorRow", name := "takeStride", desc := "(IJ)V" } : Jvm.MethodName) prog_1_method_24_code (4 : Nat) (Option.none : Option Jvm.ClassFile.FieldType)) ∈ wg := wm 262 (by decide +kernel) (by decide +kernel)
theorem k_263 : (Jvm.Cond.constantLong "OscillatorRow" (195 : Nat) (8 : Int64)) ∈ wg := wm 263 (by decide +kernel) (by decide +kernel)
theorem k_264 : (Jvm.Cond.methodLink "OscillatorRow" (129 : Nat) ({ cls := "OscillatorRow", name := "lookAtWatches", desc := "(I)Z" } : Jvm.MethodName)) ∈ wg := wm 264 (by decide +kernel) (by decide +kernel)
theorem k_266 : (Jvm.Cond.instanceMethod ({ cls := "OscillatorRow", name := "lookAtWatches", desc := "(I)Z" } : Jvm.MethodName)) ∈ wg := wm 266 (by decide +kernel) (by decide +kernel)
theorem k_267 : (Jvm.Cond.code ({ cls := "OscillatorRow", name := "lookAtWatches", desc := "(I)Z" } : Jvm.MethodName) prog_1_method_25_code (7 : Nat) (Option.some Jvm.ClassFile.FieldType.boolean)) ∈ wg := wm 267 (by decide +kernel) (by decide +kernel)
theorem k_268 : (Jvm.Cond.methodLink "OscillatorRow" (197 : Nat) ({ cls := "OscillatorRow$Watch", name := "isHitBy", desc := "(JJ)Z" } : Jvm.MethodName)) ∈ wg := wm 268 (by decide +kernel) (by decide +kernel)
theorem k_269 : (Jvm.Cond.instanceMethod ({ cls := "OscillatorRow$Watch", name := "isHitBy", desc := "(JJ)Z" } : Jvm.MethodName)) ∈ wg := wm 269 (by decide +kernel) (by decide +kernel)
theorem k_270 : (Jvm.Cond.selects "OscillatorRow$Watch" ({ cls := "OscillatorRow$Watch", name := "isHitBy", desc := "(JJ)Z" } : Jvm.MethodName) ({ cls := "OscillatorRow$Watch", name := "isHitBy", desc := "(JJ)Z" } : Jvm.MethodName)) ∈ wg := wm 270 (by decide +kernel) (by decide +kernel)
theorem k_271 : (Jvm.Cond.code ({ cls := "OscillatorRow$Watch", name := "isHitBy", desc := "(JJ)Z" } : Jvm.MethodName) prog_5_method_3_code (5 : Nat) (Option.some Jvm.ClassFile.FieldType.boolean)) ∈ wg := wm 271 (by decide +kernel) (by decide +kernel)
theorem k_272 : (Jvm.Cond.methodLink "OscillatorRow$Watch" (15 : Nat) ({ cls := "OscillatorRow$Watch", name := "isSet", desc := "()Z" } : Jvm.MethodName)) ∈ wg := wm 272 (by decide +kernel) (by decide +kernel)
theorem k_273 : (Jvm.Cond.instanceMethod ({ cls := "OscillatorRow$Watch", name := "isSet", desc := "()Z" } : Jvm.MethodName)) ∈ wg := wm 273 (by decide +kernel) (by decide +kernel)
theorem k_274 : (Jvm.Cond.selects "OscillatorRow$Watch" ({ cls := "OscillatorRow$Watch", name := "isSet", desc := "()Z" } : Jvm.MethodName) ({ cls := "OscillatorRow$Watch", name := "isSet", desc := "()Z" } : Jvm.MethodName)) ∈ wg := wm 274 (by decide +kernel) (by decide +kernel)
theorem k_275 : (Jvm.Cond.code ({ cls := "OscillatorRow$Watch", name := "isSet", desc := "()Z" } : Jvm.MethodName) prog_5_method_2_code (1 : Nat) (Option.some Jvm.ClassFile.FieldType.boolean)) ∈ wg := wm 275 (by decide +kernel) (by decide +kernel)
theorem k_276 : (Jvm.Cond.methodLink "OscillatorRow" (201 : Nat) ({ cls := "OscillatorRow$Watch", name := "ticksUntilLevel", desc := "(JJI)I" } : Jvm.MethodName)) ∈ wg := wm 276 (by decide +kernel) (by decide +kernel)
theorem k_277 : (Jvm.Cond.instanceMethod ({ cls := "OscillatorRow$Watch", name := "ticksUntilLevel", desc := "(JJI)I" } : Jvm.MethodName)) ∈ wg := wm 277 (by decide +kernel) (by decide +kernel)
theorem k_278 : (Jvm.Cond.selects "OscillatorRow$Watch" ({ cls := "OscillatorRow$Watch", name := "ticksUntilLevel", desc := "(JJI)I" } : Jvm.MethodName) ({ cls := "OscillatorRow$Watch", name := "ticksUntilLevel", desc := "(JJI)I" } : Jvm.MethodName)) ∈ wg := wm 278 (by decide +kernel) (by decide +kernel)
theorem k_279 : (Jvm.Cond.code ({ cls := "OscillatorRow$Watch", name := "ticksUntilLevel", desc := "(JJI)I" } : Jvm.MethodName) prog_5_method_4_code (10 : Nat) (Option.some Jvm.ClassFile.FieldType.int)) ∈ wg := wm 279 (by decide +kernel) (by decide +kernel)
theorem k_280 : (Jvm.Cond.methodLink "OscillatorRow$Watch" (27 : Nat) ({ cls := "java/lang/Math", name := "abs", desc := "(J)J" } : Jvm.MethodName)) ∈ wg := wm 280 (by decide +kernel) (by decide +kernel)
theorem k_281 : (Jvm.Cond.methodLink "OscillatorRow" (205 : Nat) ({ cls := "OscillatorRow$Hits", name := "note", desc := "(III)V" } : Jvm.MethodName)) ∈ wg := wm 281 (by decide +kernel) (by decide +kernel)
theorem k_282 : (Jvm.Cond.instanceMethod ({ cls := "OscillatorRow$Hits", name := "note", desc := "(III)V" } : Jvm.MethodName)) ∈ wg := wm 282 (by decide +kernel) (by decide +kernel)
theorem k_283 : (Jvm.Cond.selects "OscillatorRow$Hits" ({ cls := "OscillatorRow$Hits", name := "note", desc := "(III)V" } : Jvm.MethodName) ({ cls := "OscillatorRow$Hits", name := "note", desc := "(III)V" } : Jvm.MethodName)) ∈ wg := wm 283 (by decide +kernel) (by decide +kernel)
theorem k_284 : (Jvm.Cond.code ({ cls := "OscillatorRow$Hits", name := "note", desc := "(III)V" } : Jvm.MethodName) prog_2_method_3_code (4 : Nat) (Option.none : Option Jvm.ClassFile.FieldType)) ∈ wg := wm 284 (by decide +kernel) (by decide +kernel)
theorem k_285 : (Jvm.Cond.methodLink "OscillatorRowLaw" (53 : Nat) ({ cls := "OscillatorRow", name := "place", desc := "(I)I" } : Jvm.MethodName)) ∈ wg := wm 285 (by decide +kernel) (by decide +kernel)
theorem k_286 : (Jvm.Cond.instanceMethod ({ cls := "OscillatorRow", name := "place", desc := "(I)I" } : Jvm.MethodName)) ∈ wg := wm 286 (by decide +kernel) (by decide +kernel)
theorem k_287 : (Jvm.Cond.selects "OscillatorRow" ({ cls := "OscillatorRow", name := "place", desc := "(I)I" } : Jvm.MethodName) ({ cls := "OscillatorRow", name := "place", desc := "(I)I" } : Jvm.MethodName)) ∈ wg := wm 287 (by decide +kernel) (by decide +kernel)
theorem k_288 : (Jvm.Cond.code ({ cls := "OscillatorRow", name := "place", desc := "(I)I" } : Jvm.MethodName) prog_1_method_9_code (2 : Nat) (Option.some Jvm.ClassFile.FieldType.int)) ∈ wg := wm 288 (by decide +kernel) (by decide +kernel)
theorem k_289 : (Jvm.Cond.methodLink "OscillatorRowLaw" (57 : Nat) ({ cls := "OscillatorRow", name := "speed", desc := "(I)I" } : Jvm.MethodName)) ∈ wg := wm 289 (by decide +kernel) (by decide +kernel)
theorem k_290 : (Jvm.Cond.instanceMethod ({ cls := "OscillatorRow", name := "speed", desc := "(I)I" } : Jvm.MethodName)) ∈ wg := wm 290 (by decide +kernel) (by decide +kernel)
theorem k_291 : (Jvm.Cond.selects "OscillatorRow" ({ cls := "OscillatorRow", name := "speed", desc := "(I)I" } : Jvm.MethodName) ({ cls := "OscillatorRow", name := "speed", desc := "(I)I" } : Jvm.MethodName)) ∈ wg := wm 291 (by decide +kernel) (by decide +kernel)
theorem k_292 : (Jvm.Cond.code ({ cls := "OscillatorRow", name := "speed", desc := "(I)I" } : Jvm.MethodName) prog_1_method_10_code (2 : Nat) (Option.some Jvm.ClassFile.FieldType.int)) ∈ wg := wm 292 (by decide +kernel) (by decide +kernel)
theorem k_293 : (Jvm.Cond.methodLink "OscillatorRowLaw" (61 : Nat) ({ cls := "OscillatorRow", name := "push", desc := "(I)J" } : Jvm.MethodName)) ∈ wg := wm 293 (by decide +kernel) (by decide +kernel)
theorem k_294 : (Jvm.Cond.instanceMethod ({ cls := "OscillatorRow", name := "push", desc := "(I)J" } : Jvm.MethodName)) ∈ wg := wm 294 (by decide +kernel) (by decide +kernel)
theorem k_295 : (Jvm.Cond.selects "OscillatorRow" ({ cls := "OscillatorRow", name := "push", desc := "(I)J" } : Jvm.MethodName) ({ cls := "OscillatorRow", name := "push", desc := "(I)J" } : Jvm.MethodName)) ∈ wg := wm 295 (by decide +kernel) (by decide +kernel)
theorem k_296 : (Jvm.Cond.code ({ cls := "OscillatorRow", name := "push", desc := "(I)J" } : Jvm.MethodName) prog_1_method_11_code (2 : Nat) (Option.some Jvm.ClassFile.FieldType.long)) ∈ wg := wm 296 (by decide +kernel) (by decide +kernel)
theorem k_297 : (Jvm.Cond.methodLink "OscillatorRow" (132 : Nat) ({ cls := "OscillatorRow$Springs", name := "pushOn", desc := "(ILOscillatorRow$Motion;)J" } : Jvm.MethodName)) ∈ wg := wm 297 (by decide +kernel) (by decide +kernel)
theorem k_298 : (Jvm.Cond.constantLong "OscillatorRow" (136 : Nat) (-2000000000 : Int64)) ∈ wg := wm 298 (by decide +kernel) (by decide +kernel)
theorem k_299 : (Jvm.Cond.methodLink "OscillatorRowLaw" (66 : Nat) ({ cls := "OscillatorRow", name := "hit", desc := "(II)I" } : Jvm.MethodName)) ∈ wg := wm 299 (by decide +kernel) (by decide +kernel)
theorem k_300 : (Jvm.Cond.instanceMethod ({ cls := "OscillatorRow", name := "hit", desc := "(II)I" } : Jvm.MethodName)) ∈ wg := wm 300 (by decide +kernel) (by decide +kernel)
theorem k_301 : (Jvm.Cond.selects "OscillatorRow" ({ cls := "OscillatorRow", name := "hit", desc := "(II)I" } : Jvm.MethodName) ({ cls := "OscillatorRow", name := "hit", desc := "(II)I" } : Jvm.MethodName)) ∈ wg := wm 301 (by decide +kernel) (by decide +kernel)
theorem k_302 : (Jvm.Cond.code ({ cls := "OscillatorRow", name := "hit", desc := "(II)I" } : Jvm.MethodName) prog_1_method_12_code (3 : Nat) (Option.some Jvm.ClassFile.FieldType.int)) ∈ wg := wm 302 (by decide +kernel) (by decide +kernel)
theorem k_303 : (Jvm.Cond.methodLink "OscillatorRow" (138 : Nat) ({ cls := "OscillatorRow$Hits", name := "keeps", desc := "(I)Z" } : Jvm.MethodName)) ∈ wg := wm 303 (by decide +kernel) (by decide +kernel)
theorem k_304 : (Jvm.Cond.instanceMethod ({ cls := "OscillatorRow$Hits", name := "keeps", desc := "(I)Z" } : Jvm.MethodName)) ∈ wg := wm 304 (by decide +kernel) (by decide +kernel)
theorem k_305 : (Jvm.Cond.selects "OscillatorRow$Hits" ({ cls := "OscillatorRow$Hits", name := "keeps", desc := "(I)Z" } : Jvm.MethodName) ({ cls := "OscillatorRow$Hits", name := "keeps", desc := "(I)Z" } : Jvm.MethodName)) ∈ wg := wm 305 (by decide +kernel) (by decide +kernel)
theorem k_306 : (Jvm.Cond.code ({ cls := "OscillatorRow$Hits", name := "keeps", desc := "(I)Z" } : Jvm.MethodName) prog_2_method_2_code (2 : Nat) (Option.some Jvm.ClassFile.FieldType.boolean)) ∈ wg := wm 306 (by decide +kernel) (by decide +kernel)
theorem k_307 : (Jvm.Cond.constant "OscillatorRow" (141 : Nat) (-2000000000 : Int32)) ∈ wg := wm 307 (by decide +kernel) (by decide +kernel)
theorem k_308 : (Jvm.Cond.methodLink "OscillatorRowLaw" (70 : Nat) ({ cls := "OscillatorRow", name := "clear", desc := "()I" } : Jvm.MethodName)) ∈ wg := wm 308 (by decide +kernel) (by decide +kernel)
theorem k_309 : (Jvm.Cond.instanceMethod ({ cls := "OscillatorRow", name := "clear", desc := "()I" } : Jvm.MethodName)) ∈ wg := wm 309 (by decide +kernel) (by decide +kernel)
theorem k_310 : (Jvm.Cond.selects "OscillatorRow" ({ cls := "OscillatorRow", name := "clear", desc := "()I" } : Jvm.MethodName) ({ cls := "OscillatorRow", name := "clear", desc := "()I" } : Jvm.MethodName)) ∈ wg := wm 310 (by decide +kernel) (by decide +kernel)
theorem k_311 : (Jvm.Cond.code ({ cls := "OscillatorRow", name := "clear", desc := "()I" } : Jvm.MethodName) prog_1_method_13_code (2 : Nat) (Option.some Jvm.ClassFile.FieldType.int)) ∈ wg := wm 311 (by decide +kernel) (by decide +kernel)
theorem k_312 : (Jvm.Cond.methodLink "OscillatorRowLaw" (75 : Nat) ({ cls := "OscillatorRow", name := "count", desc := "(I)I" } : Jvm.MethodName)) ∈ wg := wm 312 (by decide +kernel) (by decide +kernel)
theorem k_313 : (Jvm.Cond.instanceMethod ({ cls := "OscillatorRow", name := "count", desc := "(I)I" } : Jvm.MethodName)) ∈ wg := wm 313 (by decide +kernel) (by decide +kernel)
theorem k_314 : (Jvm.Cond.selects "OscillatorRow" ({ cls := "OscillatorRow", name := "count", desc := "(I)I" } : Jvm.MethodName) ({ cls := "OscillatorRow", name := "count", desc := "(I)I" } : Jvm.MethodName)) ∈ wg := wm 314 (by decide +kernel) (by decide +kernel)
theorem k_315 : (Jvm.Cond.code ({ cls := "OscillatorRow", name := "count", desc := "(I)I" } : Jvm.MethodName) prog_1_method_14_code (2 : Nat) (Option.some Jvm.ClassFile.FieldType.int)) ∈ wg := wm 315 (by decide +kernel) (by decide +kernel)
theorem k_316 : (Jvm.Cond.methodLink "OscillatorRow" (166 : Nat) ({ cls := "OscillatorRow", name := "watchesSet", desc := "()I" } : Jvm.MethodName)) ∈ wg := wm 316 (by decide +kernel) (by decide +kernel)
theorem k_318 : (Jvm.Cond.instanceMethod ({ cls := "OscillatorRow", name := "watchesSet", desc := "()I" } : Jvm.MethodName)) ∈ wg := wm 318 (by decide +kernel) (by decide +kernel)
theorem k_319 : (Jvm.Cond.code ({ cls := "OscillatorRow", name := "watchesSet", desc := "()I" } : Jvm.MethodName) prog_1_method_18_code (3 : Nat) (Option.some Jvm.ClassFile.FieldType.int)) ∈ wg := wm 319 (by decide +kernel) (by decide +kernel)
theorem k_320 : (Jvm.Cond.methodLink "OscillatorRow" (172 : Nat) ({ cls := "OscillatorRow$Watch", name := "isSet", desc := "()Z" } : Jvm.MethodName)) ∈ wg := wm 320 (by decide +kernel) (by decide +kernel)
theorem k_321 : (Jvm.Cond.methodLink "OscillatorRowLaw" (9 : Nat) ({ cls := "OscillatorRowLaw", name := "cell", desc := "([II)I" } : Jvm.MethodName)) ∈ wg := wm 321 (by decide +kernel) (by decide +kernel)
theorem k_322 : (Jvm.Cond.static ({ cls := "OscillatorRowLaw", name := "cell", desc := "([II)I" } : Jvm.MethodName)) ∈ wg := wm 322 (by decide +kernel) (by decide +kernel)
theorem k_323 : (Jvm.Cond.code ({ cls := "OscillatorRowLaw", name := "cell", desc := "([II)I" } : Jvm.MethodName) method_2_code (2 : Nat) (Option.some Jvm.ClassFile.FieldType.int)) ∈ wg := wm 323 (by decide +kernel) (by decide +kernel)
theorem k_324 : (Jvm.Cond.classLink "OscillatorRowLaw" (18 : Nat) "OscillatorRowModel") ∈ wg := wm 324 (by decide +kernel) (by decide +kernel)
theorem k_325 : (Jvm.Cond.instantiable "OscillatorRowModel" (22 : Nat)) ∈ wg := wm 325 (by decide +kernel) (by decide +kernel)
theorem k_326 : (Jvm.Cond.methodLink "OscillatorRowLaw" (20 : Nat) ({ cls := "OscillatorRowModel", name := "<init>", desc := "(I)V" } : Jvm.MethodName)) ∈ wg := wm 326 (by decide +kernel) (by decide +kernel)
theorem k_327 : (Jvm.Cond.instanceMethod ({ cls := "OscillatorRowModel", name := "<init>", desc := "(I)V" } : Jvm.MethodName)) ∈ wg := wm 327 (by decide +kernel) (by decide +kernel)
theorem k_328 : (Jvm.Cond.code ({ cls := "OscillatorRowModel", name := "<init>", desc := "(I)V" } : Jvm.MethodName) prog_7_method_1_code (2 : Nat) (Option.none : Option Jvm.ClassFile.FieldType)) ∈ wg := wm 328 (by decide +kernel) (by decide +kernel)
theorem k_329 : (Jvm.Cond.methodLink "OscillatorRowModel" (1 : Nat) ({ cls := "java/lang/Object", name := "<init>", desc := "()V" } : Jvm.MethodName)) ∈ wg := wm 329 (by decide +kernel) (by decide +kernel)
theorem k_330 : (Jvm.Cond.fieldLink "OscillatorRowModel" (58 : Nat) "OscillatorRowModel" "bodies" "I") ∈ wg := wm 330 (by decide +kernel) (by decide +kernel)
theorem k_331 : (Jvm.Cond.fieldLink "OscillatorRowModel" (7 : Nat) "OscillatorRowModel" "stiffness" "[J") ∈ wg := wm 331 (by decide +kernel) (by decide +kernel)
theorem k_332 : (Jvm.Cond.fieldLink "OscillatorRowModel" (13 : Nat) "OscillatorRowModel" "drag" "[J") ∈ wg := wm 332 (by decide +kernel) (by decide +kernel)
theorem k_333 : (Jvm.Cond.fieldLink "OscillatorRowModel" (16 : Nat) "OscillatorRowModel" "links" "[J") ∈ wg := wm 333 (by decide +kernel) (by decide +kernel)
theorem k_334 : (Jvm.Cond.fieldLink "OscillatorRowModel" (19 : Nat) "OscillatorRowModel" "forces" "[J") ∈ wg := wm 334 (by decide +kernel) (by decide +kernel)
theorem k_335 : (Jvm.Cond.fieldLink "OscillatorRowModel" (22 : Nat) "OscillatorRowModel" "place" "[J") ∈ wg := wm 335 (by decide +kernel) (by decide +kernel)
theorem k_336 : (Jvm.Cond.fieldLink "OscillatorRowModel" (25 : Nat) "OscillatorRowModel" "speed" "[J") ∈ wg := wm 336 (by decide +kernel) (by decide +kernel)
theorem k_337 : (Jvm.Cond.fieldLink "OscillatorRowModel" (28 : Nat) "OscillatorRowModel" "middle" "[J") ∈ wg := wm 337 (by decide +kernel) (by decide +kernel)
theorem k_338 : (Jvm.Cond.fieldLink "OscillatorRowModel" (31 : Nat) "OscillatorRowModel" "wBody" "[I") ∈ wg := wm 338 (by decide +kernel) (by decide +kernel)
theorem k_339 : (Jvm.Cond.fieldLink "OscillatorRowModel" (35 : Nat) "OscillatorRowModel" "wLevel" "[J") ∈ wg := wm 339 (by decide +kernel) (by decide +kernel)
theorem k_340 : (Jvm.Cond.fieldLink "OscillatorRowModel" (38 : Nat) "OscillatorRowModel" "wUp" "[Z") ∈ wg := wm 340 (by decide +kernel) (by decide +kernel)
theorem k_341 : (Jvm.Cond.fieldLink "OscillatorRowModel" (42 : Nat) "OscillatorRowModel" "wAction" "[I") ∈ wg := wm 341 (by decide +kernel) (by decide +kernel)
theorem k_342 : (Jvm.Cond.fieldLink "OscillatorRowModel" (45 : Nat) "OscillatorRowModel" "wSet" "[Z") ∈ wg := wm 342 (by decide +kernel) (by decide +kernel)
theorem k_343 : (Jvm.Cond.fieldLink "OscillatorRowModel" (48 : Nat) "OscillatorRowModel" "hits" "[I") ∈ wg := wm 343 (by decide +kernel) (by decide +kernel)
theorem k_344 : (Jvm.Cond.fieldLink "OscillatorRowModel" (51 : Nat) "OscillatorRowModel" "before" "[J") ∈ wg := wm 344 (by decide +kernel) (by decide +kernel)
theorem k_345 : (Jvm.Cond.fieldLink "OscillatorRowModel" (113 : Nat) "OscillatorRowModel" "hitCount" "I") ∈ wg := wm 345 (by decide +kernel) (by decide +kernel)
theorem k_346 : (Jvm.Cond.fieldLink "OscillatorRowModel" (96 : Nat) "OscillatorRowModel" "time" "I") ∈ wg := wm 346 (by decide +kernel) (by decide +kernel)
theorem k_347 : (Jvm.Cond.fieldLink "OscillatorRowModel" (89 : Nat) "OscillatorRowModel" "fineness" "I") ∈ wg := wm 347 (by decide +kernel) (by decide +kernel)
theorem k_348 : (Jvm.Cond.fieldLink "OscillatorRowModel" (123 : Nat) "OscillatorRowModel" "strides" "I") ∈ wg := wm 348 (by decide +kernel) (by decide +kernel)
theorem k_349 : (Jvm.Cond.fieldLink "OscillatorRowModel" (110 : Nat) "OscillatorRowModel" "rejected" "I") ∈ wg := wm 349 (by decide +kernel) (by decide +kernel)
theorem k_350 : (Jvm.Cond.fieldLink "OscillatorRowModel" (126 : Nat) "OscillatorRowModel" "lastError" "I") ∈ wg := wm 350 (by decide +kernel) (by decide +kernel)
theorem k_351 : (Jvm.Cond.fieldLink "OscillatorRowModel" (54 : Nat) "OscillatorRowModel" "tolerance" "I") ∈ wg := wm 351 (by decide +kernel) (by decide +kernel)
theorem k_397 : (Jvm.Cond.arrayClass Jvm.ClassFile.FieldType.boolean) ∈ wg := wm 397 (by decide +kernel) (by decide +kernel)
theorem k_398 : (Jvm.Cond.methodLink "OscillatorRowLaw" (25 : Nat) ({ cls := "OscillatorRowModel", name := "body", desc := "(III)I" } : Jvm.MethodName)) ∈ wg := wm 398 (by decide +kernel) (by decide +kernel)
theorem k_399 : (Jvm.Cond.instanceMethod ({ cls := "OscillatorRowModel", name := "body", desc := "(III)I" } : Jvm.MethodName)) ∈ wg := wm 399 (by decide +kernel) (by decide +kernel)
theorem k_400 : (Jvm.Cond.selects "OscillatorRowModel" ({ cls := "OscillatorRowModel", name := "body", desc := "(III)I" } : Jvm.MethodName) ({ cls := "OscillatorRowModel", name := "body", desc := "(III)I" } : Jvm.MethodName)) ∈ wg := wm 400 (by decide +kernel) (by decide +kernel)
theorem k_401 : (Jvm.Cond.code ({ cls := "OscillatorRowModel", name := "body", desc := "(III)I" } : Jvm.MethodName) prog_7_method_4_code (4 : Nat) (Option.some Jvm.ClassFile.FieldType.int)) ∈ wg := wm 401 (by decide +kernel) (by decide +kernel)
theorem k_402 : (Jvm.Cond.methodLink "OscillatorRowModel" (61 : Nat) ({ cls := "OscillatorRowModel", name := "no", desc := "(I)Z" } : Jvm.MethodName)) ∈ wg := wm 402 (by decide +kernel) (by decide +kernel)
theorem k_404 : (Jvm.Cond.instanceMethod ({ cls := "OscillatorRowModel", name := "no", desc := "(I)Z" } : Jvm.MethodName)) ∈ wg := wm 404 (by decide +kernel) (by decide +kernel)
theorem k_405 : (Jvm.Cond.code ({ cls := "OscillatorRowModel", name := "no", desc := "(I)Z" } : Jvm.MethodName) prog_7_method_2_code (2 : Nat) (Option.some Jvm.ClassFile.FieldType.boolean)) ∈ wg := wm 405 (by decide +kernel) (by decide +kernel)
theorem k_406 : (Jvm.Cond.methodLink "OscillatorRowLaw" (30 : Nat) ({ cls := "OscillatorRowModel", name := "link", desc := "(II)I" } : Jvm.MethodName)) ∈ wg := wm 406 (by decide +kernel) (by decide +kernel)
theorem k_407 : (Jvm.Cond.instanceMethod ({ cls := "OscillatorRowModel", name := "link", desc := "(II)I" } : Jvm.MethodName)) ∈ wg := wm 407 (by decide +kernel) (by decide +kernel)
theorem k_408 : (Jvm.Cond.selects "OscillatorRowModel" ({ cls := "OscillatorRowModel", name := "link", desc := "(II)I" } : Jvm.MethodName) ({ cls := "OscillatorRowModel", name := "link", desc := "(II)I" } : Jvm.MethodName)) ∈ wg := wm 408 (by decide +kernel) (by decide +kernel)
theorem k_409 : (Jvm.Cond.code ({ cls := "OscillatorRowModel", name := "link", desc := "(II)I" } : Jvm.MethodName) prog_7_method_5_code (3 : Nat) (Option.some Jvm.ClassFile.FieldType.int)) ∈ wg := wm 409 (by decide +kernel) (by decide +kernel)
theorem k_410 : (Jvm.Cond.methodLink "OscillatorRowLaw" (34 : Nat) ({ cls := "OscillatorRowModel", name := "set", desc := "(III)I" } : Jvm.MethodName)) ∈ wg := wm 410 (by decide +kernel) (by decide +kernel)
theorem k_411 : (Jvm.Cond.instanceMethod ({ cls := "OscillatorRowModel", name := "set", desc := "(III)I" } : Jvm.MethodName)) ∈ wg := wm 411 (by decide +kernel) (by decide +kernel)
theorem k_412 : (Jvm.Cond.selects "OscillatorRowModel" ({ cls := "OscillatorRowModel", name := "set", desc := "(III)I" } : Jvm.MethodName) ({ cls := "OscillatorRowModel", name := "set", desc := "(III)I" } : Jvm.MethodName)) ∈ wg := wm 412 (by decide +kernel) (by decide +kernel)
theorem k_413 : (Jvm.Cond.code ({ cls := "OscillatorRowModel", name := "set", desc := "(III)I" } : Jvm.MethodName) prog_7_method_6_code (4 : Nat) (Option.some Jvm.ClassFile.FieldType.int)) ∈ wg := wm 413 (by decide +kernel) (by decide +kernel)
theorem k_414 : (Jvm.Cond.constant "OscillatorRowModel" (65 : Nat) (1000000000 : Int32)) ∈ wg := wm 414 (by decide +kernel) (by decide +kernel)
theorem k_415 : (Jvm.Cond.methodLink "OscillatorRowModel" (66 : Nat) ({ cls := "OscillatorRowModel", name := "off", desc := "(II)Z" } : Jvm.MethodName)) ∈ wg := wm 415 (by decide +kernel) (by decide +kernel)
theorem k_417 : (Jvm.Cond.instanceMethod ({ cls := "OscillatorRowModel", name := "off", desc := "(II)Z" } : Jvm.MethodName)) ∈ wg := wm 417 (by decide +kernel) (by decide +kernel)
theorem k_418 : (Jvm.Cond.code ({ cls := "OscillatorRowModel", name := "off", desc := "(II)Z" } : Jvm.MethodName) prog_7_method_3_code (3 : Nat) (Option.some Jvm.ClassFile.FieldType.boolean)) ∈ wg := wm 418 (by decide +kernel) (by decide +kernel)
theorem k_419 : (Jvm.Cond.methodLink "OscillatorRowLaw" (38 : Nat) ({ cls := "OscillatorRowModel", name := "force", desc := "(II)I" } : Jvm.MethodName)) ∈ wg := wm 419 (by decide +kernel) (by decide +kernel)
theorem k_420 : (Jvm.Cond.instanceMethod ({ cls := "OscillatorRowModel", name := "force", desc := "(II)I" } : Jvm.MethodName)) ∈ wg := wm 420 (by decide +kernel) (by decide +kernel)
theorem k_421 : (Jvm.Cond.selects "OscillatorRowModel" ({ cls := "OscillatorRowModel", name := "force", desc := "(II)I" } : Jvm.MethodName) ({ cls := "OscillatorRowModel", name := "force", desc := "(II)I" } : Jvm.MethodName)) ∈ wg := wm 421 (by decide +kernel) (by decide +kernel)
theorem k_422 : (Jvm.Cond.code ({ cls := "OscillatorRowModel", name := "force", desc := "(II)I" } : Jvm.MethodName) prog_7_method_7_code (3 : Nat) (Option.some Jvm.ClassFile.FieldType.int)) ∈ wg := wm 422 (by decide +kernel) (by decide +kernel)
theorem k_423 : (Jvm.Cond.methodLink "OscillatorRowLaw" (43 : Nat) ({ cls := "OscillatorRowModel", name := "tolerance", desc := "(I)I" } : Jvm.MethodName)) ∈ wg := wm 423 (by decide +kernel) (by decide +kernel)
theorem k_424 : (Jvm.Cond.instanceMethod ({ cls := "OscillatorRowModel", name := "tolerance", desc := "(I)I" } : Jvm.MethodName)) ∈ wg := wm 424 (by decide +kernel) (by decide +kernel)
theorem k_425 : (Jvm.Cond.selects "OscillatorRowModel" ({ cls := "OscillatorRowModel", name := "tolerance", desc := "(I)I" } : Jvm.MethodName) ({ cls := "OscillatorRowModel", name := "tolerance", desc := "(I)I" } : Jvm.MethodName)) ∈ wg := wm 425 (by decide +kernel) (by decide +kernel)
theorem k_426 : (Jvm.Cond.code ({ cls := "OscillatorRowModel", name := "tolerance", desc := "(I)I" } : Jvm.MethodName) prog_7_method_8_code (2 : Nat) (Option.some Jvm.ClassFile.FieldType.int)) ∈ wg := wm 426 (by decide +kernel) (by decide +kernel)
theorem k_427 : (Jvm.Cond.constant "OscillatorRowModel" (70 : Nat) (1000000 : Int32)) ∈ wg := wm 427 (by decide +kernel) (by decide +kernel)
theorem k_428 : (Jvm.Cond.methodLink "OscillatorRowLaw" (48 : Nat) ({ cls := "OscillatorRowModel", name := "watch", desc := "(IIIZI)I" } : Jvm.MethodName)) ∈ wg := wm 428 (by decide +kernel) (by decide +kernel)
theorem k_429 : (Jvm.Cond.instanceMethod ({ cls := "OscillatorRowModel", name := "watch", desc := "(IIIZI)I" } : Jvm.MethodName)) ∈ wg := wm 429 (by decide +kernel) (by decide +kernel)
theorem k_430 : (Jvm.Cond.selects "OscillatorRowModel" ({ cls := "OscillatorRowModel", name := "watch", desc := "(IIIZI)I" } : Jvm.MethodName) ({ cls := "OscillatorRowModel", name := "watch", desc := "(IIIZI)I" } : Jvm.MethodName)) ∈ wg := wm 430 (by decide +kernel) (by decide +kernel)
theorem k_431 : (Jvm.Cond.code ({ cls := "OscillatorRowModel", name := "watch", desc := "(IIIZI)I" } : Jvm.MethodName) prog_7_method_9_code (6 : Nat) (Option.some Jvm.ClassFile.FieldType.int)) ∈ wg := wm 431 (by decide +kernel) (by decide +kernel)
theorem k_432 : (Jvm.Cond.methodLink "OscillatorRowLaw" (52 : Nat) ({ cls := "OscillatorRowModel", name := "advance", desc := "(I)I" } : Jvm.MethodName)) ∈ wg := wm 432 (by decide +kernel) (by decide +kernel)
theorem k_433 : (Jvm.Cond.instanceMethod ({ cls := "OscillatorRowModel", name := "advance", desc := "(I)I" } : Jvm.MethodName)) ∈ wg := wm 433 (by decide +kernel) (by decide +kernel)
theorem k_434 : (Jvm.Cond.selects "OscillatorRowModel" ({ cls := "OscillatorRowModel", name := "advance", desc := "(I)I" } : Jvm.MethodName) ({ cls := "OscillatorRowModel", name := "advance", desc := "(I)I" } : Jvm.MethodName)) ∈ wg := wm 434 (by decide +kernel) (by decide +kernel)
theorem k_435 : (Jvm.Cond.code ({ cls := "OscillatorRowModel", name := "advance", desc := "(I)I" } : Jvm.MethodName) prog_7_method_20_code (8 : Nat) (Option.some Jvm.ClassFile.FieldType.int)) ∈ wg := wm 435 (by decide +kernel) (by decide +kernel)
theorem k_436 : (Jvm.Cond.methodLink "OscillatorRowModel" (120 : Nat) ({ cls := "OscillatorRowModel", name := "stride", desc := "(I)Z" } : Jvm.MethodName)) ∈ wg := wm 436 (by decide +kernel) (by decide +kernel)
theorem k_438 : (Jvm.Cond.instanceMethod ({ cls := "OscillatorRowModel", name := "stride", desc := "(I)Z" } : Jvm.MethodName)) ∈ wg := wm 438 (by decide +kernel) (by decide +kernel)
theorem k_439 : (Jvm.Cond.code ({ cls := "OscillatorRowModel", name := "stride", desc := "(I)Z" } : Jvm.MethodName) prog_7_method_17_code (3 : Nat) (Option.some Jvm.ClassFile.FieldType.boolean)) ∈ wg := wm 439 (by decide +kernel) (by decide +kernel)
theorem k_440 : (Jvm.Cond.methodLink "OscillatorRowModel" (92 : Nat) ({ cls := "OscillatorRowModel", name := "ticks", desc := "()I" } : Jvm.MethodName)) ∈ wg := wm 440 (by decide +kernel) (by decide +kernel)
theorem k_442 : (Jvm.Cond.instanceMethod ({ cls := "OscillatorRowModel", name := "ticks", desc := "()I" } : Jvm.MethodName)) ∈ wg := wm 442 (by decide +kernel) (by decide +kernel)
theorem k_443 : (Jvm.Cond.code ({ cls := "OscillatorRowModel", name := "ticks", desc := "()I" } : Jvm.MethodName) prog_7_method_16_code (1 : Nat) (Option.some Jvm.ClassFile.FieldType.int)) ∈ wg := wm 443 (by decide +kernel) (by decide +kernel)
theorem k_444 : (Jvm.Cond.methodLink "OscillatorRowModel" (99 : Nat) ({ cls := "OscillatorRowModel", name := "copy", desc := "(II)V" } : Jvm.MethodName)) ∈ wg := wm 444 (by decide +kernel) (by decide +kernel)
theorem k_446 : (Jvm.Cond.instanceMethod ({ cls := "OscillatorRowModel", name := "copy", desc := "(II)V" } : Jvm.MethodName)) ∈ wg := wm 446 (by decide +kernel) (by decide +kernel)
theorem k_447 : (Jvm.Cond.code ({ cls := "OscillatorRowModel", name := "copy", desc := "(II)V" } : Jvm.MethodName) prog_7_method_14_code (4 : Nat) (Option.none : Option Jvm.ClassFile.FieldType)) ∈ wg := wm 447 (by decide +kernel) (by decide +kernel)
theorem k_448 : (Jvm.Cond.methodLink "OscillatorRowModel" (103 : Nat) ({ cls := "OscillatorRowModel", name := "step", desc := "(II)Z" } : Jvm.MethodName)) ∈ wg := wm 448 (by decide +kernel) (by decide +kernel)
theorem k_450 : (Jvm.Cond.instanceMethod ({ cls := "OscillatorRowModel", name := "step", desc := "(II)Z" } : Jvm.MethodName)) ∈ wg := wm 450 (by decide +kernel) (by decide +kernel)
theorem k_451 : (Jvm.Cond.code ({ cls := "OscillatorRowModel", name := "step", desc := "(II)Z" } : Jvm.MethodName) prog_7_method_13_code (7 : Nat) (Option.some Jvm.ClassFile.FieldType.boolean)) ∈ wg := wm 451 (by decide +kernel) (by decide +kernel)
theorem k_452 : (Jvm.Cond.methodLink "OscillatorRowModel" (77 : Nat) ({ cls := "OscillatorRowModel", name := "pushIn", desc := "(IIJ)J" } : Jvm.MethodName)) ∈ wg := wm 452 (by decide +kernel) (by decide +kernel)
theorem k_454 : (Jvm.Cond.instanceMethod ({ cls := "OscillatorRowModel", name := "pushIn", desc := "(IIJ)J" } : Jvm.MethodName)) ∈ wg := wm 454 (by decide +kernel) (by decide +kernel)
theorem k_455 : (Jvm.Cond.code ({ cls := "OscillatorRowModel", name := "pushIn", desc := "(IIJ)J" } : Jvm.MethodName) prog_7_method_10_code (9 : Nat) (Option.some Jvm.ClassFile.FieldType.long)) ∈ wg := wm 455 (by decide +kernel) (by decide +kernel)
theorem k_456 : (Jvm.Cond.constantLong "OscillatorRowModel" (71 : Nat) (16 : Int64)) ∈ wg := wm 456 (by decide +kernel) (by decide +kernel)
theorem k_457 : (Jvm.Cond.methodLink "OscillatorRowModel" (81 : Nat) ({ cls := "OscillatorRowModel", name := "kick", desc := "(JI)J" } : Jvm.MethodName)) ∈ wg := wm 457 (by decide +kernel) (by decide +kernel)
theorem k_459 : (Jvm.Cond.instanceMethod ({ cls := "OscillatorRowModel", name := "kick", desc := "(JI)J" } : Jvm.MethodName)) ∈ wg := wm 459 (by decide +kernel) (by decide +kernel)
theorem k_460 : (Jvm.Cond.code ({ cls := "OscillatorRowModel", name := "kick", desc := "(JI)J" } : Jvm.MethodName) prog_7_method_12_code (4 : Nat) (Option.some Jvm.ClassFile.FieldType.long)) ∈ wg := wm 460 (by decide +kernel) (by decide +kernel)
theorem k_461 : (Jvm.Cond.methodLink "OscillatorRowModel" (85 : Nat) ({ cls := "OscillatorRowModel", name := "far", desc := "(J)Z" } : Jvm.MethodName)) ∈ wg := wm 461 (by decide +kernel) (by decide +kernel)
theorem k_463 : (Jvm.Cond.instanceMethod ({ cls := "OscillatorRowModel", name := "far", desc := "(J)Z" } : Jvm.MethodName)) ∈ wg := wm 463 (by decide +kernel) (by decide +kernel)
theorem k_464 : (Jvm.Cond.code ({ cls := "OscillatorRowModel", name := "far", desc := "(J)Z" } : Jvm.MethodName) prog_7_method_11_code (3 : Nat) (Option.some Jvm.ClassFile.FieldType.boolean)) ∈ wg := wm 464 (by decide +kernel) (by decide +kernel)
theorem k_465 : (Jvm.Cond.constantLong "OscillatorRowModel" (73 : Nat) (1024000000 : Int64)) ∈ wg := wm 465 (by decide +kernel) (by decide +kernel)
theorem k_466 : (Jvm.Cond.constantLong "OscillatorRowModel" (75 : Nat) (-1024000000 : Int64)) ∈ wg := wm 466 (by decide +kernel) (by decide +kernel)
theorem k_467 : (Jvm.Cond.methodLink "OscillatorRowModel" (106 : Nat) ({ cls := "OscillatorRowModel", name := "error", desc := "()J" } : Jvm.MethodName)) ∈ wg := wm 467 (by decide +kernel) (by decide +kernel)
theorem k_469 : (Jvm.Cond.instanceMethod ({ cls := "OscillatorRowModel", name := "error", desc := "()J" } : Jvm.MethodName)) ∈ wg := wm 469 (by decide +kernel) (by decide +kernel)
theorem k_470 : (Jvm.Cond.code ({ cls := "OscillatorRowModel", name := "error", desc := "()J" } : Jvm.MethodName) prog_7_method_15_code (8 : Nat) (Option.some Jvm.ClassFile.FieldType.long)) ∈ wg := wm 470 (by decide +kernel) (by decide +kernel)
theorem k_471 : (Jvm.Cond.constantLong "OscillatorRowModel" (129 : Nat) (8 : Int64)) ∈ wg := wm 471 (by decide +kernel) (by decide +kernel)
theorem k_472 : (Jvm.Cond.methodLink "OscillatorRowModel" (131 : Nat) ({ cls := "OscillatorRowModel", name := "look", desc := "(II)Z" } : Jvm.MethodName)) ∈ wg := wm 472 (by decide +kernel) (by decide +kernel)
theorem k_474 : (Jvm.Cond.instanceMethod ({ cls := "OscillatorRowModel", name := "look", desc := "(II)Z" } : Jvm.MethodName)) ∈ wg := wm 474 (by decide +kernel) (by decide +kernel)
theorem k_475 : (Jvm.Cond.code ({ cls := "OscillatorRowModel", name := "look", desc := "(II)Z" } : Jvm.MethodName) prog_7_method_19_code (10 : Nat) (Option.some Jvm.ClassFile.FieldType.boolean)) ∈ wg := wm 475 (by decide +kernel) (by decide +kernel)
theorem k_476 : (Jvm.Cond.methodLink "OscillatorRowModel" (116 : Nat) ({ cls := "OscillatorRowModel", name := "note", desc := "(III)V" } : Jvm.MethodName)) ∈ wg := wm 476 (by decide +kernel) (by decide +kernel)
theorem k_478 : (Jvm.Cond.instanceMethod ({ cls := "OscillatorRowModel", name := "note", desc := "(III)V" } : Jvm.MethodName)) ∈ wg := wm 478 (by decide +kernel) (by decide +kernel)
theorem k_479 : (Jvm.Cond.code ({ cls := "OscillatorRowModel", name := "note", desc := "(III)V" } : Jvm.MethodName) prog_7_method_18_code (9 : Nat) (Option.none : Option Jvm.ClassFile.FieldType)) ∈ wg := wm 479 (by decide +kernel) (by decide +kernel)
theorem k_480 : (Jvm.Cond.methodLink "OscillatorRowLaw" (56 : Nat) ({ cls := "OscillatorRowModel", name := "place", desc := "(I)I" } : Jvm.MethodName)) ∈ wg := wm 480 (by decide +kernel) (by decide +kernel)
theorem k_481 : (Jvm.Cond.instanceMethod ({ cls := "OscillatorRowModel", name := "place", desc := "(I)I" } : Jvm.MethodName)) ∈ wg := wm 481 (by decide +kernel) (by decide +kernel)
theorem k_482 : (Jvm.Cond.selects "OscillatorRowModel" ({ cls := "OscillatorRowModel", name := "place", desc := "(I)I" } : Jvm.MethodName) ({ cls := "OscillatorRowModel", name := "place", desc := "(I)I" } : Jvm.MethodName)) ∈ wg := wm 482 (by decide +kernel) (by decide +kernel)
theorem k_483 : (Jvm.Cond.code ({ cls := "OscillatorRowModel", name := "place", desc := "(I)I" } : Jvm.MethodName) prog_7_method_21_code (2 : Nat) (Option.some Jvm.ClassFile.FieldType.int)) ∈ wg := wm 483 (by decide +kernel) (by decide +kernel)
theorem k_484 : (Jvm.Cond.methodLink "OscillatorRowLaw" (60 : Nat) ({ cls := "OscillatorRowModel", name := "speed", desc := "(I)I" } : Jvm.MethodName)) ∈ wg := wm 484 (by decide +kernel) (by decide +kernel)
theorem k_485 : (Jvm.Cond.instanceMethod ({ cls := "OscillatorRowModel", name := "speed", desc := "(I)I" } : Jvm.MethodName)) ∈ wg := wm 485 (by decide +kernel) (by decide +kernel)
theorem k_486 : (Jvm.Cond.selects "OscillatorRowModel" ({ cls := "OscillatorRowModel", name := "speed", desc := "(I)I" } : Jvm.MethodName) ({ cls := "OscillatorRowModel", name := "speed", desc := "(I)I" } : Jvm.MethodName)) ∈ wg := wm 486 (by decide +kernel) (by decide +kernel)
theorem k_487 : (Jvm.Cond.code ({ cls := "OscillatorRowModel", name := "speed", desc := "(I)I" } : Jvm.MethodName) prog_7_method_22_code (2 : Nat) (Option.some Jvm.ClassFile.FieldType.int)) ∈ wg := wm 487 (by decide +kernel) (by decide +kernel)
theorem k_488 : (Jvm.Cond.methodLink "OscillatorRowLaw" (65 : Nat) ({ cls := "OscillatorRowModel", name := "push", desc := "(I)J" } : Jvm.MethodName)) ∈ wg := wm 488 (by decide +kernel) (by decide +kernel)
theorem k_489 : (Jvm.Cond.instanceMethod ({ cls := "OscillatorRowModel", name := "push", desc := "(I)J" } : Jvm.MethodName)) ∈ wg := wm 489 (by decide +kernel) (by decide +kernel)
theorem k_490 : (Jvm.Cond.selects "OscillatorRowModel" ({ cls := "OscillatorRowModel", name := "push", desc := "(I)J" } : Jvm.MethodName) ({ cls := "OscillatorRowModel", name := "push", desc := "(I)J" } : Jvm.MethodName)) ∈ wg := wm 490 (by decide +kernel) (by decide +kernel)
theorem k_491 : (Jvm.Cond.code ({ cls := "OscillatorRowModel", name := "push", desc := "(I)J" } : Jvm.MethodName) prog_7_method_23_code (2 : Nat) (Option.some Jvm.ClassFile.FieldType.long)) ∈ wg := wm 491 (by decide +kernel) (by decide +kernel)
theorem k_492 : (Jvm.Cond.constantLong "OscillatorRowModel" (134 : Nat) (-2000000000 : Int64)) ∈ wg := wm 492 (by decide +kernel) (by decide +kernel)
theorem k_493 : (Jvm.Cond.methodLink "OscillatorRowLaw" (69 : Nat) ({ cls := "OscillatorRowModel", name := "hit", desc := "(II)I" } : Jvm.MethodName)) ∈ wg := wm 493 (by decide +kernel) (by decide +kernel)
theorem k_494 : (Jvm.Cond.instanceMethod ({ cls := "OscillatorRowModel", name := "hit", desc := "(II)I" } : Jvm.MethodName)) ∈ wg := wm 494 (by decide +kernel) (by decide +kernel)
theorem k_495 : (Jvm.Cond.selects "OscillatorRowModel" ({ cls := "OscillatorRowModel", name := "hit", desc := "(II)I" } : Jvm.MethodName) ({ cls := "OscillatorRowModel", name := "hit", desc := "(II)I" } : Jvm.MethodName)) ∈ wg := wm 495 (by decide +kernel) (by decide +kernel)
theorem k_496 : (Jvm.Cond.code ({ cls := "OscillatorRowModel", name := "hit", desc := "(II)I" } : Jvm.MethodName) prog_7_method_24_code (3 : Nat) (Option.some Jvm.ClassFile.FieldType.int)) ∈ wg := wm 496 (by decide +kernel) (by decide +kernel)
theorem k_497 : (Jvm.Cond.constant "OscillatorRowModel" (136 : Nat) (-2000000000 : Int32)) ∈ wg := wm 497 (by decide +kernel) (by decide +kernel)
theorem k_498 : (Jvm.Cond.methodLink "OscillatorRowLaw" (74 : Nat) ({ cls := "OscillatorRowModel", name := "clear", desc := "()I" } : Jvm.MethodName)) ∈ wg := wm 498 (by decide +kernel) (by decide +kernel)
theorem k_499 : (Jvm.Cond.instanceMethod ({ cls := "OscillatorRowModel", name := "clear", desc := "()I" } : Jvm.MethodName)) ∈ wg := wm 499 (by decide +kernel) (by decide +kernel)
theorem k_500 : (Jvm.Cond.selects "OscillatorRowModel" ({ cls := "OscillatorRowModel", name := "clear", desc := "()I" } : Jvm.MethodName) ({ cls := "OscillatorRowModel", name := "clear", desc := "()I" } : Jvm.MethodName)) ∈ wg := wm 500 (by decide +kernel) (by decide +kernel)
theorem k_501 : (Jvm.Cond.code ({ cls := "OscillatorRowModel", name := "clear", desc := "()I" } : Jvm.MethodName) prog_7_method_25_code (2 : Nat) (Option.some Jvm.ClassFile.FieldType.int)) ∈ wg := wm 501 (by decide +kernel) (by decide +kernel)
theorem k_502 : (Jvm.Cond.methodLink "OscillatorRowLaw" (78 : Nat) ({ cls := "OscillatorRowModel", name := "count", desc := "(I)I" } : Jvm.MethodName)) ∈ wg := wm 502 (by decide +kernel) (by decide +kernel)
theorem k_503 : (Jvm.Cond.instanceMethod ({ cls := "OscillatorRowModel", name := "count", desc := "(I)I" } : Jvm.MethodName)) ∈ wg := wm 503 (by decide +kernel) (by decide +kernel)
theorem k_504 : (Jvm.Cond.selects "OscillatorRowModel" ({ cls := "OscillatorRowModel", name := "count", desc := "(I)I" } : Jvm.MethodName) ({ cls := "OscillatorRowModel", name := "count", desc := "(I)I" } : Jvm.MethodName)) ∈ wg := wm 504 (by decide +kernel) (by decide +kernel)
theorem k_505 : (Jvm.Cond.code ({ cls := "OscillatorRowModel", name := "count", desc := "(I)I" } : Jvm.MethodName) prog_7_method_26_code (4 : Nat) (Option.some Jvm.ClassFile.FieldType.int)) ∈ wg := wm 505 (by decide +kernel) (by decide +kernel)
theorem p_0 : Cond.selects "OscillatorRow" (⟨"OscillatorRow", "isBody", "(I)Z"⟩ : MethodName) (⟨"OscillatorRow", "isBody", "(I)Z"⟩ : MethodName) ∈ wg := wq 0 (by decide +kernel) (by decide +kernel)
theorem p_1 : Cond.selects "OscillatorRow" (⟨"OscillatorRow", "fitFineness", "(I)V"⟩ : MethodName) (⟨"OscillatorRow", "fitFineness", "(I)V"⟩ : MethodName) ∈ wg := wq 1 (by decide +kernel) (by decide +kernel)
theorem p_2 : Cond.selects "OscillatorRow" (⟨"OscillatorRow", "fits", "(II)Z"⟩ : MethodName) (⟨"OscillatorRow", "fits", "(II)Z"⟩ : MethodName) ∈ wg := wq 2 (by decide +kernel) (by decide +kernel)
theorem p_3 : Cond.selects "OscillatorRow" (⟨"OscillatorRow", "tryUntilGood", "()J"⟩ : MethodName) (⟨"OscillatorRow", "tryUntilGood", "()J"⟩ : MethodName) ∈ wg := wq 3 (by decide +kernel) (by decide +kernel)
theorem p_4 : Cond.selects "OscillatorRow" (⟨"OscillatorRow", "errorOfTry", "()J"⟩ : MethodName) (⟨"OscillatorRow", "errorOfTry", "()J"⟩ : MethodName) ∈ wg := wq 4 (by decide +kernel) (by decide +kernel)
theorem p_5 : Cond.selects "OscillatorRow$Springs" (⟨"OscillatorRow$Springs", "changeSpeeds", "(LOscillatorRow$Motion;I)Z"⟩ : MethodName) (⟨"OscillatorRow$Springs", "changeSpeeds", "(LOscillatorRow$Motion;I)Z"⟩ : MethodName) ∈ wg := wq 5 (by decide +kernel) (by decide +kernel)
theorem p_6 : Cond.selects "OscillatorRow$Springs" (⟨"OscillatorRow$Springs", "changePlaces", "(LOscillatorRow$Motion;I)Z"⟩ : MethodName) (⟨"OscillatorRow$Springs", "changePlaces", "(LOscillatorRow$Motion;I)Z"⟩ : MethodName) ∈ wg := wq 6 (by decide +kernel) (by decide +kernel)
theorem p_7 : Cond.selects "OscillatorRow" (⟨"OscillatorRow", "takeStride", "(IJ)V"⟩ : MethodName) (⟨"OscillatorRow", "takeStride", "(IJ)V"⟩ : MethodName) ∈ wg := wq 7 (by decide +kernel) (by decide +kernel)
theorem p_8 : Cond.selects "OscillatorRow" (⟨"OscillatorRow", "lookAtWatches", "(I)Z"⟩ : MethodName) (⟨"OscillatorRow", "lookAtWatches", "(I)Z"⟩ : MethodName) ∈ wg := wq 8 (by decide +kernel) (by decide +kernel)
theorem p_9 : Cond.selects "OscillatorRow" (⟨"OscillatorRow", "watchesSet", "()I"⟩ : MethodName) (⟨"OscillatorRow", "watchesSet", "()I"⟩ : MethodName) ∈ wg := wq 9 (by decide +kernel) (by decide +kernel)
theorem p_10 : Cond.selects "OscillatorRowModel" (⟨"OscillatorRowModel", "no", "(I)Z"⟩ : MethodName) (⟨"OscillatorRowModel", "no", "(I)Z"⟩ : MethodName) ∈ wg := wq 10 (by decide +kernel) (by decide +kernel)
theorem p_11 : Cond.selects "OscillatorRowModel" (⟨"OscillatorRowModel", "off", "(II)Z"⟩ : MethodName) (⟨"OscillatorRowModel", "off", "(II)Z"⟩ : MethodName) ∈ wg := wq 11 (by decide +kernel) (by decide +kernel)
theorem p_12 : Cond.selects "OscillatorRowModel" (⟨"OscillatorRowModel", "stride", "(I)Z"⟩ : MethodName) (⟨"OscillatorRowModel", "stride", "(I)Z"⟩ : MethodName) ∈ wg := wq 12 (by decide +kernel) (by decide +kernel)
theorem p_13 : Cond.selects "OscillatorRowModel" (⟨"OscillatorRowModel", "ticks", "()I"⟩ : MethodName) (⟨"OscillatorRowModel", "ticks", "()I"⟩ : MethodName) ∈ wg := wq 13 (by decide +kernel) (by decide +kernel)
theorem p_14 : Cond.selects "OscillatorRowModel" (⟨"OscillatorRowModel", "copy", "(II)V"⟩ : MethodName) (⟨"OscillatorRowModel", "copy", "(II)V"⟩ : MethodName) ∈ wg := wq 14 (by decide +kernel) (by decide +kernel)
theorem p_15 : Cond.selects "OscillatorRowModel" (⟨"OscillatorRowModel", "step", "(II)Z"⟩ : MethodName) (⟨"OscillatorRowModel", "step", "(II)Z"⟩ : MethodName) ∈ wg := wq 15 (by decide +kernel) (by decide +kernel)
theorem p_16 : Cond.selects "OscillatorRowModel" (⟨"OscillatorRowModel", "pushIn", "(IIJ)J"⟩ : MethodName) (⟨"OscillatorRowModel", "pushIn", "(IIJ)J"⟩ : MethodName) ∈ wg := wq 16 (by decide +kernel) (by decide +kernel)
theorem p_17 : Cond.selects "OscillatorRowModel" (⟨"OscillatorRowModel", "kick", "(JI)J"⟩ : MethodName) (⟨"OscillatorRowModel", "kick", "(JI)J"⟩ : MethodName) ∈ wg := wq 17 (by decide +kernel) (by decide +kernel)
theorem p_18 : Cond.selects "OscillatorRowModel" (⟨"OscillatorRowModel", "far", "(J)Z"⟩ : MethodName) (⟨"OscillatorRowModel", "far", "(J)Z"⟩ : MethodName) ∈ wg := wq 18 (by decide +kernel) (by decide +kernel)
theorem p_19 : Cond.selects "OscillatorRowModel" (⟨"OscillatorRowModel", "error", "()J"⟩ : MethodName) (⟨"OscillatorRowModel", "error", "()J"⟩ : MethodName) ∈ wg := wq 19 (by decide +kernel) (by decide +kernel)
theorem p_20 : Cond.selects "OscillatorRowModel" (⟨"OscillatorRowModel", "look", "(II)Z"⟩ : MethodName) (⟨"OscillatorRowModel", "look", "(II)Z"⟩ : MethodName) ∈ wg := wq 20 (by decide +kernel) (by decide +kernel)
theorem p_21 : Cond.selects "OscillatorRowModel" (⟨"OscillatorRowModel", "note", "(III)V"⟩ : MethodName) (⟨"OscillatorRowModel", "note", "(III)V"⟩ : MethodName) ∈ wg := wq 21 (by decide +kernel) (by decide +kernel)
def T_H : u_T := fun k => match k with
  | 0 => ("OscillatorRow$Hits", "byWatch", "[I", true)
  | 1 => ("OscillatorRow$Hits", "atTime", "[I", true)
  | 2 => ("OscillatorRow$Hits", "withSpeed", "[I", true)
  | _ => ("OscillatorRow$Hits", "counted", "I", false)
def t_H : Nat → FieldType := fun k => match k with
  | 0 => .array .int
  | 1 => .array .int
  | 2 => .array .int
  | _ => .int
theorem n_H_ok : ∀ a, a < 4 → ∀ b, b < 4 → a ≠ b → (T_H a).2.1 ≠ (T_H b).2.1 := by decide +kernel
theorem t_H_ok : ∀ k, k < 4 → parseFieldDescriptor (T_H k).2.2.1 = some (t_H k) := by decide +kernel
theorem i_H : ∀ w ∈ u_ws "OscillatorRow$Hits" T_H 4, w ∈ wg := by decide +kernel
def T_M : u_T := fun k => match k with
  | 0 => ("OscillatorRow$Motion", "places", "[J", true)
  | _ => ("OscillatorRow$Motion", "speeds", "[J", true)
def t_M : Nat → FieldType := fun k => match k with
  | 0 => .array .long
  | _ => .array .long
theorem n_M_ok : ∀ a, a < 2 → ∀ b, b < 2 → a ≠ b → (T_M a).2.1 ≠ (T_M b).2.1 := by decide +kernel
theorem t_M_ok : ∀ k, k < 2 → parseFieldDescriptor (T_M k).2.2.1 = some (t_M k) := by decide +kernel
theorem i_M : ∀ w ∈ u_ws "OscillatorRow$Motion" T_M 2, w ∈ wg := by decide +kernel
def T_S : u_T := fun k => match k with
  | 0 => ("OscillatorRow$Springs", "bodies", "I", true)
  | 1 => ("OscillatorRow$Springs", "stiffnesses", "[I", true)
  | 2 => ("OscillatorRow$Springs", "drags", "[I", true)
  | 3 => ("OscillatorRow$Springs", "links", "[I", true)
  | _ => ("OscillatorRow$Springs", "forces", "[I", true)
def t_S : Nat → FieldType := fun k => match k with
  | 0 => .int
  | 1 => .array .int
  | 2 => .array .int
  | 3 => .array .int
  | _ => .array .int
theorem n_S_ok : ∀ a, a < 5 → ∀ b, b < 5 → a ≠ b → (T_S a).2.1 ≠ (T_S b).2.1 := by decide +kernel
theorem t_S_ok : ∀ k, k < 5 → parseFieldDescriptor (T_S k).2.2.1 = some (t_S k) := by decide +kernel
theorem i_S : ∀ w ∈ u_ws "OscillatorRow$Springs" T_S 5, w ∈ wg := by decide +kernel
def T_W : u_T := fun k => match k with
  | 0 => ("OscillatorRow$Watch", "watched", "I", false)
  | 1 => ("OscillatorRow$Watch", "level", "J", false)
  | 2 => ("OscillatorRow$Watch", "up", "Z", false)
  | _ => ("OscillatorRow$Watch", "action", "I", false)
def t_W : Nat → FieldType := fun k => match k with
  | 0 => .int
  | 1 => .long
  | 2 => .boolean
  | _ => .int
theorem n_W_ok : ∀ a, a < 4 → ∀ b, b < 4 → a ≠ b → (T_W a).2.1 ≠ (T_W b).2.1 := by decide +kernel
theorem t_W_ok : ∀ k, k < 4 → parseFieldDescriptor (T_W k).2.2.1 = some (t_W k) := by decide +kernel
theorem i_W : ∀ w ∈ u_ws "OscillatorRow$Watch" T_W 4, w ∈ wg := by decide +kernel
def T_R : u_T := fun k => match k with
  | 0 => ("OscillatorRow", "bodies", "I", true)
  | 1 => ("OscillatorRow", "springs", "LOscillatorRow$Springs;", true)
  | 2 => ("OscillatorRow", "now", "LOscillatorRow$Motion;", true)
  | 3 => ("OscillatorRow", "before", "LOscillatorRow$Motion;", true)
  | 4 => ("OscillatorRow", "coarse", "LOscillatorRow$Motion;", true)
  | 5 => ("OscillatorRow", "fine", "LOscillatorRow$Motion;", true)
  | 6 => ("OscillatorRow", "watches", "[LOscillatorRow$Watch;", true)
  | 7 => ("OscillatorRow", "hits", "LOscillatorRow$Hits;", true)
  | 8 => ("OscillatorRow", "allowedError", "I", false)
  | 9 => ("OscillatorRow", "time", "I", false)
  | 10 => ("OscillatorRow", "fineness", "I", false)
  | 11 => ("OscillatorRow", "strides", "I", false)
  | 12 => ("OscillatorRow", "rejected", "I", false)
  | _ => ("OscillatorRow", "latestError", "J", false)
def t_R : Nat → FieldType := fun k => match k with
  | 0 => .int
  | 1 => .object "OscillatorRow$Springs"
  | 2 => .object "OscillatorRow$Motion"
  | 3 => .object "OscillatorRow$Motion"
  | 4 => .object "OscillatorRow$Motion"
  | 5 => .object "OscillatorRow$Motion"
  | 6 => .array (.object "OscillatorRow$Watch")
  | 7 => .object "OscillatorRow$Hits"
  | 8 => .int
  | 9 => .int
  | 10 => .int
  | 11 => .int
  | 12 => .int
  | _ => .long
theorem n_R_ok : ∀ a, a < 14 → ∀ b, b < 14 → a ≠ b → (T_R a).2.1 ≠ (T_R b).2.1 := by decide +kernel
theorem t_R_ok : ∀ k, k < 14 → parseFieldDescriptor (T_R k).2.2.1 = some (t_R k) := by decide +kernel
theorem i_R : ∀ w ∈ u_ws "OscillatorRow" T_R 14, w ∈ wg := by decide +kernel
def T_X : u_T := fun k => match k with
  | 0 => ("OscillatorRowModel", "bodies", "I", true)
  | 1 => ("OscillatorRowModel", "stiffness", "[J", true)
  | 2 => ("OscillatorRowModel", "drag", "[J", true)
  | 3 => ("OscillatorRowModel", "links", "[J", true)
  | 4 => ("OscillatorRowModel", "forces", "[J", true)
  | 5 => ("OscillatorRowModel", "place", "[J", true)
  | 6 => ("OscillatorRowModel", "speed", "[J", true)
  | 7 => ("OscillatorRowModel", "middle", "[J", true)
  | 8 => ("OscillatorRowModel", "wBody", "[I", true)
  | 9 => ("OscillatorRowModel", "wLevel", "[J", true)
  | 10 => ("OscillatorRowModel", "wUp", "[Z", true)
  | 11 => ("OscillatorRowModel", "wAction", "[I", true)
  | 12 => ("OscillatorRowModel", "wSet", "[Z", true)
  | 13 => ("OscillatorRowModel", "hits", "[I", true)
  | 14 => ("OscillatorRowModel", "before", "[J", true)
  | 15 => ("OscillatorRowModel", "hitCount", "I", false)
  | 16 => ("OscillatorRowModel", "time", "I", false)
  | 17 => ("OscillatorRowModel", "fineness", "I", false)
  | 18 => ("OscillatorRowModel", "strides", "I", false)
  | 19 => ("OscillatorRowModel", "rejected", "I", false)
  | 20 => ("OscillatorRowModel", "lastError", "I", false)
  | _ => ("OscillatorRowModel", "tolerance", "I", false)
def t_X : Nat → FieldType := fun k => match k with
  | 0 => .int
  | 1 => .array .long
  | 2 => .array .long
  | 3 => .array .long
  | 4 => .array .long
  | 5 => .array .long
  | 6 => .array .long
  | 7 => .array .long
  | 8 => .array .int
  | 9 => .array .long
  | 10 => .array .boolean
  | 11 => .array .int
  | 12 => .array .boolean
  | 13 => .array .int
  | 14 => .array .long
  | 15 => .int
  | 16 => .int
  | 17 => .int
  | 18 => .int
  | 19 => .int
  | 20 => .int
  | _ => .int
theorem n_X_ok : ∀ a, a < 22 → ∀ b, b < 22 → a ≠ b → (T_X a).2.1 ≠ (T_X b).2.1 := by decide +kernel
theorem t_X_ok : ∀ k, k < 22 → parseFieldDescriptor (T_X k).2.2.1 = some (t_X k) := by decide +kernel
theorem i_X : ∀ w ∈ u_ws "OscillatorRowModel" T_X 22, w ∈ wg := by decide +kernel
abbrev vwCl : List vw_C := [("OscillatorRow$Hits", T_H, 4), ("OscillatorRow$Motion", T_M, 2), ("OscillatorRow$Springs", T_S, 5), ("OscillatorRow$Watch", T_W, 4), ("OscillatorRow", T_R, 14), ("OscillatorRowModel", T_X, 22)]
abbrev tyv (cI cL cW cZ : ClassId) : List (ClassId × FieldType) := [(cI, .int), (cL, .long), (cW, .object "OscillatorRow$Watch"), (cZ, .boolean)]
abbrev y_R_init : MethodName := ⟨"OscillatorRow", "<init>", "(I)V"⟩
abbrev w_R_init : List Cond := .code y_R_init prog_1_method_1_code 3 none :: wg
abbrev y_S_init : MethodName := ⟨"OscillatorRow$Springs", "<init>", "(I)V"⟩
abbrev w_S_init : List Cond := .code y_S_init prog_4_method_1_code 2 none :: wg
abbrev y_M_init : MethodName := ⟨"OscillatorRow$Motion", "<init>", "(I)V"⟩
abbrev w_M_init : List Cond := .code y_M_init prog_3_method_1_code 2 none :: wg
abbrev y_W_init : MethodName := ⟨"OscillatorRow$Watch", "<init>", "()V"⟩
abbrev w_W_init : List Cond := .code y_W_init prog_5_method_1_code 1 none :: wg
abbrev y_H_init : MethodName := ⟨"OscillatorRow$Hits", "<init>", "()V"⟩
abbrev w_H_init : List Cond := .code y_H_init prog_2_method_1_code 1 none :: wg
abbrev y_R_body : MethodName := ⟨"OscillatorRow", "body", "(III)I"⟩
abbrev w_R_body : List Cond := .code y_R_body prog_1_method_2_code 4 (some .int) :: wg
abbrev y_R_isBody : MethodName := ⟨"OscillatorRow", "isBody", "(I)Z"⟩
abbrev w_R_isBody : List Cond := .code y_R_isBody prog_1_method_15_code 2 (some .boolean) :: wg
abbrev y_R_isSixteenths : MethodName := ⟨"OscillatorRow", "isSixteenths", "(I)Z"⟩
abbrev w_R_isSixteenths : List Cond := .code y_R_isSixteenths prog_1_method_16_code 1 (some .boolean) :: wg
abbrev y_R_link : MethodName := ⟨"OscillatorRow", "link", "(II)I"⟩
abbrev w_R_link : List Cond := .code y_R_link prog_1_method_3_code 3 (some .int) :: wg
abbrev y_R_set : MethodName := ⟨"OscillatorRow", "set", "(III)I"⟩
abbrev w_R_set : List Cond := .code y_R_set prog_1_method_4_code 4 (some .int) :: wg
abbrev y_R_isUnits : MethodName := ⟨"OscillatorRow", "isUnits", "(I)Z"⟩
abbrev w_R_isUnits : List Cond := .code y_R_isUnits prog_1_method_17_code 1 (some .boolean) :: wg
abbrev y_R_force : MethodName := ⟨"OscillatorRow", "force", "(II)I"⟩
abbrev w_R_force : List Cond := .code y_R_force prog_1_method_5_code 3 (some .int) :: wg
abbrev y_R_tolerance : MethodName := ⟨"OscillatorRow", "tolerance", "(I)I"⟩
abbrev w_R_tolerance : List Cond := .code y_R_tolerance prog_1_method_6_code 2 (some .int) :: wg
abbrev y_R_watch : MethodName := ⟨"OscillatorRow", "watch", "(IIIZI)I"⟩
abbrev w_R_watch : List Cond := .code y_R_watch prog_1_method_7_code 7 (some .int) :: wg
abbrev y_R_advance : MethodName := ⟨"OscillatorRow", "advance", "(I)I"⟩
abbrev w_R_advance : List Cond := .code y_R_advance prog_1_method_8_code 8 (some .int) :: wg
abbrev y_R_fitFineness : MethodName := ⟨"OscillatorRow", "fitFineness", "(I)V"⟩
abbrev w_R_fitFineness : List Cond := .code y_R_fitFineness prog_1_method_20_code 2 none :: wg
abbrev y_R_ticksOf : MethodName := ⟨"OscillatorRow", "ticksOf", "(I)I"⟩
abbrev w_R_ticksOf : List Cond := .code y_R_ticksOf prog_1_method_19_code 1 (some .int) :: wg
abbrev y_R_fits : MethodName := ⟨"OscillatorRow", "fits", "(II)Z"⟩
abbrev w_R_fits : List Cond := .code y_R_fits prog_1_method_21_code 3 (some .boolean) :: wg
abbrev y_R_tryUntilGood : MethodName := ⟨"OscillatorRow", "tryUntilGood", "()J"⟩
abbrev w_R_tryUntilGood : List Cond := .code y_R_tryUntilGood prog_1_method_22_code 3 (some .long) :: wg
abbrev y_R_errorOfTry : MethodName := ⟨"OscillatorRow", "errorOfTry", "()J"⟩
abbrev w_R_errorOfTry : List Cond := .code y_R_errorOfTry prog_1_method_23_code 2 (some .long) :: wg
abbrev y_M_copyFrom : MethodName := ⟨"OscillatorRow$Motion", "copyFrom", "(LOscillatorRow$Motion;)V"⟩
abbrev w_M_copyFrom : List Cond := .code y_M_copyFrom prog_3_method_2_code 2 none :: wg
abbrev y_S_step : MethodName := ⟨"OscillatorRow$Springs", "step", "(LOscillatorRow$Motion;I)Z"⟩
abbrev w_S_step : List Cond := .code y_S_step prog_4_method_3_code 3 (some .boolean) :: wg
abbrev y_S_changeSpeeds : MethodName := ⟨"OscillatorRow$Springs", "changeSpeeds", "(LOscillatorRow$Motion;I)Z"⟩
abbrev w_S_changeSpeeds : List Cond := .code y_S_changeSpeeds prog_4_method_4_code 7 (some .boolean) :: wg
abbrev y_S_pushOn : MethodName := ⟨"OscillatorRow$Springs", "pushOn", "(ILOscillatorRow$Motion;)J"⟩
abbrev w_S_pushOn : List Cond := .code y_S_pushOn prog_4_method_2_code 7 (some .long) :: wg
abbrev y_S_roundedPart : MethodName := ⟨"OscillatorRow$Springs", "roundedPart", "(JI)J"⟩
abbrev w_S_roundedPart : List Cond := .code y_S_roundedPart prog_4_method_6_code 5 (some .long) :: wg
abbrev y_S_isNear : MethodName := ⟨"OscillatorRow$Springs", "isNear", "(J)Z"⟩
abbrev w_S_isNear : List Cond := .code y_S_isNear prog_4_method_7_code 2 (some .boolean) :: wg
abbrev y_S_changePlaces : MethodName := ⟨"OscillatorRow$Springs", "changePlaces", "(LOscillatorRow$Motion;I)Z"⟩
abbrev w_S_changePlaces : List Cond := .code y_S_changePlaces prog_4_method_5_code 5 (some .boolean) :: wg
abbrev y_M_greatestDifference : MethodName := ⟨"OscillatorRow$Motion", "greatestDifference", "(LOscillatorRow$Motion;)J"⟩
abbrev w_M_greatestDifference : List Cond := .code y_M_greatestDifference prog_3_method_3_code 5 (some .long) :: wg
abbrev y_R_takeStride : MethodName := ⟨"OscillatorRow", "takeStride", "(IJ)V"⟩
abbrev w_R_takeStride : List Cond := .code y_R_takeStride prog_1_method_24_code 4 none :: wg
abbrev y_R_lookAtWatches : MethodName := ⟨"OscillatorRow", "lookAtWatches", "(I)Z"⟩
abbrev w_R_lookAtWatches : List Cond := .code y_R_lookAtWatches prog_1_method_25_code 7 (some .boolean) :: wg
abbrev y_W_isHitBy : MethodName := ⟨"OscillatorRow$Watch", "isHitBy", "(JJ)Z"⟩
abbrev w_W_isHitBy : List Cond := .code y_W_isHitBy prog_5_method_3_code 5 (some .boolean) :: wg
abbrev y_W_isSet : MethodName := ⟨"OscillatorRow$Watch", "isSet", "()Z"⟩
abbrev w_W_isSet : List Cond := .code y_W_isSet prog_5_method_2_code 1 (some .boolean) :: wg
abbrev y_W_ticksUntilLevel : MethodName := ⟨"OscillatorRow$Watch", "ticksUntilLevel", "(JJI)I"⟩
abbrev w_W_ticksUntilLevel : List Cond := .code y_W_ticksUntilLevel prog_5_method_4_code 10 (some .int) :: wg
abbrev y_H_note : MethodName := ⟨"OscillatorRow$Hits", "note", "(III)V"⟩
abbrev w_H_note : List Cond := .code y_H_note prog_2_method_3_code 4 none :: wg
abbrev y_R_place : MethodName := ⟨"OscillatorRow", "place", "(I)I"⟩
abbrev w_R_place : List Cond := .code y_R_place prog_1_method_9_code 2 (some .int) :: wg
abbrev y_R_speed : MethodName := ⟨"OscillatorRow", "speed", "(I)I"⟩
abbrev w_R_speed : List Cond := .code y_R_speed prog_1_method_10_code 2 (some .int) :: wg
abbrev y_R_push : MethodName := ⟨"OscillatorRow", "push", "(I)J"⟩
abbrev w_R_push : List Cond := .code y_R_push prog_1_method_11_code 2 (some .long) :: wg
abbrev y_R_hit : MethodName := ⟨"OscillatorRow", "hit", "(II)I"⟩
abbrev w_R_hit : List Cond := .code y_R_hit prog_1_method_12_code 3 (some .int) :: wg
abbrev y_H_keeps : MethodName := ⟨"OscillatorRow$Hits", "keeps", "(I)Z"⟩
abbrev w_H_keeps : List Cond := .code y_H_keeps prog_2_method_2_code 2 (some .boolean) :: wg
abbrev y_R_clear : MethodName := ⟨"OscillatorRow", "clear", "()I"⟩
abbrev w_R_clear : List Cond := .code y_R_clear prog_1_method_13_code 2 (some .int) :: wg
abbrev y_R_count : MethodName := ⟨"OscillatorRow", "count", "(I)I"⟩
abbrev w_R_count : List Cond := .code y_R_count prog_1_method_14_code 2 (some .int) :: wg
abbrev y_R_watchesSet : MethodName := ⟨"OscillatorRow", "watchesSet", "()I"⟩
abbrev w_R_watchesSet : List Cond := .code y_R_watchesSet prog_1_method_18_code 3 (some .int) :: wg
abbrev y_L_cell : MethodName := ⟨"OscillatorRowLaw", "cell", "([II)I"⟩
abbrev w_L_cell : List Cond := .code y_L_cell method_2_code 2 (some .int) :: wg
abbrev y_X_init : MethodName := ⟨"OscillatorRowModel", "<init>", "(I)V"⟩
abbrev w_X_init : List Cond := .code y_X_init prog_7_method_1_code 2 none :: wg
abbrev y_X_body : MethodName := ⟨"OscillatorRowModel", "body", "(III)I"⟩
abbrev w_X_body : List Cond := .code y_X_body prog_7_method_4_code 4 (some .int) :: wg
abbrev y_X_no : MethodName := ⟨"OscillatorRowModel", "no", "(I)Z"⟩
abbrev w_X_no : List Cond := .code y_X_no prog_7_method_2_code 2 (some .boolean) :: wg
abbrev y_X_link : MethodName := ⟨"OscillatorRowModel", "link", "(II)I"⟩
abbrev w_X_link : List Cond := .code y_X_link prog_7_method_5_code 3 (some .int) :: wg
abbrev y_X_set : MethodName := ⟨"OscillatorRowModel", "set", "(III)I"⟩
abbrev w_X_set : List Cond := .code y_X_set prog_7_method_6_code 4 (some .int) :: wg
abbrev y_X_off : MethodName := ⟨"OscillatorRowModel", "off", "(II)Z"⟩
abbrev w_X_off : List Cond := .code y_X_off prog_7_method_3_code 3 (some .boolean) :: wg
abbrev y_X_force : MethodName := ⟨"OscillatorRowModel", "force", "(II)I"⟩
abbrev w_X_force : List Cond := .code y_X_force prog_7_method_7_code 3 (some .int) :: wg
abbrev y_X_tolerance : MethodName := ⟨"OscillatorRowModel", "tolerance", "(I)I"⟩
abbrev w_X_tolerance : List Cond := .code y_X_tolerance prog_7_method_8_code 2 (some .int) :: wg
abbrev y_X_watch : MethodName := ⟨"OscillatorRowModel", "watch", "(IIIZI)I"⟩
abbrev w_X_watch : List Cond := .code y_X_watch prog_7_method_9_code 6 (some .int) :: wg
abbrev y_X_advance : MethodName := ⟨"OscillatorRowModel", "advance", "(I)I"⟩
abbrev w_X_advance : List Cond := .code y_X_advance prog_7_method_20_code 8 (some .int) :: wg
abbrev y_X_stride : MethodName := ⟨"OscillatorRowModel", "stride", "(I)Z"⟩
abbrev w_X_stride : List Cond := .code y_X_stride prog_7_method_17_code 3 (some .boolean) :: wg
abbrev y_X_ticks : MethodName := ⟨"OscillatorRowModel", "ticks", "()I"⟩
abbrev w_X_ticks : List Cond := .code y_X_ticks prog_7_method_16_code 1 (some .int) :: wg
abbrev y_X_copy : MethodName := ⟨"OscillatorRowModel", "copy", "(II)V"⟩
abbrev w_X_copy : List Cond := .code y_X_copy prog_7_method_14_code 4 none :: wg
abbrev y_X_step : MethodName := ⟨"OscillatorRowModel", "step", "(II)Z"⟩
abbrev w_X_step : List Cond := .code y_X_step prog_7_method_13_code 7 (some .boolean) :: wg
abbrev y_X_pushIn : MethodName := ⟨"OscillatorRowModel", "pushIn", "(IIJ)J"⟩
abbrev w_X_pushIn : List Cond := .code y_X_pushIn prog_7_method_10_code 9 (some .long) :: wg
abbrev y_X_kick : MethodName := ⟨"OscillatorRowModel", "kick", "(JI)J"⟩
abbrev w_X_kick : List Cond := .code y_X_kick prog_7_method_12_code 4 (some .long) :: wg
abbrev y_X_far : MethodName := ⟨"OscillatorRowModel", "far", "(J)Z"⟩
abbrev w_X_far : List Cond := .code y_X_far prog_7_method_11_code 3 (some .boolean) :: wg
abbrev y_X_error : MethodName := ⟨"OscillatorRowModel", "error", "()J"⟩
abbrev w_X_error : List Cond := .code y_X_error prog_7_method_15_code 8 (some .long) :: wg
abbrev y_X_look : MethodName := ⟨"OscillatorRowModel", "look", "(II)Z"⟩
abbrev w_X_look : List Cond := .code y_X_look prog_7_method_19_code 10 (some .boolean) :: wg
abbrev y_X_note : MethodName := ⟨"OscillatorRowModel", "note", "(III)V"⟩
abbrev w_X_note : List Cond := .code y_X_note prog_7_method_18_code 9 none :: wg
abbrev y_X_place : MethodName := ⟨"OscillatorRowModel", "place", "(I)I"⟩
abbrev w_X_place : List Cond := .code y_X_place prog_7_method_21_code 2 (some .int) :: wg
abbrev y_X_speed : MethodName := ⟨"OscillatorRowModel", "speed", "(I)I"⟩
abbrev w_X_speed : List Cond := .code y_X_speed prog_7_method_22_code 2 (some .int) :: wg
abbrev y_X_push : MethodName := ⟨"OscillatorRowModel", "push", "(I)J"⟩
abbrev w_X_push : List Cond := .code y_X_push prog_7_method_23_code 2 (some .long) :: wg
abbrev y_X_hit : MethodName := ⟨"OscillatorRowModel", "hit", "(II)I"⟩
abbrev w_X_hit : List Cond := .code y_X_hit prog_7_method_24_code 3 (some .int) :: wg
abbrev y_X_clear : MethodName := ⟨"OscillatorRowModel", "clear", "()I"⟩
abbrev w_X_clear : List Cond := .code y_X_clear prog_7_method_25_code 2 (some .int) :: wg
abbrev y_X_count : MethodName := ⟨"OscillatorRowModel", "count", "(I)I"⟩
abbrev w_X_count : List Cond := .code y_X_count prog_7_method_26_code 4 (some .int) :: wg
end
section
/-! Our own rows above the kit: contracts in one shape, calls in one shape, loops inside a proof. -/
/-- words of nest mates and of arrays of objects: they go from state to state by themselves -/
def gN (U : State) : Prop := ∀ w ∈ wn, va_Nw w U
theorem gN_warm {s U : State} (hW : s.WarmedH U.vm) (h : gN s) : gN U := by
  intro w hw
  have h1 := h w hw
  have h2 := (List.mem_filter.mp hw).2
  cases w with
  | fieldLinkNest a i b n d h9 => exact va_Nw.warmF hW h1
  | methodLinkNest a i x h9 => exact va_Nw.warmM hW h1
  | arrayOver t =>
    cases t with
    | object C => exact va_AO.moved hW.alike h1
    | _ => exact absurd (show false = true from h2) Bool.false_ne_true
  | _ => exact absurd (show false = true from h2) Bool.false_ne_true
theorem gN_same {u U : State} (hvm : u.vm = U.vm) (h : gN u) : gN U := by
  intro w hw
  have h1 := h w hw
  have h2 := (List.mem_filter.mp hw).2
  cases w with
  | fieldLinkNest a i b n d h9 => exact va_Nw.same rfl hvm h1
  | methodLinkNest a i x h9 => exact va_Nw.same rfl hvm h1
  | arrayOver t =>
    cases t with
    | object C => exact va_AO.moved (u := u) (by rw [hvm]; exact Vm.Alike.refl _) h1
    | _ => exact absurd (show false = true from h2) Bool.false_ne_true
  | _ => exact absurd (show false = true from h2) Bool.false_ne_true
theorem gN_of {s : State} {args : Array Value} (h : ∀ w ∈ lw_tbl, w.before args s = true) : gN s := by
  intro w hw
  have h0 := List.mem_filter.mp hw
  have h1 := h w (List.mem_append_right _ h0.1)
  have h2 := h0.2
  cases w with
  | fieldLinkNest a i b n d h9 => exact va_Nw.of rfl h1
  | methodLinkNest a i x h9 => exact va_Nw.of rfl h1
  | arrayOver t =>
    cases t with
    | object C => exact va_AO.of h1
    | _ => exact absurd (show false = true from h2) Bool.false_ne_true
  | _ => exact absurd (show false = true from h2) Bool.false_ne_true
theorem good_g {c : Cond} (h : c ∈ wg) : GoodIn wg (c :: wg) := by
  intro w hw
  have h1 : w ∈ wg := (List.mem_cons.mp hw).elim (fun e => e ▸ h) id
  exact ⟨h1, good_of_word (List.mem_filter.mp h1).2⟩
theorem good_V {own C : String} {idx : Nat} {y : MethodName} {c : Cond} (h1 : Cond.methodLink own idx y ∈ wg) (h2 : Cond.instanceMethod y ∈ wg) (h3 : Cond.selects C y y ∈ wg) (h4 : Cond.initialized C ∈ wg) (h5 : c ∈ wg) : GoodIn wg (wsV own idx C y (c :: wg)) := by
  intro w hw
  have h : w ∈ wg := by
    rcases List.mem_append.mp hw with q | q
    · simp only [List.mem_cons, List.not_mem_nil, or_false] at q
      rcases q with rfl | rfl | rfl | rfl <;> assumption
    · exact (good_g h5 w q).1
  exact ⟨h, good_of_word (List.mem_filter.mp h).2⟩
theorem good_S {own : String} {idx : Nat} {y : MethodName} {c : Cond} (h1 : Cond.methodLink own idx y ∈ wg) (h2 : Cond.static y ∈ wg) (h4 : Cond.initialized own ∈ wg) (h5 : c ∈ wg) : GoodIn wg (wsS own idx y (c :: wg)) := by
  intro w hw
  have h : w ∈ wg := by
    rcases List.mem_append.mp hw with q | q
    · simp only [List.mem_cons, List.not_mem_nil, or_false] at q
      rcases q with rfl | rfl | rfl <;> assumption
    · exact (good_g h5 w q).1
  exact ⟨h, good_of_word (List.mem_filter.mp h).2⟩
section BB
variable {p : Program} {l : Launch} {e : Env} {R : Room} {s : State} {m : MethodId} {args : Array Value} {below : List Frame} {meth : Method} {c : Code} {H : Heap} {locs : List Loc} {cells slots : Nat} {Q : State → Prop}
variable {cc : ByteArray} {pc : Nat} {ls : Array Slot} {rest : List Value} {D : va_G} {cl : List vw_C} {A : Nat → Prop} {a : Nat} {tys : List (ClassId × FieldType)} {ws : va_W} {H0 : Heap}
/-- a contract's world at its start -/
def gP (D : va_G) (cl : List vw_C) (tys : List (ClassId × FieldType)) (ws : va_W) (sz : Nat) (U : State) : Prop := U.heap.size = sz ∧ va_P D cl ws U.heap ∧ va_K D cl tys U ∧ va_D (fun _ => True) ws ∧ gN U
/-- a contract's world at its end -/
def gB (D : va_G) (cl : List vw_C) (tys : List (ClassId × FieldType)) (A : Nat → Prop) (ws : va_W) (t : State) : Prop := va_P D cl ws t.heap ∧ va_K D cl tys t ∧ va_D A ws
theorem met_go {y : MethodName} {rm : Room} {sz : Nat} {AV : List Value} {mc ms maxL : Nat} {ret : Option FieldType} {QA : (Nat → Prop) → Array Value → State → Outcome → State → Prop}
    (hy : plainName y.cls = true) (hn : (lg_sl AV).length ≤ maxL)
    (body : ∀ (p : Program) (e : Env) (s : State) (m : MethodId) (below : List Frame) (meth : Method) (c : Code) (A : Nat → Prop) (ls : Array Slot), p.tables.exec = Jvm.exec → c.code = cc → meth.sig.returnType = ret → c.maxLocals = maxL → (∀ x ∈ wg, x.before AV.toArray s = true) → gN s → s.vm.findClass y.cls = some m.cls → meth.locks = false → meth.name = y.name → lv_has ls maxL (lv_args 0 AV) → va_P D cl ws s.heap → va_K D cl tys s → va_D A ws → (∀ q : Nat, s.heap.size ≤ q → A q) → va_S A s.heap s.heap [] → W p l e rm s m AV.toArray below meth c s.heap [] 0 0 (MQ below (QA A) AV.toArray s mc ms A) (F0 m 0 ls [])) :
    Met l y (Cond.code y cc maxL ret :: wg) rm (va_Pc AV (gP D cl tys ws sz)) (QA (va_A ws sz)) mc ms (va_A ws sz) := by
  refine Met.ofW (cc := cc) (maxL := maxL) (ret := ret) hy rfl ?_
  intro p e s m args below meth c s₁ B hml hv
  obtain ⟨rfl, hsz, hP, hK, hD0, hN⟩ := hv
  have hts := atoms_spec (ws := Cond.code y cc maxL ret :: wg) B.pre
  subst hsz
  have hl := lv_entry AV (n := maxL) hn
  rw [lg_entry_eq]
  exact body p e s m below meth c (va_A ws s.heap.size) _ B.exec B.bytes B.returns hml (fun x h => hts x (List.mem_cons_of_mem _ h)) hN (findClass_of_methodNamed B.named) B.notSynchronized (name_of_methodNamed B.named B.method).1 hl hP hK hD0.self (fun q h => Or.inr h) va_S.rf
/-- ends -/
theorem re_i {S : Type} {post : Int32 → S → Prop} {w1 : S → va_W} {v : Int32} (u : S) (hx : p.tables.exec = Jvm.exec) (hb : c.code = cc) (hr : meth.sig.returnType = some .int) (hlocks : meth.locks = false) (hp : post v u) (hP : va_P D cl (w1 u) H) (hK : va_K D cl tys s) (hD : va_D A (w1 u)) (hS : va_S A s.heap H locs) (hdg : decode cc pc = .ok (.ireturn, 1)) :
    W p l e R s m args below meth c H locs cells slots (MQ below (va_Qi post (fun u t => gB D cl tys A (w1 u) t) A) args s cells slots A) (F0 m pc ls [.int v]) :=
  W.iret hx hb hr (fun t ht hW => ⟨⟨v, u, rfl, hp, by rw [ht]; exact hP, va_K.moved hW.alike hK, hD⟩, hS.F ht⟩) hS.2.2 hdg hlocks
theorem re_z {S : Type} {post : Int32 → S → Prop} {w1 : S → va_W} {v : Int32} {ty : FieldType} (u : S) (hx : p.tables.exec = Jvm.exec) (hb : c.code = cc) (hr : meth.sig.returnType = some ty) (hn : narrow ty (.int v) = .int v) (hlocks : meth.locks = false) (hp : post v u) (hP : va_P D cl (w1 u) H) (hK : va_K D cl tys s) (hD : va_D A (w1 u)) (hS : va_S A s.heap H locs) (hdg : decode cc pc = .ok (.ireturn, 1)) :
    W p l e R s m args below meth c H locs cells slots (MQ below (va_Qi post (fun u t => gB D cl tys A (w1 u) t) A) args s cells slots A) (F0 m pc ls [.int v]) :=
  W.zret hx hb hr hn (fun t ht hW => ⟨⟨v, u, rfl, hp, by rw [ht]; exact hP, va_K.moved hW.alike hK, hD⟩, hS.F ht⟩) hS.2.2 hdg hlocks
theorem re_l {S : Type} {post : Int64 → S → Prop} {w1 : S → va_W} {v : Int64} (u : S) (hx : p.tables.exec = Jvm.exec) (hb : c.code = cc) (hr : meth.sig.returnType = some .long) (hlocks : meth.locks = false) (hp : post v u) (hP : va_P D cl (w1 u) H) (hK : va_K D cl tys s) (hD : va_D A (w1 u)) (hS : va_S A s.heap H locs) (hdg : decode cc pc = .ok (.lreturn, 1)) :
    W p l e R s m args below meth c H locs cells slots (MQ below (va_Ql post (fun u t => gB D cl tys A (w1 u) t) A) args s cells slots A) (F0 m pc ls [.long v]) :=
  W.lret hx hb hr (fun t ht hW => ⟨⟨v, u, rfl, hp, by rw [ht]; exact hP, va_K.moved hW.alike hK, hD⟩, hS.F ht⟩) hS.2.2 hdg hlocks
theorem re_v {S : Type} {post : S → Prop} {w1 : S → va_W} (u : S) (hx : p.tables.exec = Jvm.exec) (hb : c.code = cc) (hr : meth.sig.returnType = none) (hlocks : meth.locks = false) (hp : post u) (hP : va_P D cl (w1 u) H) (hK : va_K D cl tys s) (hD : va_D A (w1 u)) (hS : va_S A s.heap H locs) (hdg : decode cc pc = .ok (.return_, 1)) :
    W p l e R s m args below meth c H locs cells slots (MQ below (va_Qv post (fun u t => gB D cl tys A (w1 u) t) A) args s cells slots A) (F0 m pc ls []) :=
  W.vret hx hb hr (fun t ht hW => ⟨⟨u, rfl, hp, by rw [ht]; exact hP, va_K.moved hW.alike hK, hD⟩, hS.F ht⟩) hS.2.2 hdg hlocks
/-- what a callee of that shape wants -/
theorem gP_blind {av : List Value} {wc : va_W} {sz : Nat} : FrameBlind (va_Pc av (gP D cl tys wc sz)) := by
  intro a U g mk q
  obtain ⟨q0, q1, qP, qK, qD, qN⟩ := q
  exact ⟨q0, q1, qP, va_K.moved (u := U) (U := U.calling g mk a) (Vm.Alike.refl U.vm) qK, qD, gN_same (u := U) (U := U.calling g mk a) rfl qN⟩
theorem pre_S {As : List Value} {wc : va_W} (hP : va_P D cl wc H) (hD : va_D A wc) (hK : va_K D cl tys s) (hN : gN s) : PreS s H (va_Pc As (gP D cl tys wc H.size)) As :=
  ⟨gP_blind, fun U hU hW => ⟨rfl, by rw [hU], by rw [hU]; exact hP, va_K.moved hW.alike hK, hD.weaken (fun _ _ _ _ => trivial), gN_warm hW hN⟩⟩
theorem pre_V {b : Nat} {As : List Value} {wc : va_W} {ci : Nat} {q : vw_C} {fs : List Value} (hP : va_P D cl wc H) (hD : va_D A wc) (hK : va_K D cl tys s) (hN : gN s) (hc : cl[ci]? = some q) (he : wc[0]? = some (b, .inr (ci, fs))) : PreV s H q.1 b (va_Pc (.ref b :: As) (gP D cl tys wc H.size)) As :=
  ⟨gP_blind, va_recv hK hP hc he, fun U hU hW => ⟨rfl, by rw [hU], by rw [hU]; exact hP, va_K.moved hW.alike hK, hD.weaken (fun _ _ _ _ => trivial), gN_warm hW hN⟩⟩
/-- calls: the callee's cells are cut out, come back changed, the rest stays -/
theorem gc_i {S : Type} {post : Int32 → S → Prop} {w1 : S → va_W} {wc wr : va_W} {mc ms : Nat} {aa : Array Value} {st0 : List Value} (hP : va_P D cl ws H) (hD : va_D A ws) (hS : va_S A H0 H locs) (hA : ∀ q : Nat, H0.size ≤ q → A q) (isC isR : List Nat) (hC : isC.map (fun i => ws[i]?) = wc.map some) (hR : isR.map (fun i => ws[i]?) = wr.map some) (hn : va_nd isR = true) (hdis : ∀ i ∈ isR, i ∉ isC)
    (run : va_Run p l e R s m args below meth c H locs cells slots mc ms (F0 m pc ls st0) rest (va_Qi post (fun u t => gB D cl tys (va_A wc H.size) (w1 u) t) (va_A wc H.size) aa) (va_A wc H.size))
    (kk : ∀ (r : Int32) (u : S) (H1 : Heap) (locs1 : List Loc), post r u → va_P D cl (wr ++ w1 u) H1 → va_D A (wr ++ w1 u) → va_S A H0 H1 locs1 → W p l e R s m args below meth c H1 locs1 (cells + mc) (slots + ms) Q (F0 m (pc + 3) ls (.int r :: rest))) : W p l e R s m args below meth c H locs cells slots Q (F0 m pc ls st0) := by
  have hF := va_free (wc := wc) hD hS hA isC hC
  refine va_calli run hS (fun q _ h => hF q h) hF (fun r u t H1 locs1 ht hvm hw hB hz1 hk1 hS1 => ?_)
  obtain ⟨hP1, hK1, hD1⟩ := hB
  rw [ht] at hP1
  obtain ⟨hP2, hD2⟩ := va_join (wr := wr) (w1 := w1 u) hP hD isC isR hC hR hn hdis hk1 hF hP1 hD1
  exact kk r u H1 locs1 hw hP2 hD2 hS1
theorem gc_l {S : Type} {post : Int64 → S → Prop} {w1 : S → va_W} {wc wr : va_W} {mc ms : Nat} {aa : Array Value} {st0 : List Value} (hP : va_P D cl ws H) (hD : va_D A ws) (hS : va_S A H0 H locs) (hA : ∀ q : Nat, H0.size ≤ q → A q) (isC isR : List Nat) (hC : isC.map (fun i => ws[i]?) = wc.map some) (hR : isR.map (fun i => ws[i]?) = wr.map some) (hn : va_nd isR = true) (hdis : ∀ i ∈ isR, i ∉ isC)
    (run : va_Run p l e R s m args below meth c H locs cells slots mc ms (F0 m pc ls st0) rest (va_Ql post (fun u t => gB D cl tys (va_A wc H.size) (w1 u) t) (va_A wc H.size) aa) (va_A wc H.size))
    (kk : ∀ (r : Int64) (u : S) (H1 : Heap) (locs1 : List Loc), post r u → va_P D cl (wr ++ w1 u) H1 → va_D A (wr ++ w1 u) → va_S A H0 H1 locs1 → W p l e R s m args below meth c H1 locs1 (cells + mc) (slots + ms) Q (F0 m (pc + 3) ls (.long r :: rest))) : W p l e R s m args below meth c H locs cells slots Q (F0 m pc ls st0) := by
  have hF := va_free (wc := wc) hD hS hA isC hC
  refine va_calll run hS (fun q _ h => hF q h) hF (fun r u t H1 locs1 ht hvm hw hB hz1 hk1 hS1 => ?_)
  obtain ⟨hP1, hK1, hD1⟩ := hB
  rw [ht] at hP1
  obtain ⟨hP2, hD2⟩ := va_join (wr := wr) (w1 := w1 u) hP hD isC isR hC hR hn hdis hk1 hF hP1 hD1
  exact kk r u H1 locs1 hw hP2 hD2 hS1
theorem gc_v {S : Type} {post : S → Prop} {w1 : S → va_W} {wc wr : va_W} {mc ms : Nat} {aa : Array Value} {st0 : List Value} (hP : va_P D cl ws H) (hD : va_D A ws) (hS : va_S A H0 H locs) (hA : ∀ q : Nat, H0.size ≤ q → A q) (isC isR : List Nat) (hC : isC.map (fun i => ws[i]?) = wc.map some) (hR : isR.map (fun i => ws[i]?) = wr.map some) (hn : va_nd isR = true) (hdis : ∀ i ∈ isR, i ∉ isC)
    (run : va_Run p l e R s m args below meth c H locs cells slots mc ms (F0 m pc ls st0) rest (va_Qv post (fun u t => gB D cl tys (va_A wc H.size) (w1 u) t) (va_A wc H.size) aa) (va_A wc H.size))
    (kk : ∀ (u : S) (H1 : Heap) (locs1 : List Loc), post u → va_P D cl (wr ++ w1 u) H1 → va_D A (wr ++ w1 u) → va_S A H0 H1 locs1 → W p l e R s m args below meth c H1 locs1 (cells + mc) (slots + ms) Q (F0 m (pc + 3) ls rest)) : W p l e R s m args below meth c H locs cells slots Q (F0 m pc ls st0) := by
  have hF := va_free (wc := wc) hD hS hA isC hC
  refine va_callv run hS (fun q _ h => hF q h) hF (fun u t H1 locs1 ht hvm hw hB hz1 hk1 hS1 => ?_)
  obtain ⟨hP1, hK1, hD1⟩ := hB
  rw [ht] at hP1
  obtain ⟨hP2, hD2⟩ := va_join (wr := wr) (w1 := w1 u) hP hD isC isR hC hR hn hdis hk1 hF hP1 hD1
  exact kk u H1 locs1 hw hP2 hD2 hS1
/-- the top of the stack under another name -/
theorem top_i {x y : Int32} (h : x = y) (k : W p l e R s m args below meth c H locs cells slots Q (F0 m pc ls (.int y :: rest))) : W p l e R s m args below meth c H locs cells slots Q (F0 m pc ls (.int x :: rest)) := h ▸ k
theorem top_l {x y : Int64} (h : x = y) (k : W p l e R s m args below meth c H locs cells slots Q (F0 m pc ls (.long y :: rest))) : W p l e R s m args below meth c H locs cells slots Q (F0 m pc ls (.long x :: rest)) := h ▸ k
theorem top_q {x : Option Nat} {y : Nat} (h : x = some y) (k : W p l e R s m args below meth c H locs cells slots Q (F0 m pc ls (.ref y :: rest))) : W p l e R s m args below meth c H locs cells slots Q (F0 m pc ls (va_rf x :: rest)) := by subst h; exact k
/-- a loop inside a proof: I n.. holds at the head with n rounds left at most -/
theorem wp_loop {α : Type} (I : Nat → α → Heap → List Loc → Array Slot → Prop) (h0 : ∀ (x : α) (H : Heap) (locs : List Loc) (ls : Array Slot), ¬ I 0 x H locs ls)
    (step : ∀ (n : Nat) (x : α) (H : Heap) (locs : List Loc) (ls : Array Slot), I (n + 1) x H locs ls → (∀ (x : α) (H : Heap) (locs : List Loc) (ls : Array Slot), I n x H locs ls → W p l e R s m args below meth c H locs cells slots Q (F0 m pc ls [])) → W p l e R s m args below meth c H locs cells slots Q (F0 m pc ls []))
    (n : Nat) (x : α) (h : I n x H locs ls) : W p l e R s m args below meth c H locs cells slots Q (F0 m pc ls []) := by
  induction n generalizing x H locs ls with
  | zero => exact absurd h (h0 x H locs ls)
  | succ n ih => exact step n x H locs ls h (fun x H locs ls h => ih x h)
/-- arrays at an index that is a number -/
theorem ra_iald {j : Nat} (hexec : p.tables.exec = Jvm.exec) (hb : c.code = cc) (hK : va_K D cl tys s) (hP : va_P D cl ws H) (q0 t0 : Nat) {cA : ClassId} {n : Nat} {f : Nat → Int32} (ha : ws[q0]? = some (a, .inl (cA, n, .inl f))) (ht : tys[t0]? = some (cA, .int)) (hj : j < n) (hn : n < 2 ^ 31) (hdg : decode cc pc = .ok (.iaload, 1)) (kk : W p l e R s m args below meth c H locs cells slots Q (F0 m (pc + 1) ls (.int (f j) :: rest))) : W p l e R s m args below meth c H locs cells slots Q (F0 m pc ls (.int (nI j) :: .ref a :: rest)) :=
  va_iald hexec hb hK hP q0 t0 ha ht (vp_in_nI hj hn) hdg (by rw [nI_clamp (Nat.lt_trans hj hn)]; exact kk)
theorem ra_lald {j : Nat} (hexec : p.tables.exec = Jvm.exec) (hb : c.code = cc) (hK : va_K D cl tys s) (hP : va_P D cl ws H) (q0 t0 : Nat) {cA : ClassId} {n : Nat} {f : Nat → Int64} (ha : ws[q0]? = some (a, .inl (cA, n, .inr (.inl f)))) (ht : tys[t0]? = some (cA, .long)) (hj : j < n) (hn : n < 2 ^ 31) (hdg : decode cc pc = .ok (.laload, 1)) (kk : W p l e R s m args below meth c H locs cells slots Q (F0 m (pc + 1) ls (.long (f j) :: rest))) : W p l e R s m args below meth c H locs cells slots Q (F0 m pc ls (.int (nI j) :: .ref a :: rest)) :=
  va_lald hexec hb hK hP q0 t0 ha ht (vp_in_nI hj hn) hdg (by rw [nI_clamp (Nat.lt_trans hj hn)]; exact kk)
theorem ra_aald {j : Nat} (hexec : p.tables.exec = Jvm.exec) (hb : c.code = cc) (hK : va_K D cl tys s) (hP : va_P D cl ws H) (q0 t0 : Nat) {cA : ClassId} {C : String} {n : Nat} {f : Nat → Option Nat} (ha : ws[q0]? = some (a, .inl (cA, n, .inr (.inr (.inr (.inr f)))))) (ht : tys[t0]? = some (cA, .object C)) (hj : j < n) (hn : n < 2 ^ 31) (hdg : decode cc pc = .ok (.aaload, 1)) (kk : W p l e R s m args below meth c H locs cells slots Q (F0 m (pc + 1) ls (va_rf (f j) :: rest))) : W p l e R s m args below meth c H locs cells slots Q (F0 m pc ls (.int (nI j) :: .ref a :: rest)) :=
  va_aldq hexec hb hK hP q0 t0 ha ht (vp_in_nI hj hn) hdg (by rw [nI_clamp (Nat.lt_trans hj hn)]; exact kk)
theorem ra_iast {j : Nat} (hexec : p.tables.exec = Jvm.exec) (hb : c.code = cc) (hK : va_K D cl tys s) (hP : va_P D cl ws H) (hD : va_D A ws) (hS : va_S A H0 H locs) (q0 t0 : Nat) {cA : ClassId} {n : Nat} {f : Nat → Int32} (ha : ws[q0]? = some (a, .inl (cA, n, .inl f))) (ht : tys[t0]? = some (cA, .int)) {x : Int32} (hj : j < n) (hn : n < 2 ^ 31) (hdg : decode cc pc = .ok (.iastore, 1)) (kk : ∀ (H1 : Heap) (locs1 : List Loc), va_P D cl (ws.set q0 (a, .inl (cA, n, .inl (upd f j x)))) H1 → va_D A (ws.set q0 (a, .inl (cA, n, .inl (upd f j x)))) → va_S A H0 H1 locs1 → W p l e R s m args below meth c H1 locs1 cells slots Q (F0 m (pc + 1) ls rest)) : W p l e R s m args below meth c H locs cells slots Q (F0 m pc ls (.int x :: .int (nI j) :: .ref a :: rest)) :=
  va_iast hexec hb hK hP hD hS q0 t0 ha ht (vp_in_nI hj hn) hdg (by rw [nI_clamp (Nat.lt_trans hj hn)]; exact kk)
theorem ra_last {j : Nat} (hexec : p.tables.exec = Jvm.exec) (hb : c.code = cc) (hK : va_K D cl tys s) (hP : va_P D cl ws H) (hD : va_D A ws) (hS : va_S A H0 H locs) (q0 t0 : Nat) {cA : ClassId} {n : Nat} {f : Nat → Int64} (ha : ws[q0]? = some (a, .inl (cA, n, .inr (.inl f)))) (ht : tys[t0]? = some (cA, .long)) {x : Int64} (hj : j < n) (hn : n < 2 ^ 31) (hdg : decode cc pc = .ok (.lastore, 1)) (kk : ∀ (H1 : Heap) (locs1 : List Loc), va_P D cl (ws.set q0 (a, .inl (cA, n, .inr (.inl (vp_updL f j x))))) H1 → va_D A (ws.set q0 (a, .inl (cA, n, .inr (.inl (vp_updL f j x))))) → va_S A H0 H1 locs1 → W p l e R s m args below meth c H1 locs1 cells slots Q (F0 m (pc + 1) ls rest)) : W p l e R s m args below meth c H locs cells slots Q (F0 m pc ls (.long x :: .int (nI j) :: .ref a :: rest)) :=
  va_last hexec hb hK hP hD hS q0 t0 ha ht (vp_in_nI hj hn) hdg (by rw [nI_clamp (Nat.lt_trans hj hn)]; exact kk)
theorem ra_aast {j : Nat} (hexec : p.tables.exec = Jvm.exec) (hb : c.code = cc) (hK : va_K D cl tys s) (hP : va_P D cl ws H) (hD : va_D A ws) (hS : va_S A H0 H locs) (q0 t0 qk ci : Nat) {cA : ClassId} {r : vw_C} {n v : Nat} {vs : List Value} {f : Nat → Option Nat} (ha : ws[q0]? = some (a, .inl (cA, n, .inr (.inr (.inr (.inr f)))))) (ht : tys[t0]? = some (cA, .object r.1)) (hv : ws[qk]? = some (v, .inr (ci, vs))) (hc : cl[ci]? = some r) (hj : j < n) (hn : n < 2 ^ 31) (hdg : decode cc pc = .ok (.aastore, 1)) (kk : ∀ (H1 : Heap) (locs1 : List Loc), va_P D cl (ws.set q0 (a, .inl (cA, n, .inr (.inr (.inr (.inr (va_up f j (some v)))))))) H1 → va_D A (ws.set q0 (a, .inl (cA, n, .inr (.inr (.inr (.inr (va_up f j (some v)))))))) → va_S A H0 H1 locs1 → W p l e R s m args below meth c H1 locs1 cells slots Q (F0 m (pc + 1) ls rest)) : W p l e R s m args below meth c H locs cells slots Q (F0 m pc ls (.ref v :: .int (nI j) :: .ref a :: rest)) :=
  va_astq hexec hb hK hP hD hS q0 t0 qk ci ha ht hv hc (vp_in_nI hj hn) hdg (by rw [nI_clamp (Nat.lt_trans hj hn)]; exact kk)
/-- one name gives one array class -/
theorem kk_one {U : State} {i j : Nat} {c1 c2 : ClassId} {ty : FieldType} (h : va_K D cl tys U) (hi : tys[i]? = some (c1, ty)) (hj : tys[j]? = some (c2, ty)) : c1 = c2 := by
  have h1 := (h.2 i _ hi).2
  have h2 := (h.2 j _ hj).2
  cases ty with
  | object C =>
    obtain ⟨k1, m1, -, -, -, f1⟩ := h1
    obtain ⟨k2, m2, -, -, -, f2⟩ := h2
    exact Option.some.inj (f1.symm.trans f2)
  | _ => exact Option.some.inj (Eq.trans (Eq.symm h1) h2)
end BB
/-- comparisons of longs -/
theorem lgt_lt {x y : Int64} (h : lg_cmp x y < 0) : x < y := (lg_cmp_lt x y).mp h
theorem lgf_lt {x y : Int64} (h : ¬ lg_cmp x y < 0) : ¬ x < y := fun q => h ((lg_cmp_lt x y).mpr q)
theorem lgt_gt {x y : Int64} (h : 0 < lg_cmp x y) : y < x := (lg_cmp_gt x y).mp h
theorem lgf_gt {x y : Int64} (h : ¬ 0 < lg_cmp x y) : ¬ y < x := fun q => h ((lg_cmp_gt x y).mpr q)
theorem lgt_ge {x y : Int64} (h : 0 ≤ lg_cmp x y) : y ≤ x := (lg_cmp_ge x y).mp h
theorem lgf_ge {x y : Int64} (h : ¬ 0 ≤ lg_cmp x y) : ¬ y ≤ x := fun q => h ((lg_cmp_ge x y).mpr q)
theorem lgt_le {x y : Int64} (h : lg_cmp x y ≤ 0) : x ≤ y := (lg_cmp_le x y).mp h
theorem lgf_le {x y : Int64} (h : ¬ lg_cmp x y ≤ 0) : ¬ x ≤ y := fun q => h ((lg_cmp_le x y).mpr q)
theorem lgt_eq {x y : Int64} (h : lg_cmp x y = 0) : x = y := (lg_cmp_eq x y).mp h
theorem lgf_eq {x y : Int64} (h : ¬ lg_cmp x y = 0) : ¬ x = y := fun q => h ((lg_cmp_eq x y).mpr q)
theorem lgt_ne {x y : Int64} (h : ¬ lg_cmp x y = 0) : ¬ x = y := lgf_eq h
theorem lgf_ne {x y : Int64} (h : lg_cmp x y = 0) : x = y := lgt_eq h
theorem nI_leM {a b : Nat} (h : nI a ≤ nI b) (ha : a < 2 ^ 31) (hb : b < 2 ^ 31) : a ≤ b := (nI_leI ha hb).mp h
theorem nI_nleM {a b : Nat} (h : ¬ nI a ≤ nI b) (ha : a < 2 ^ 31) (hb : b < 2 ^ 31) : b < a := Nat.lt_of_not_le (fun q => h ((nI_leI ha hb).mpr q))
theorem nI_ltM {a b : Nat} (h : nI a < nI b) (ha : a < 2 ^ 31) (hb : b < 2 ^ 31) : a < b := (nI_ltI ha hb).mp h
theorem nI_nltM {a b : Nat} (h : ¬ nI a < nI b) (ha : a < 2 ^ 31) (hb : b < 2 ^ 31) : b ≤ a := Nat.le_of_not_lt (fun q => h ((nI_ltI ha hb).mpr q))
/-- an array's contents matter below its length alone -/
theorem arrV_eq {cA : ClassId} {n : Nat} {f g : Nat → Value} (h : ∀ j, j < n → f j = g j) : arrV cA n f = arrV cA n g := by
  unfold arrV
  have e : (fun j : Fin n => f j.val) = (fun j : Fin n => g j.val) := by
    funext j
    exact h j.val j.isLt
  rw [e]
theorem arrL_eq {cA : ClassId} {n : Nat} {f g : Nat → Int64} (h : ∀ j, j < n → f j = g j) : vp_cell cA (n, .inr (.inl f)) = vp_cell cA (n, .inr (.inl g)) :=
  arrV_eq (f := fun j => .long (f j)) (g := fun j => .long (g j)) (fun j hj => by rw [h j hj])
theorem arrI_eq {cA : ClassId} {n : Nat} {f g : Nat → Int32} (h : ∀ j, j < n → f j = g j) : vp_cell cA (n, .inl f) = vp_cell cA (n, .inl g) :=
  arrV_eq (f := fun j => .int (f j)) (g := fun j => .int (g j)) (fun j hj => by rw [h j hj])
theorem va_reL {D : va_G} {cl : List vw_C} {A : Nat → Prop} {ws : va_W} {H : Heap} {a n : Nat} {cA : ClassId} {f : Nat → Int64} (g : Nat → Int64) (q0 : Nat) (hP : va_P D cl ws H) (hD : va_D A ws) (ha : ws[q0]? = some (a, .inl (cA, n, .inr (.inl f)))) (h : ∀ j, j < n → f j = g j) : va_P D cl (ws.set q0 (a, .inl (cA, n, .inr (.inl g)))) H ∧ va_D A (ws.set q0 (a, .inl (cA, n, .inr (.inl g)))) := by
  refine ⟨hP.set hD ha ?_ (fun _ _ => rfl), hD.set ha⟩
  have h1 := hP q0 _ ha
  show H[a]? = some (vp_cell cA (n, .inr (.inl g)))
  rw [← arrL_eq h]
  exact h1
theorem va_reI {D : va_G} {cl : List vw_C} {A : Nat → Prop} {ws : va_W} {H : Heap} {a n : Nat} {cA : ClassId} {f : Nat → Int32} (g : Nat → Int32) (q0 : Nat) (hP : va_P D cl ws H) (hD : va_D A ws) (ha : ws[q0]? = some (a, .inl (cA, n, .inl f))) (h : ∀ j, j < n → f j = g j) : va_P D cl (ws.set q0 (a, .inl (cA, n, .inl g))) H ∧ va_D A (ws.set q0 (a, .inl (cA, n, .inl g))) := by
  refine ⟨hP.set hD ha ?_ (fun _ _ => rfl), hD.set ha⟩
  have h1 := hP q0 _ ha
  show H[a]? = some (vp_cell cA (n, .inl g))
  rw [← arrI_eq h]
  exact h1
theorem nI_p {j : Nat} (h : 0 < j) : nI j - 1 = nI (j - 1) := by
  obtain ⟨i, rfl⟩ : ∃ i, j = i + 1 := ⟨j - 1, by omega⟩
  exact nI_pred i
theorem nz_01 {v : Int32} (h : v = 0 ∨ v = 1) : narrow .boolean (.int v) = .int v := by
  rcases h with rfl | rfl <;> rfl
theorem tb_out {x : Int32} {lo hi : Int} (h : ∀ k : Int, lo ≤ k → k ≤ hi → ¬ x.toInt = k) : x.toInt < lo ∨ hi < x.toInt := by
  rcases Int.lt_or_le x.toInt lo with q | q
  · exact Or.inl q
  · rcases Int.lt_or_le hi x.toInt with q2 | q2
    · exact Or.inr q2
    · exact absurd rfl (h x.toInt q q2)
end
section
/-! What the class computes, in the machine's own numbers. -/
def zRnd (am : Int64) (hv : Int32) : Int64 := (am + (((1 : Int64) <<< (hv.toInt64 &&& 63)) >>> ((1 : Int32).toInt64 &&& 63))) >>> (hv.toInt64 &&& 63)
def zNear (am : Int64) : Int32 := if am < (-1024000000) then 0 else if 1024000000 < am then 0 else 1
theorem zNear_01 (am : Int64) : zNear am = 0 ∨ zNear am = 1 := by
  unfold zNear
  split
  · exact Or.inl rfl
  · split
    · exact Or.inl rfl
    · exact Or.inr rfl
theorem zNear_1 {am : Int64} (h : ¬ zNear am = 0) : zNear am = 1 := (zNear_01 am).resolve_left h
def zP0 (zk zc zf : Nat → Int32) (px pv : Nat → Int64) (j : Nat) : Int64 := ((zf j).toInt64 <<< ((4 : Int32).toInt64 &&& 63)) - (zk j).toInt64 * px j - (zc j).toInt64 * pv j
def zP1 (n : Nat) (zk zc zq zf : Nat → Int32) (px pv : Nat → Int64) (j : Nat) : Int64 := if n ≤ j + 1 then zP0 zk zc zf px pv j else zP0 zk zc zf px pv j + (zq j).toInt64 * (px (j + 1) - px j)
def zPush (n : Nat) (zk zc zq zf : Nat → Int32) (px pv : Nat → Int64) (j : Nat) : Int64 := if j ≤ 0 then zP1 n zk zc zq zf px pv j else zP1 n zk zc zq zf px pv j - (zq (j - 1)).toInt64 * (px j - px (j - 1))
theorem zPush_v {n : Nat} {zk zc zq zf : Nat → Int32} {px pv pw : Nat → Int64} {j : Nat} (h : pv j = pw j) : zPush n zk zc zq zf px pv j = zPush n zk zc zq zf px pw j := by
  simp only [zPush, zP1, zP0, h]
def zMix (i : Nat) (f g : Nat → Int64) : Nat → Int64 := fun j => if j < i then f j else g j
theorem zMix_0 (f g : Nat → Int64) : zMix 0 f g = g := by funext j; simp [zMix]
theorem zMix_lt {i j : Nat} {f g : Nat → Int64} (h : j < i) : zMix i f g j = f j := by simp [zMix, h]
theorem zMix_ge {i j : Nat} {f g : Nat → Int64} (h : i ≤ j) : zMix i f g j = g j := by simp [zMix, Nat.not_lt.mpr h]
theorem zMix_put (i : Nat) (f g : Nat → Int64) : zMix (i + 1) f g = vp_updL (zMix i f g) i (f i) := by
  funext j
  unfold zMix vp_updL
  by_cases h : j = i
  · subst h; simp
  · by_cases h2 : j < i
    · simp [h, h2, Nat.lt_succ_of_lt h2]
    · have h3 : ¬ j < i + 1 := by omega
      simp [h, h2, h3]
def zAll (f : Nat → Int64) : Nat → Int32
  | 0 => 1
  | i + 1 => if zAll f i = 0 then 0 else zNear (f i)
theorem zAll_01 (f : Nat → Int64) (i : Nat) : zAll f i = 0 ∨ zAll f i = 1 := by
  cases i with
  | zero => exact Or.inr rfl
  | succ i =>
    unfold zAll
    split
    · exact Or.inl rfl
    · exact zNear_01 _
def zDv (n : Nat) (zk zc zq zf : Nat → Int32) (hv : Int32) (px pv : Nat → Int64) (j : Nat) : Int64 := pv j + zRnd (zPush n zk zc zq zf px pv j) (4 + hv + 1)
def zDx (hv : Int32) (px pv : Nat → Int64) (j : Nat) : Int64 := px j + zRnd (pv j) hv
/-- a step: whether it held, the places, the speeds -/
def zStep (n : Nat) (zk zc zq zf : Nat → Int32) (hv : Int32) (px pv : Nat → Int64) : Int32 × (Nat → Int64) × (Nat → Int64) :=
  if zAll (zDv n zk zc zq zf hv px pv) n = 0 then (0, px, zDv n zk zc zq zf hv px pv)
  else if zAll (zDx hv px (zDv n zk zc zq zf hv px pv)) n = 0 then (0, zDx hv px (zDv n zk zc zq zf hv px pv), zDv n zk zc zq zf hv px pv)
  else if zAll (zDv n zk zc zq zf hv (zDx hv px (zDv n zk zc zq zf hv px pv)) (zDv n zk zc zq zf hv px pv)) n = 0 then (0, zDx hv px (zDv n zk zc zq zf hv px pv), zDv n zk zc zq zf hv (zDx hv px (zDv n zk zc zq zf hv px pv)) (zDv n zk zc zq zf hv px pv))
  else (1, zDx hv px (zDv n zk zc zq zf hv px pv), zDv n zk zc zq zf hv (zDx hv px (zDv n zk zc zq zf hv px pv)) (zDv n zk zc zq zf hv px pv))
def zAbs (am : Int64) : Int64 := if 0 < am then am else -am
def zMax (am bm : Int64) : Int64 := if bm < am then am else bm
/-- the greatest difference, body by body -/
def zGd (px pv qx qv : Nat → Int64) : Nat → Int64
  | 0 => 0
  | i + 1 => zMax (zMax (zGd px pv qx qv i) (zAbs (px i - qx i))) (zAbs (pv i - qv i))
def zBody (ia n : Int32) : Int32 := if ia < 0 then 0 else if n ≤ ia then 0 else 1
def zSix (ia : Int32) : Int32 := if ia < 0 then 0 else if 64 < ia then 0 else 1
def zUni (ia : Int32) : Int32 := if ia < (-1000000000) then 0 else if 1000000000 < ia then 0 else 1
def zFits (tm tk lf : Int32) : Int32 := if lf < tk then 0 else if ¬ (tm &&& (tk - 1)) = 0 then 0 else 1
def zSet (wa : Int32) : Int32 := if wa = (-1) then 0 else 1
def zHit (wa : Int32) (wl : Int64) (wu : Int32) (fr tt : Int64) : Int32 := if ¬ zSet wa = 0 then (if wu = 0 then (if fr ≤ wl then 0 else if wl < tt then 0 else 1) else (if wl ≤ fr then 0 else if tt < wl then 0 else 1)) else 0
def zTill (wl fr tt : Int64) (tk : Int32) : Int32 := if ¬ zAbs (tt - fr) = 0 then ((tk.toInt64 * zAbs (wl - fr) + zAbs (tt - fr) - 1) / zAbs (tt - fr)).toInt32 else 0
def zKeep (ia ct : Int32) : Int32 := if ia < 0 then 0 else if 40 ≤ ia then 0 else if ct ≤ ia then 0 else 1
def zPut (ct : Nat) (f : Nat → Int32) (v : Int32) : Nat → Int32 := if 40 ≤ ct then f else upd f ct v
theorem zPut_ge {ct : Nat} {f : Nat → Int32} {v : Int32} (h : 40 ≤ ct) : zPut ct f v = f := if_pos h
theorem zPut_lt {ct : Nat} {f : Nat → Int32} {v : Int32} (h : ct < 40) : zPut ct f v = upd f ct v := if_neg (Nat.not_le.mpr h)
theorem cpy_lt {n j : Nat} {f g : Nat → Int64} (hj : j < n) (hn : n < 2 ^ 31) : va_cpy f g (0 : Int32).toNatClampNeg (0 : Int32).toNatClampNeg (nI n).toNatClampNeg j = f j := by
  rw [nI_clamp hn, show (0 : Int32).toNatClampNeg = 0 from rfl, pk_cpy_in (Nat.zero_le j) (by omega)]
  congr 1
  omega
theorem nI_le0M {j : Nat} (h : nI j ≤ 0) (hj : j < 2 ^ 31) : j ≤ 0 := nI_leM (b := 0) (by rw [nI_0]; exact h) hj (by omega)
theorem nI_nle0M {j : Nat} (h : ¬ nI j ≤ 0) (hj : j < 2 ^ 31) : 0 < j := nI_nleM (b := 0) (by rw [nI_0]; exact h) hj (by omega)
theorem zBody_ix {ia : Int32} {n : Nat} (h : ¬ zBody ia (nI n) = 0) (hn : n ≤ 4) : ∃ j : Nat, j < n ∧ ia = nI j := by
  unfold zBody at h
  split at h
  · exact absurd rfl h
  · rename_i h1
    split at h
    · exact absurd rfl h
    · rename_i h2
      obtain ⟨j, hj, rfl⟩ := nI_of h1
      exact ⟨j, nI_nleM h2 (by omega) hj, rfl⟩
def zCbody (n : Nat) (ia ib ic : Int32) (zk zc : Nat → Int32) : Int32 × (Nat → Int32) × (Nat → Int32) :=
  if zBody ia (nI n) = 0 then (-1, zk, zc) else if zSix ib = 0 then (-1, zk, zc) else if ¬ zSix ic = 0 then (0, upd zk ia.toNatClampNeg ib, upd zc ia.toNatClampNeg ic) else (-1, zk, zc)
def zClink (n : Nat) (ia ib : Int32) (zq : Nat → Int32) : Int32 × (Nat → Int32) :=
  if zBody ia (nI n) = 0 then (-1, zq) else if ia = nI n - 1 then (-1, zq) else if ¬ zSix ib = 0 then (0, upd zq ia.toNatClampNeg ib) else (-1, zq)
def zCset (n : Nat) (ia ib ic : Int32) (px pv : Nat → Int64) : Int32 × (Nat → Int64) × (Nat → Int64) :=
  if zBody ia (nI n) = 0 then (-1, px, pv) else if zUni ib = 0 then (-1, px, pv) else if ¬ zUni ic = 0 then (0, vp_updL px ia.toNatClampNeg ib.toInt64, vp_updL pv ia.toNatClampNeg ic.toInt64) else (-1, px, pv)
def zCforce (n : Nat) (ia ib : Int32) (zf : Nat → Int32) : Int32 × (Nat → Int32) :=
  if zBody ia (nI n) = 0 then (-1, zf) else if ¬ zUni ib = 0 then (0, upd zf ia.toNatClampNeg ib) else (-1, zf)
def zCtol (ia : Int32) (tol : Nat) : Int32 × Nat := if ia < 0 then (-1, tol) else if ia ≤ 1000000 then (0, ia.toNatClampNeg) else (-1, tol)
def zCat (n : Nat) (ia : Int32) (px : Nat → Int64) : Int32 := if zBody ia (nI n) = 0 then (-1) else (px ia.toNatClampNeg).toInt32
def zCpush (n : Nat) (ia : Int32) (zk zc zq zf : Nat → Int32) (px pv : Nat → Int64) : Int64 := if zBody ia (nI n) = 0 then (-2000000000) else zPush n zk zc zq zf px pv ia.toNatClampNeg
theorem zKeep_ix {ia : Int32} {ct : Nat} (h : ¬ zKeep ia (nI ct) = 0) (hc : ct < 2 ^ 30) : ∃ j : Nat, j < 40 ∧ j < ct ∧ ia = nI j := by
  unfold zKeep at h
  split at h
  · exact absurd rfl h
  · rename_i h1
    split at h
    · exact absurd rfl h
    · rename_i h2
      split at h
      · exact absurd rfl h
      · rename_i h3
        obtain ⟨j, hj, rfl⟩ := nI_of h1
        exact ⟨j, nI_nleM (a := 40) h2 (by omega) hj, nI_nleM h3 (by omega) hj, rfl⟩
def zChit (ct : Nat) (ia ib : Int32) (f1 f2 f3 : Nat → Int32) : Int32 :=
  if ¬ zKeep ia (nI ct) = 0 then (if ib = 0 then f1 ia.toNatClampNeg else if ib = 1 then f2 ia.toNatClampNeg else if ib = 2 then f3 ia.toNatClampNeg else (-2000000000)) else (-2000000000)
theorem zSet_01 (wa : Int32) : zSet wa = 0 ∨ zSet wa = 1 := by
  unfold zSet
  split
  · exact Or.inl rfl
  · exact Or.inr rfl
theorem zSet_1 {wa : Int32} (h : ¬ zSet wa = 0) : zSet wa = 1 := (zSet_01 wa).resolve_left h
def zCnt (wa : Nat → Int32) : Int32 := zSet (wa 0) + zSet (wa 1) + zSet (wa 2) + zSet (wa 3)
def zCcount (n tm fs sd rj ct : Nat) (er : Int64) (wa : Nat → Int32) (ia : Int32) : Int32 :=
  if ia = 0 then nI tm else if ia = 1 then nI fs else if ia = 2 then nI sd else if ia = 3 then nI rj else if ia = 4 then nI ct else if ia = 5 then er.toInt32 else if ia = 6 then nI n else if ia = 7 then zCnt wa else (-1)
theorem zW_ix {ia : Int32} (h : ¬ ia < 0) (h2 : ¬ 4 ≤ ia) : ∃ j : Nat, j < 4 ∧ ia = nI j := by
  obtain ⟨j, hj, rfl⟩ := nI_of h
  exact ⟨j, nI_nleM (a := 4) h2 (by omega) hj, rfl⟩
def zCwatch (n : Nat) (ia ib ic id ie : Int32) (wb : Nat → Nat) (wl : Nat → Int64) (wu wa : Nat → Int32) : Int32 × (Nat → Nat) × (Nat → Int64) × (Nat → Int32) × (Nat → Int32) :=
  if ia < 0 then (-1, wb, wl, wu, wa) else if 4 ≤ ia then (-1, wb, wl, wu, wa) else if zBody ib (nI n) = 0 then (-1, wb, wl, wu, wa) else if ¬ zUni ic = 0 then (if ie < (-1) then (-1, wb, wl, wu, wa) else if ie ≤ 2 then (0, va_up wb ia.toNatClampNeg ib.toNatClampNeg, vp_updL wl ia.toNatClampNeg ic.toInt64, upd wu ia.toNatClampNeg id, upd wa ia.toNatClampNeg ie) else (-1, wb, wl, wu, wa)) else (-1, wb, wl, wu, wa)
def zFit (tm lf : Int32) : Nat → Nat → Nat
  | 0, g => g
  | d + 1, g => if ¬ zFits tm (256 >>> (nI g &&& 31)) lf = 0 then g else zFit tm lf d (g + 1)
theorem zFit_8 {tm lf : Int32} {g : Nat} (h : 8 ≤ g) (h2 : g ≤ 8) : zFit tm lf (8 - g) g = g := by
  obtain rfl : g = 8 := by omega
  rfl
theorem zFit_stop {tm lf : Int32} {g : Nat} (h : g < 8) (c : ¬ zFits tm (256 >>> (nI g &&& 31)) lf = 0) : zFit tm lf (8 - g) g = g := by
  obtain ⟨d, hd⟩ : ∃ d, 8 - g = d + 1 := ⟨7 - g, by omega⟩
  rw [hd, zFit, if_pos c]
theorem zFit_go {tm lf : Int32} {g : Nat} (h : g < 8) (c : zFits tm (256 >>> (nI g &&& 31)) lf = 0) : zFit tm lf (8 - g) g = zFit tm lf (8 - (g + 1)) (g + 1) := by
  obtain ⟨d, hd⟩ : ∃ d, 8 - g = d + 1 := ⟨7 - g, by omega⟩
  have hd2 : 8 - (g + 1) = d := by omega
  rw [hd, hd2, zFit, if_neg (fun q => q c)]
/-- a try at fineness fs: the error and the outcome of the two halves, or nothing -/
def zTry (n : Nat) (zk zc zq zf : Nat → Int32) (fs : Nat) (px pv : Nat → Int64) : Option (Int64 × (Nat → Int64) × (Nat → Int64)) :=
  if (zStep n zk zc zq zf (nI fs) px pv).1 = 0 then none
  else if (zStep n zk zc zq zf (nI (fs + 1)) px pv).1 = 0 then none
  else if (zStep n zk zc zq zf (nI (fs + 1)) (zStep n zk zc zq zf (nI (fs + 1)) px pv).2.1 (zStep n zk zc zq zf (nI (fs + 1)) px pv).2.2).1 = 0 then none
  else some (zGd (zStep n zk zc zq zf (nI fs) px pv).2.1 (zStep n zk zc zq zf (nI fs) px pv).2.2 (zStep n zk zc zq zf (nI (fs + 1)) (zStep n zk zc zq zf (nI (fs + 1)) px pv).2.1 (zStep n zk zc zq zf (nI (fs + 1)) px pv).2.2).2.1 (zStep n zk zc zq zf (nI (fs + 1)) (zStep n zk zc zq zf (nI (fs + 1)) px pv).2.1 (zStep n zk zc zq zf (nI (fs + 1)) px pv).2.2).2.2 n,
    (zStep n zk zc zq zf (nI (fs + 1)) (zStep n zk zc zq zf (nI (fs + 1)) px pv).2.1 (zStep n zk zc zq zf (nI (fs + 1)) px pv).2.2).2)
section ZT
variable {n : Nat} {zk zc zq zf : Nat → Int32} {fs : Nat} {px pv x1 v1 x2 v2 x3 v3 : Nat → Int64} {r1 r2 r3 : Int32}
theorem zTry_1 (t1 : (r1, x1, v1) = zStep n zk zc zq zf (nI fs) px pv) (c1 : r1 = 0) : zTry n zk zc zq zf fs px pv = none := by
  unfold zTry; rw [← t1]; exact if_pos c1
theorem zTry_2 (t1 : (r1, x1, v1) = zStep n zk zc zq zf (nI fs) px pv) (c1 : ¬ r1 = 0) (t2 : (r2, x2, v2) = zStep n zk zc zq zf (nI (fs + 1)) px pv) (c2 : r2 = 0) : zTry n zk zc zq zf fs px pv = none := by
  unfold zTry; rw [← t1, ← t2]; exact (if_neg c1).trans (if_pos c2)
theorem zTry_3 (t1 : (r1, x1, v1) = zStep n zk zc zq zf (nI fs) px pv) (c1 : ¬ r1 = 0) (t2 : (r2, x2, v2) = zStep n zk zc zq zf (nI (fs + 1)) px pv) (c2 : ¬ r2 = 0) (t3 : (r3, x3, v3) = zStep n zk zc zq zf (nI (fs + 1)) x2 v2) (c3 : r3 = 0) : zTry n zk zc zq zf fs px pv = none := by
  unfold zTry; rw [← t1, ← t2]; dsimp only; rw [← t3]; exact (if_neg c1).trans ((if_neg c2).trans (if_pos c3))
theorem zTry_4 (t1 : (r1, x1, v1) = zStep n zk zc zq zf (nI fs) px pv) (c1 : ¬ r1 = 0) (t2 : (r2, x2, v2) = zStep n zk zc zq zf (nI (fs + 1)) px pv) (c2 : ¬ r2 = 0) (t3 : (r3, x3, v3) = zStep n zk zc zq zf (nI (fs + 1)) x2 v2) (c3 : ¬ r3 = 0) : zTry n zk zc zq zf fs px pv = some (zGd x1 v1 x3 v3 n, x3, v3) := by
  unfold zTry; rw [← t1, ← t2]; dsimp only; rw [← t3]; exact (if_neg c1).trans ((if_neg c2).trans (if_neg c3))
end ZT
def zGood (n : Nat) (zk zc zq zf : Nat → Int32) (px pv : Nat → Int64) (tol : Nat) : Nat → Nat → Option (Int64 × (Nat → Int64) × (Nat → Int64)) × Nat × Nat
  | 0, g => (zTry n zk zc zq zf g px pv, g, 0)
  | d + 1, g => match zTry n zk zc zq zf g px pv with
    | none => (none, g, 0)
    | some t => if t.1 ≤ (nI tol).toInt64 then (some t, g, 0) else ((zGood n zk zc zq zf px pv tol d (g + 1)).1, (zGood n zk zc zq zf px pv tol d (g + 1)).2.1, (zGood n zk zc zq zf px pv tol d (g + 1)).2.2 + 1)
/-- what the tries come to, with the count of those rejected before -/
def zGr (n : Nat) (zk zc zq zf : Nat → Int32) (px pv : Nat → Int64) (tol g j : Nat) : Option (Int64 × (Nat → Int64) × (Nat → Int64)) × Nat × Nat := ((zGood n zk zc zq zf px pv tol (8 - g) g).1, (zGood n zk zc zq zf px pv tol (8 - g) g).2.1, j + (zGood n zk zc zq zf px pv tol (8 - g) g).2.2)
section ZG
variable {n : Nat} {zk zc zq zf : Nat → Int32} {fs tol g j rj : Nat} {px pv bx bv : Nat → Int64} {em : Int64}
theorem zGood_le (hg : (zTry n zk zc zq zf g px pv = none ∧ em = (-1)) ∨ zTry n zk zc zq zf g px pv = some (em, bx, bv)) (c : em ≤ (nI tol).toInt64) : zGood n zk zc zq zf px pv tol (8 - g) g = (zTry n zk zc zq zf g px pv, g, 0) := by
  cases h8 : 8 - g with
  | zero => rfl
  | succ d =>
    unfold zGood
    rcases hg with ⟨h, -⟩ | h
    · rw [h]
    · rw [h]; exact if_pos c
theorem zGood_8 (hg : (zTry n zk zc zq zf g px pv = none ∧ em = (-1)) ∨ zTry n zk zc zq zf g px pv = some (em, bx, bv)) (c : 8 ≤ g) (c2 : g ≤ 8) : zGood n zk zc zq zf px pv tol (8 - g) g = (zTry n zk zc zq zf g px pv, g, 0) := by
  obtain rfl : g = 8 := by omega
  rfl
theorem zGood_end (hz : zGr n zk zc zq zf px pv tol fs rj = zGr n zk zc zq zf px pv tol g j) (hs : zGood n zk zc zq zf px pv tol (8 - g) g = (zTry n zk zc zq zf g px pv, g, 0)) (hg : (zTry n zk zc zq zf g px pv = none ∧ em = (-1)) ∨ zTry n zk zc zq zf g px pv = some (em, bx, bv)) :
    (((zGood n zk zc zq zf px pv tol (8 - fs) fs).1 = none ∧ em = (-1)) ∨ (zGood n zk zc zq zf px pv tol (8 - fs) fs).1 = some (em, bx, bv)) ∧ g = (zGood n zk zc zq zf px pv tol (8 - fs) fs).2.1 ∧ j = rj + (zGood n zk zc zq zf px pv tol (8 - fs) fs).2.2 := by
  unfold zGr at hz
  rw [hs] at hz
  have h1 := congrArg Prod.fst hz
  have h2 := congrArg (fun q => q.2.1) hz
  have h3 := congrArg (fun q => q.2.2) hz
  dsimp only at h1 h2 h3
  rw [h1, h2, h3]
  exact ⟨hg, rfl, by omega⟩
theorem zGood_go (hg : (zTry n zk zc zq zf g px pv = none ∧ em = (-1)) ∨ zTry n zk zc zq zf g px pv = some (em, bx, bv)) (c : ¬ em ≤ (nI tol).toInt64) (c2 : g < 8) (ht : tol < 2 ^ 31) : zGr n zk zc zq zf px pv tol g j = zGr n zk zc zq zf px pv tol (g + 1) (j + 1) := by
  rcases hg with ⟨-, h⟩ | h
  · exfalso
    apply c
    rw [h, nI_l ht, Int64.le_iff_toInt_le, lN_toInt ht]
    have : ((-1 : Int64)).toInt = -1 := by decide
    omega
  · obtain ⟨d, hd⟩ : ∃ d, 8 - g = d + 1 := ⟨7 - g, by omega⟩
    have hd2 : 8 - (g + 1) = d := by omega
    have e : zGood n zk zc zq zf px pv tol (d + 1) g = ((zGood n zk zc zq zf px pv tol d (g + 1)).1, (zGood n zk zc zq zf px pv tol d (g + 1)).2.1, (zGood n zk zc zq zf px pv tol d (g + 1)).2.2 + 1) := by
      rw [zGood, h]; exact if_neg c
    unfold zGr
    rw [hd, hd2, e]
    dsimp only
    rw [show j + ((zGood n zk zc zq zf px pv tol d (g + 1)).2.2 + 1) = j + 1 + (zGood n zk zc zq zf px pv tol d (g + 1)).2.2 by omega]
end ZG
def zLess (fs : Nat) (em : Int64) (tol : Nat) : Nat := if fs ≤ 0 then fs else if (nI tol).toInt64 < em * 8 then fs else fs - 1
def zTurn (wa : Int32) (qv : Nat → Int64) (i : Nat) : Nat → Int64 := if ¬ wa = 1 then qv else vp_updL qv i (-(qv i))
def zSt (st wa : Int32) : Int32 := if ¬ st = 0 then 1 else if ¬ wa = 2 then 0 else 1
theorem zTurn_no {wa : Int32} {qv : Nat → Int64} {i : Nat} (c : ¬ wa = 1) : qv = zTurn wa qv i := (if_pos c).symm
theorem zTurn_yes {wa : Int32} {qv : Nat → Int64} {i : Nat} (c : wa = 1) : vp_updL qv i (-(qv i)) = zTurn wa qv i := (if_neg (fun q => q c)).symm
theorem zSt_y {st wa : Int32} (c : ¬ st = 0) : 1 = zSt st wa := (if_pos c).symm
theorem zSt_n {st wa : Int32} (c : st = 0) (c2 : ¬ wa = 2) : 0 = zSt st wa := ((if_neg (fun q => q c)).trans (if_pos c2)).symm
theorem zSt_2 {st wa : Int32} (c : st = 0) (c2 : wa = 2) : 1 = zSt st wa := ((if_neg (fun q => q c)).trans (if_neg (fun q => q c2))).symm
theorem zSt_01 (st wa : Int32) : zSt st wa = 0 ∨ zSt st wa = 1 := by
  unfold zSt
  split
  · exact Or.inr rfl
  · split
    · exact Or.inl rfl
    · exact Or.inr rfl
section ZL
variable (wb : Nat → Nat) (wl : Nat → Int64) (wu wa : Nat → Int32) (bx px : Nat → Int64) (tm tk : Int32)
def zW1 (w : Nat) (u : Int32 × (Nat → Int64) × Nat × (Nat → Int32) × (Nat → Int32) × (Nat → Int32)) : Int32 × (Nat → Int64) × Nat × (Nat → Int32) × (Nat → Int32) × (Nat → Int32) :=
  if ¬ zHit (wa w) (wl w) (wu w) (bx (wb w)) (px (wb w)) = 0 then (zSt u.1 (wa w), zTurn (wa w) u.2.1 (wb w), u.2.2.1 + 1, zPut u.2.2.1 u.2.2.2.1 (nI w), zPut u.2.2.1 u.2.2.2.2.1 (tm - tk + zTill (wl w) (bx (wb w)) (px (wb w)) tk), zPut u.2.2.1 u.2.2.2.2.2 (u.2.1 (wb w)).toInt32) else u
def zLook : Nat → (Int32 × (Nat → Int64) × Nat × (Nat → Int32) × (Nat → Int32) × (Nat → Int32)) → Int32 × (Nat → Int64) × Nat × (Nat → Int32) × (Nat → Int32) × (Nat → Int32)
  | 0, u => u
  | w + 1, u => zW1 wb wl wu wa bx px tm tk w (zLook w u)
variable {wb wl wu wa bx px tm tk}
theorem zLook_no {w : Nat} {u v : Int32 × (Nat → Int64) × Nat × (Nat → Int32) × (Nat → Int32) × (Nat → Int32)} (hz : v = zLook wb wl wu wa bx px tm tk w u) (c : zHit (wa w) (wl w) (wu w) (bx (wb w)) (px (wb w)) = 0) : v = zLook wb wl wu wa bx px tm tk (w + 1) u := by
  rw [zLook, ← hz, zW1, if_neg (fun q => q c)]
theorem zLook_hit {w : Nat} {u : Int32 × (Nat → Int64) × Nat × (Nat → Int32) × (Nat → Int32) × (Nat → Int32)} {st st2 : Int32} {qv qw : Nat → Int64} {qc : Nat} {q1 q2 q3 : Nat → Int32} (hz : (st, qv, qc, q1, q2, q3) = zLook wb wl wu wa bx px tm tk w u) (c : ¬ zHit (wa w) (wl w) (wu w) (bx (wb w)) (px (wb w)) = 0) (h1 : qw = zTurn (wa w) qv (wb w)) (h2 : st2 = zSt st (wa w)) :
    (st2, qw, qc + 1, zPut qc q1 (nI w), zPut qc q2 (tm - tk + zTill (wl w) (bx (wb w)) (px (wb w)) tk), zPut qc q3 (qv (wb w)).toInt32) = zLook wb wl wu wa bx px tm tk (w + 1) u := by
  rw [zLook, ← hz, zW1, if_pos c, h1, h2]
theorem zLook_01' (w : Nat) (u : Int32 × (Nat → Int64) × Nat × (Nat → Int32) × (Nat → Int32) × (Nat → Int32)) (h : u.1 = 0) : (zLook wb wl wu wa bx px tm tk w u).1 = 0 ∨ (zLook wb wl wu wa bx px tm tk w u).1 = 1 := by
  induction w with
  | zero => exact Or.inl h
  | succ w ih =>
    rw [zLook, zW1]
    split
    · exact zSt_01 _ _
    · exact ih
theorem zLook_01 {w : Nat} {st : Int32} {qv pv : Nat → Int64} {qc ct : Nat} {q1 q2 q3 f1 f2 f3 : Nat → Int32} (hz : (st, qv, qc, q1, q2, q3) = zLook wb wl wu wa bx px tm tk w (0, pv, ct, f1, f2, f3)) : st = 0 ∨ st = 1 := by
  have h := zLook_01' (wb := wb) (wl := wl) (wu := wu) (wa := wa) (bx := bx) (px := px) (tm := tm) (tk := tk) w (0, pv, ct, f1, f2, f3) rfl
  rw [← hz] at h
  exact h
end ZL
def zN (ia : Int32) : Nat := if 1 < (if ia < 4 then ia else 4) then (if ia < 4 then ia else 4).toNatClampNeg else 1
theorem zN_cases (ia : Int32) : ((if 1 < (if ia < 4 then ia else 4) then (if ia < 4 then ia else 4) else 1) = nI (zN ia)) ∧ 1 ≤ zN ia ∧ zN ia ≤ 4 := by
  unfold zN
  by_cases h4 : ia < 4
  · rw [if_pos h4]
    by_cases h1 : 1 < ia
    · rw [if_pos h1, if_pos h1]
      have hp : ¬ ia < 0 := by simp only [Int32.lt_iff_toInt_lt] at *; have e1 : (1 : Int32).toInt = 1 := by decide
                               have e0 : (0 : Int32).toInt = 0 := by decide
                               omega
      obtain ⟨j, hj, rfl⟩ := nI_of hp
      have a := nI_ltM (b := 4) h4 hj (by omega)
      have b := nI_ltM (a := 1) h1 (by omega) hj
      rw [nI_clamp hj]
      exact ⟨rfl, by omega, by omega⟩
    · rw [if_neg h1, if_neg h1]; exact ⟨rfl, by omega, by omega⟩
  · rw [if_neg h4]; decide
theorem zN_eq (ia : Int32) : (if 1 < (if ia < 4 then ia else 4) then (if ia < 4 then ia else 4) else 1) = nI (zN ia) := (zN_cases ia).1
theorem zN_4 (ia : Int32) : zN ia ≤ 4 := (zN_cases ia).2.2
theorem zN_1 (ia : Int32) : 1 ≤ zN ia := (zN_cases ia).2.1
def zTk (g : Nat) : Nat := 256 / 2 ^ g
theorem zTk_eq {g : Nat} (h : g ≤ 8) : (256 : Int32) >>> (nI g &&& 31) = nI (zTk g) := by
  rcases (show g = 0 ∨ g = 1 ∨ g = 2 ∨ g = 3 ∨ g = 4 ∨ g = 5 ∨ g = 6 ∨ g = 7 ∨ g = 8 by omega) with rfl | rfl | rfl | rfl | rfl | rfl | rfl | rfl | rfl <;> decide
theorem zTk_le {g : Nat} : zTk g ≤ 256 := Nat.div_le_self _ _
theorem zFit_le {tm lf : Int32} : ∀ (d g : Nat), zFit tm lf d g ≤ g + d := by
  intro d
  induction d with
  | zero => intro g; exact Nat.le_refl _
  | succ d ih =>
    intro g
    rw [zFit]
    split
    · omega
    · have := ih (g + 1); omega
theorem zFit_le8 {tm lf : Int32} {g : Nat} (h : g ≤ 8) : zFit tm lf (8 - g) g ≤ 8 := by have := zFit_le (tm := tm) (lf := lf) (8 - g) g; omega
theorem zFit_ge {tm lf : Int32} : ∀ (d g : Nat), g ≤ zFit tm lf d g := by
  intro d
  induction d with
  | zero => intro g; exact Nat.le_refl _
  | succ d ih =>
    intro g
    rw [zFit]
    split
    · omega
    · have := ih (g + 1); omega
theorem zLess_le {fs tol : Nat} {em : Int64} : zLess fs em tol ≤ fs := by
  unfold zLess
  split
  · omega
  · split <;> omega
theorem zMax_ge {a b : Int64} : a ≤ zMax a b := by
  unfold zMax; split
  · simp [Int64.le_iff_toInt_le]
  · rename_i h; simp only [Int64.lt_iff_toInt_lt, Int64.le_iff_toInt_le] at *; omega
theorem zGd_nn (px pv qx qv : Nat → Int64) (i : Nat) : 0 ≤ zGd px pv qx qv i := by
  induction i with
  | zero => exact (by decide : (0 : Int64) ≤ 0)
  | succ i ih =>
    rw [zGd]
    have h1 := @zMax_ge (zGd px pv qx qv i) (zAbs (px i - qx i))
    have h2 := @zMax_ge (zMax (zGd px pv qx qv i) (zAbs (px i - qx i))) (zAbs (pv i - qv i))
    simp only [Int64.le_iff_toInt_le] at *
    omega
theorem zTry_nn {n : Nat} {zk zc zq zf : Nat → Int32} {fs : Nat} {px pv : Nat → Int64} {t : Int64 × (Nat → Int64) × (Nat → Int64)} (h : zTry n zk zc zq zf fs px pv = some t) : 0 ≤ t.1 := by
  unfold zTry at h
  split at h
  · cases h
  · split at h
    · cases h
    · split at h
      · cases h
      · cases h
        exact zGd_nn _ _ _ _ _
theorem zGood_nn {n : Nat} {zk zc zq zf : Nat → Int32} {px pv : Nat → Int64} {tol : Nat} {t : Int64 × (Nat → Int64) × (Nat → Int64)} : ∀ (d g : Nat), (zGood n zk zc zq zf px pv tol d g).1 = some t → 0 ≤ t.1 := by
  intro d
  induction d with
  | zero => intro g h; exact zTry_nn h
  | succ d ih =>
    intro g h
    unfold zGood at h
    split at h
    · cases h
    · rename_i t' ht
      split at h
      · have h : some t' = some t := h
        cases h; exact zTry_nn ht
      · exact ih (g + 1) h
theorem zGood_le8 {n : Nat} {zk zc zq zf : Nat → Int32} {px pv : Nat → Int64} {tol : Nat} : ∀ (d g : Nat), (zGood n zk zc zq zf px pv tol d g).2.1 ≤ g + d := by
  intro d
  induction d with
  | zero => intro g; exact Nat.le_refl _
  | succ d ih =>
    intro g
    unfold zGood
    split
    · exact Nat.le_add_right _ _
    · split
      · exact Nat.le_add_right _ _
      · have := ih (g + 1)
        show (zGood n zk zc zq zf px pv tol d (g + 1)).2.1 ≤ _
        omega
abbrev zU : Type := (Nat → Int64) × (Nat → Int64) × Nat × Nat × Nat × Nat × Int64 × Nat × (Nat → Int32) × (Nat → Int32) × (Nat → Int32)
section ZA
variable (n : Nat) (zk zc zq zf : Nat → Int32) (tol : Nat) (wb : Nat → Nat) (wl : Nat → Int64) (wu wa : Nat → Int32)
/-- what a good try leaves, and the watches' turn -/
def zTake (gone : Nat) (px : Nat → Int64) (tm sd rj ct : Nat) (f1 f2 f3 : Nat → Int32) (s2 r2 : Nat) (t : Int64 × (Nat → Int64) × (Nat → Int64)) : Int32 × Nat × zU :=
  ((zLook wb wl wu wa px t.2.1 (nI (tm + zTk s2)) (nI (zTk s2)) 4 (0, t.2.2, ct, f1, f2, f3)).1, gone + zTk s2, t.2.1, (zLook wb wl wu wa px t.2.1 (nI (tm + zTk s2)) (nI (zTk s2)) 4 (0, t.2.2, ct, f1, f2, f3)).2.1, tm + zTk s2, zLess s2 t.1 tol, sd + 1, rj + r2, t.1, (zLook wb wl wu wa px t.2.1 (nI (tm + zTk s2)) (nI (zTk s2)) 4 (0, t.2.2, ct, f1, f2, f3)).2.2)
/-- a stride: nothing (and what stays), or what was taken -/
def zStride (T gone : Nat) (u : zU) : Option (Int32 × Nat × zU) × zU :=
  match u with
  | (px, pv, tm, fs, sd, rj, er, ct, f1, f2, f3) =>
    match zGood n zk zc zq zf px pv tol (8 - zFit (nI tm) (nI (T - gone)) (8 - fs) fs) (zFit (nI tm) (nI (T - gone)) (8 - fs) fs) with
    | (none, s2, r2) => (none, px, pv, tm, s2, sd, rj + r2, er, ct, f1, f2, f3)
    | (some t, s2, r2) => (some (zTake tol wb wl wu wa gone px tm sd rj ct f1 f2 f3 s2 r2 t), u)
def zAdvL (T : Nat) : Nat → Nat → zU → Int32 × zU
  | 0, gone, u => (nI gone, u)
  | d + 1, gone, u => if T ≤ gone then (nI gone, u) else
    match zStride n zk zc zq zf tol wb wl wu wa T gone u with
    | (none, v) => (-2, v)
    | (some (st, g2, v), _) => if ¬ st = 0 then (nI g2, v) else zAdvL T d g2 v
def zAdvC (T d gone : Nat) (st : Int32) (u : zU) : Int32 × zU := if ¬ st = 0 then (nI gone, u) else zAdvL n zk zc zq zf tol wb wl wu wa T d gone u
def zAdv (ia : Int32) (u : zU) : Int32 × zU := if ia < 1 then (-1, u) else if ia ≤ 2048 then zAdvL n zk zc zq zf tol wb wl wu wa ia.toNatClampNeg ia.toNatClampNeg 0 u else (-1, u)
end ZA
theorem zT_ix {ia : Int32} (h : ¬ ia < 1) (h2 : ia ≤ 2048) : ∃ T : Nat, 1 ≤ T ∧ T ≤ 2048 ∧ ia = nI T := by
  have hp : ¬ ia < 0 := by
    simp only [Int32.lt_iff_toInt_lt] at *
    have e1 : (1 : Int32).toInt = 1 := by decide
    have e0 : (0 : Int32).toInt = 0 := by decide
    omega
  obtain ⟨j, hj, rfl⟩ := nI_of hp
  exact ⟨j, nI_nltM (b := 1) h hj (by omega), nI_leM (b := 2048) h2 hj (by omega), rfl⟩
section ZB
variable {n : Nat} {zk zc zq zf : Nat → Int32} {tol : Nat} {wb : Nat → Nat} {wl : Nat → Int64} {wu wa : Nat → Int32} {T d gone gm : Nat} {st : Int32} {px pv fx fv gv : Nat → Int64} {tm fs sd rj ct s1 s2 r2 gs gct : Nat} {er em : Int64} {f1 f2 f3 g1 g2 g3 : Nat → Int32} {X : Int32 × zU}
theorem zA_stop (u : zU) (hz : X = zAdvC n zk zc zq zf tol wb wl wu wa T d gone st u) (c : ¬ st = 0) : (nI gone, u) = X := by rw [hz, zAdvC, if_pos c]
theorem zA_0 (u : zU) (hz : X = zAdvC n zk zc zq zf tol wb wl wu wa T 0 gone st u) : (nI gone, u) = X := by
  rw [hz, zAdvC]; split <;> rfl
theorem zA_T (u : zU) (hz : X = zAdvC n zk zc zq zf tol wb wl wu wa T d gone st u) (c : T ≤ gone) : (nI gone, u) = X := by
  rw [hz, zAdvC]
  split
  · rfl
  · cases d with
    | zero => rfl
    | succ d => rw [zAdvL, if_pos c]
theorem zA_none (hz : X = zAdvC n zk zc zq zf tol wb wl wu wa T (d + 1) gone st (px, pv, tm, fs, sd, rj, er, ct, f1, f2, f3)) (c : ¬ T ≤ gone) (c0 : st = 0) (h1 : s1 = zFit (nI tm) (nI (T - gone)) (8 - fs) fs) (h2 : (zGood n zk zc zq zf px pv tol (8 - s1) s1).1 = none) (h3 : s2 = (zGood n zk zc zq zf px pv tol (8 - s1) s1).2.1) (h4 : gm = rj + (zGood n zk zc zq zf px pv tol (8 - s1) s1).2.2) :
    ((-2 : Int32), px, pv, tm, s2, sd, gm, er, ct, f1, f2, f3) = X := by
  subst h1
  have e : zGood n zk zc zq zf px pv tol (8 - zFit (nI tm) (nI (T - gone)) (8 - fs) fs) (zFit (nI tm) (nI (T - gone)) (8 - fs) fs) = (none, s2, (zGood n zk zc zq zf px pv tol (8 - zFit (nI tm) (nI (T - gone)) (8 - fs) fs) (zFit (nI tm) (nI (T - gone)) (8 - fs) fs)).2.2) := by
    rw [h3]; exact Prod.ext h2 rfl
  rw [hz, zAdvC, if_neg (fun q => q c0), zAdvL, if_neg c, zStride, e, h4]
theorem zA_some (hz : X = zAdvC n zk zc zq zf tol wb wl wu wa T (d + 1) gone st (px, pv, tm, fs, sd, rj, er, ct, f1, f2, f3)) (c : ¬ T ≤ gone) (c0 : st = 0) (h1 : s1 = zFit (nI tm) (nI (T - gone)) (8 - fs) fs) (h2 : (zGood n zk zc zq zf px pv tol (8 - s1) s1).1 = some (em, fx, fv)) (h3 : s2 = (zGood n zk zc zq zf px pv tol (8 - s1) s1).2.1) (h4 : gm = rj + (zGood n zk zc zq zf px pv tol (8 - s1) s1).2.2)
    {st2 : Int32} (h5 : gs = zLess s2 em tol) (h6 : (st2, gv, gct, g1, g2, g3) = zLook wb wl wu wa px fx (nI (tm + zTk s2)) (nI (zTk s2)) 4 (0, fv, ct, f1, f2, f3)) :
    X = zAdvC n zk zc zq zf tol wb wl wu wa T d (gone + zTk s2) st2 (fx, gv, tm + zTk s2, gs, sd + 1, gm, em, gct, g1, g2, g3) := by
  subst h1
  have e : zGood n zk zc zq zf px pv tol (8 - zFit (nI tm) (nI (T - gone)) (8 - fs) fs) (zFit (nI tm) (nI (T - gone)) (8 - fs) fs) = (some (em, fx, fv), s2, (zGood n zk zc zq zf px pv tol (8 - zFit (nI tm) (nI (T - gone)) (8 - fs) fs) (zFit (nI tm) (nI (T - gone)) (8 - fs) fs)).2.2) := by
    rw [h3]; exact Prod.ext h2 rfl
  rw [hz, zAdvC, if_neg (fun q => q c0), zAdvL, if_neg c, zStride, e]
  dsimp only [zTake]
  rw [← h6, h4, h5, zAdvC]
end ZB
theorem zA_fin {n : Nat} {zk zc zq zf : Nat → Int32} {tol : Nat} {wb : Nat → Nat} {wl : Nat → Int64} {wu wa : Nat → Int32} {T : Nat} {u : zU} {X : Int32 × zU} (c2 : ¬ nI T < 1) (c9 : nI T ≤ 2048) (hT : T ≤ 2048) (h : X = zAdvL n zk zc zq zf tol wb wl wu wa T T 0 u) : X = zAdv n zk zc zq zf tol wb wl wu wa (nI T) u := by
  rw [zAdv, if_neg c2, if_pos c9, nI_clamp (by omega)]; exact h
theorem zG_none {n : Nat} {zk zc zq zf : Nat → Int32} {px pv fx fv : Nat → Int64} {tol d g : Nat} {r : Int64} (t : ((zGood n zk zc zq zf px pv tol d g).1 = none ∧ r = (-1)) ∨ (zGood n zk zc zq zf px pv tol d g).1 = some (r, fx, fv)) (c : r = (-1)) : (zGood n zk zc zq zf px pv tol d g).1 = none := by
  rcases t with ⟨h, -⟩ | h
  · exact h
  · have := zGood_nn d g h
    rw [c] at this
    exact absurd this (show ¬ (0 : Int64) ≤ -1 by decide)
theorem zG_some {n : Nat} {zk zc zq zf : Nat → Int32} {px pv fx fv : Nat → Int64} {tol d g : Nat} {r : Int64} (t : ((zGood n zk zc zq zf px pv tol d g).1 = none ∧ r = (-1)) ∨ (zGood n zk zc zq zf px pv tol d g).1 = some (r, fx, fv)) (c : ¬ r = (-1)) : (zGood n zk zc zq zf px pv tol d g).1 = some (r, fx, fv) := by
  rcases t with ⟨-, h⟩ | h
  · exact absurd h c
  · exact h
theorem zLook_ct {wb : Nat → Nat} {wl : Nat → Int64} {wu wa : Nat → Int32} {bx px : Nat → Int64} {tm tk : Int32} (u : Int32 × (Nat → Int64) × Nat × (Nat → Int32) × (Nat → Int32) × (Nat → Int32)) (w : Nat) : (zLook wb wl wu wa bx px tm tk w u).2.2.1 ≤ u.2.2.1 + w := by
  induction w with
  | zero => exact Nat.le_refl _
  | succ w ih =>
    rw [zLook, zW1]
    split
    · show (zLook wb wl wu wa bx px tm tk w u).2.2.1 + 1 ≤ _; omega
    · omega
theorem zLook_ct4 {wb : Nat → Nat} {wl : Nat → Int64} {wu wa : Nat → Int32} {bx px : Nat → Int64} {tm tk : Int32} {st : Int32} {qv pv : Nat → Int64} {qc ct : Nat} {q1 q2 q3 f1 f2 f3 : Nat → Int32} (hz : (st, qv, qc, q1, q2, q3) = zLook wb wl wu wa bx px tm tk 4 (0, pv, ct, f1, f2, f3)) : qc ≤ ct + 4 := by
  have h := zLook_ct (wb := wb) (wl := wl) (wu := wu) (wa := wa) (bx := bx) (px := px) (tm := tm) (tk := tk) (0, pv, ct, f1, f2, f3) 4
  rw [← hz] at h
  exact h
end
section
theorem d_S_init_0 : decode prog_4_method_1_code 0 = .ok (.aload_n 0, 1) := by decide +kernel
theorem d_S_init_1 : decode prog_4_method_1_code 1 = .ok (.invokespecial 1, 3) := by decide +kernel
theorem d_S_init_4 : decode prog_4_method_1_code 4 = .ok (.aload_n 0, 1) := by decide +kernel
theorem d_S_init_5 : decode prog_4_method_1_code 5 = .ok (.iload_n 1, 1) := by decide +kernel
theorem d_S_init_6 : decode prog_4_method_1_code 6 = .ok (.putfield 7, 3) := by decide +kernel
theorem d_S_init_9 : decode prog_4_method_1_code 9 = .ok (.aload_n 0, 1) := by decide +kernel
theorem d_S_init_10 : decode prog_4_method_1_code 10 = .ok (.iload_n 1, 1) := by decide +kernel
theorem d_S_init_11 : decode prog_4_method_1_code 11 = .ok (.newarray .int, 2) := by decide +kernel
theorem d_S_init_13 : decode prog_4_method_1_code 13 = .ok (.putfield 13, 3) := by decide +kernel
theorem d_S_init_16 : decode prog_4_method_1_code 16 = .ok (.aload_n 0, 1) := by decide +kernel
theorem d_S_init_17 : decode prog_4_method_1_code 17 = .ok (.iload_n 1, 1) := by decide +kernel
theorem d_S_init_18 : decode prog_4_method_1_code 18 = .ok (.newarray .int, 2) := by decide +kernel
theorem d_S_init_20 : decode prog_4_method_1_code 20 = .ok (.putfield 17, 3) := by decide +kernel
theorem d_S_init_23 : decode prog_4_method_1_code 23 = .ok (.aload_n 0, 1) := by decide +kernel
theorem d_S_init_24 : decode prog_4_method_1_code 24 = .ok (.iload_n 1, 1) := by decide +kernel
theorem d_S_init_25 : decode prog_4_method_1_code 25 = .ok (.newarray .int, 2) := by decide +kernel
theorem d_S_init_27 : decode prog_4_method_1_code 27 = .ok (.putfield 20, 3) := by decide +kernel
theorem d_S_init_30 : decode prog_4_method_1_code 30 = .ok (.aload_n 0, 1) := by decide +kernel
theorem d_S_init_31 : decode prog_4_method_1_code 31 = .ok (.iload_n 1, 1) := by decide +kernel
theorem d_S_init_32 : decode prog_4_method_1_code 32 = .ok (.newarray .int, 2) := by decide +kernel
theorem d_S_init_34 : decode prog_4_method_1_code 34 = .ok (.putfield 23, 3) := by decide +kernel
theorem d_S_init_37 : decode prog_4_method_1_code 37 = .ok (.return_, 1) := by decide +kernel
theorem d_M_init_0 : decode prog_3_method_1_code 0 = .ok (.aload_n 0, 1) := by decide +kernel
theorem d_M_init_1 : decode prog_3_method_1_code 1 = .ok (.invokespecial 1, 3) := by decide +kernel
theorem d_M_init_4 : decode prog_3_method_1_code 4 = .ok (.aload_n 0, 1) := by decide +kernel
theorem d_M_init_5 : decode prog_3_method_1_code 5 = .ok (.iload_n 1, 1) := by decide +kernel
theorem d_M_init_6 : decode prog_3_method_1_code 6 = .ok (.newarray .long, 2) := by decide +kernel
theorem d_M_init_8 : decode prog_3_method_1_code 8 = .ok (.putfield 7, 3) := by decide +kernel
theorem d_M_init_11 : decode prog_3_method_1_code 11 = .ok (.aload_n 0, 1) := by decide +kernel
theorem d_M_init_12 : decode prog_3_method_1_code 12 = .ok (.iload_n 1, 1) := by decide +kernel
theorem d_M_init_13 : decode prog_3_method_1_code 13 = .ok (.newarray .long, 2) := by decide +kernel
theorem d_M_init_15 : decode prog_3_method_1_code 15 = .ok (.putfield 13, 3) := by decide +kernel
theorem d_M_init_18 : decode prog_3_method_1_code 18 = .ok (.return_, 1) := by decide +kernel
theorem d_W_init_0 : decode prog_5_method_1_code 0 = .ok (.aload_n 0, 1) := by decide +kernel
theorem d_W_init_1 : decode prog_5_method_1_code 1 = .ok (.invokespecial 3, 3) := by decide +kernel
theorem d_W_init_4 : decode prog_5_method_1_code 4 = .ok (.aload_n 0, 1) := by decide +kernel
theorem d_W_init_5 : decode prog_5_method_1_code 5 = .ok (.iconst (-1), 1) := by decide +kernel
theorem d_W_init_6 : decode prog_5_method_1_code 6 = .ok (.putfield 9, 3) := by decide +kernel
theorem d_W_init_9 : decode prog_5_method_1_code 9 = .ok (.return_, 1) := by decide +kernel
theorem d_H_init_0 : decode prog_2_method_1_code 0 = .ok (.aload_n 0, 1) := by decide +kernel
theorem d_H_init_1 : decode prog_2_method_1_code 1 = .ok (.invokespecial 1, 3) := by decide +kernel
theorem d_H_init_4 : decode prog_2_method_1_code 4 = .ok (.aload_n 0, 1) := by decide +kernel
theorem d_H_init_5 : decode prog_2_method_1_code 5 = .ok (.bipush 40, 2) := by decide +kernel
theorem d_H_init_7 : decode prog_2_method_1_code 7 = .ok (.newarray .int, 2) := by decide +kernel
theorem d_H_init_9 : decode prog_2_method_1_code 9 = .ok (.putfield 9, 3) := by decide +kernel
theorem d_H_init_12 : decode prog_2_method_1_code 12 = .ok (.aload_n 0, 1) := by decide +kernel
theorem d_H_init_13 : decode prog_2_method_1_code 13 = .ok (.bipush 40, 2) := by decide +kernel
theorem d_H_init_15 : decode prog_2_method_1_code 15 = .ok (.newarray .int, 2) := by decide +kernel
theorem d_H_init_17 : decode prog_2_method_1_code 17 = .ok (.putfield 13, 3) := by decide +kernel
theorem d_H_init_20 : decode prog_2_method_1_code 20 = .ok (.aload_n 0, 1) := by decide +kernel
theorem d_H_init_21 : decode prog_2_method_1_code 21 = .ok (.bipush 40, 2) := by decide +kernel
theorem d_H_init_23 : decode prog_2_method_1_code 23 = .ok (.newarray .int, 2) := by decide +kernel
theorem d_H_init_25 : decode prog_2_method_1_code 25 = .ok (.putfield 16, 3) := by decide +kernel
theorem d_H_init_28 : decode prog_2_method_1_code 28 = .ok (.return_, 1) := by decide +kernel
theorem d_M_copyFrom_0 : decode prog_3_method_2_code 0 = .ok (.aload_n 1, 1) := by decide +kernel
theorem d_M_copyFrom_1 : decode prog_3_method_2_code 1 = .ok (.getfield 7, 3) := by decide +kernel
theorem d_M_copyFrom_4 : decode prog_3_method_2_code 4 = .ok (.iconst 0, 1) := by decide +kernel
theorem d_M_copyFrom_5 : decode prog_3_method_2_code 5 = .ok (.aload_n 0, 1) := by decide +kernel
theorem d_M_copyFrom_6 : decode prog_3_method_2_code 6 = .ok (.getfield 7, 3) := by decide +kernel
theorem d_M_copyFrom_9 : decode prog_3_method_2_code 9 = .ok (.iconst 0, 1) := by decide +kernel
theorem d_M_copyFrom_10 : decode prog_3_method_2_code 10 = .ok (.aload_n 0, 1) := by decide +kernel
theorem d_M_copyFrom_11 : decode prog_3_method_2_code 11 = .ok (.getfield 7, 3) := by decide +kernel
theorem d_M_copyFrom_14 : decode prog_3_method_2_code 14 = .ok (.arraylength, 1) := by decide +kernel
theorem d_M_copyFrom_15 : decode prog_3_method_2_code 15 = .ok (.invokestatic 16, 3) := by decide +kernel
theorem d_M_copyFrom_18 : decode prog_3_method_2_code 18 = .ok (.aload_n 1, 1) := by decide +kernel
theorem d_M_copyFrom_19 : decode prog_3_method_2_code 19 = .ok (.getfield 13, 3) := by decide +kernel
theorem d_M_copyFrom_22 : decode prog_3_method_2_code 22 = .ok (.iconst 0, 1) := by decide +kernel
theorem d_M_copyFrom_23 : decode prog_3_method_2_code 23 = .ok (.aload_n 0, 1) := by decide +kernel
theorem d_M_copyFrom_24 : decode prog_3_method_2_code 24 = .ok (.getfield 13, 3) := by decide +kernel
theorem d_M_copyFrom_27 : decode prog_3_method_2_code 27 = .ok (.iconst 0, 1) := by decide +kernel
theorem d_M_copyFrom_28 : decode prog_3_method_2_code 28 = .ok (.aload_n 0, 1) := by decide +kernel
theorem d_M_copyFrom_29 : decode prog_3_method_2_code 29 = .ok (.getfield 13, 3) := by decide +kernel
theorem d_M_copyFrom_32 : decode prog_3_method_2_code 32 = .ok (.arraylength, 1) := by decide +kernel
theorem d_M_copyFrom_33 : decode prog_3_method_2_code 33 = .ok (.invokestatic 16, 3) := by decide +kernel
theorem d_M_copyFrom_36 : decode prog_3_method_2_code 36 = .ok (.return_, 1) := by decide +kernel
theorem d_S_step_0 : decode prog_4_method_3_code 0 = .ok (.aload_n 0, 1) := by decide +kernel
theorem d_S_step_1 : decode prog_4_method_3_code 1 = .ok (.aload_n 1, 1) := by decide +kernel
theorem d_S_step_2 : decode prog_4_method_3_code 2 = .ok (.iload_n 2, 1) := by decide +kernel
theorem d_S_step_3 : decode prog_4_method_3_code 3 = .ok (.invokevirtual 35, 3) := by decide +kernel
theorem d_S_step_6 : decode prog_4_method_3_code 6 = .ok (.ifCond .eq 25, 3) := by decide +kernel
theorem d_S_step_9 : decode prog_4_method_3_code 9 = .ok (.aload_n 0, 1) := by decide +kernel
theorem d_S_step_10 : decode prog_4_method_3_code 10 = .ok (.aload_n 1, 1) := by decide +kernel
theorem d_S_step_11 : decode prog_4_method_3_code 11 = .ok (.iload_n 2, 1) := by decide +kernel
theorem d_S_step_12 : decode prog_4_method_3_code 12 = .ok (.invokevirtual 39, 3) := by decide +kernel
theorem d_S_step_15 : decode prog_4_method_3_code 15 = .ok (.ifCond .eq 16, 3) := by decide +kernel
theorem d_S_step_18 : decode prog_4_method_3_code 18 = .ok (.aload_n 0, 1) := by decide +kernel
theorem d_S_step_19 : decode prog_4_method_3_code 19 = .ok (.aload_n 1, 1) := by decide +kernel
theorem d_S_step_20 : decode prog_4_method_3_code 20 = .ok (.iload_n 2, 1) := by decide +kernel
theorem d_S_step_21 : decode prog_4_method_3_code 21 = .ok (.invokevirtual 35, 3) := by decide +kernel
theorem d_S_step_24 : decode prog_4_method_3_code 24 = .ok (.ifCond .eq 7, 3) := by decide +kernel
theorem d_S_step_27 : decode prog_4_method_3_code 27 = .ok (.iconst 1, 1) := by decide +kernel
theorem d_S_step_28 : decode prog_4_method_3_code 28 = .ok (.goto 4, 3) := by decide +kernel
theorem d_S_step_31 : decode prog_4_method_3_code 31 = .ok (.iconst 0, 1) := by decide +kernel
theorem d_S_step_32 : decode prog_4_method_3_code 32 = .ok (.ireturn, 1) := by decide +kernel
theorem d_S_changeSpeeds_0 : decode prog_4_method_4_code 0 = .ok (.iconst 1, 1) := by decide +kernel
theorem d_S_changeSpeeds_1 : decode prog_4_method_4_code 1 = .ok (.istore_n 3, 1) := by decide +kernel
theorem d_S_changeSpeeds_2 : decode prog_4_method_4_code 2 = .ok (.iconst 0, 1) := by decide +kernel
theorem d_S_changeSpeeds_3 : decode prog_4_method_4_code 3 = .ok (.istore 4, 2) := by decide +kernel
theorem d_S_changeSpeeds_5 : decode prog_4_method_4_code 5 = .ok (.iload 4, 2) := by decide +kernel
theorem d_S_changeSpeeds_7 : decode prog_4_method_4_code 7 = .ok (.aload_n 0, 1) := by decide +kernel
theorem d_S_changeSpeeds_8 : decode prog_4_method_4_code 8 = .ok (.getfield 7, 3) := by decide +kernel
theorem d_S_changeSpeeds_11 : decode prog_4_method_4_code 11 = .ok (.if_icmp .ge 61, 3) := by decide +kernel
theorem d_S_changeSpeeds_14 : decode prog_4_method_4_code 14 = .ok (.aload_n 0, 1) := by decide +kernel
theorem d_S_changeSpeeds_15 : decode prog_4_method_4_code 15 = .ok (.iload 4, 2) := by decide +kernel
theorem d_S_changeSpeeds_17 : decode prog_4_method_4_code 17 = .ok (.aload_n 1, 1) := by decide +kernel
theorem d_S_changeSpeeds_18 : decode prog_4_method_4_code 18 = .ok (.invokevirtual 42, 3) := by decide +kernel
theorem d_S_changeSpeeds_21 : decode prog_4_method_4_code 21 = .ok (.iconst 4, 1) := by decide +kernel
theorem d_S_changeSpeeds_22 : decode prog_4_method_4_code 22 = .ok (.iload_n 2, 1) := by decide +kernel
theorem d_S_changeSpeeds_23 : decode prog_4_method_4_code 23 = .ok (.iadd, 1) := by decide +kernel
theorem d_S_changeSpeeds_24 : decode prog_4_method_4_code 24 = .ok (.iconst 1, 1) := by decide +kernel
theorem d_S_changeSpeeds_25 : decode prog_4_method_4_code 25 = .ok (.iadd, 1) := by decide +kernel
theorem d_S_changeSpeeds_26 : decode prog_4_method_4_code 26 = .ok (.invokestatic 46, 3) := by decide +kernel
theorem d_S_changeSpeeds_29 : decode prog_4_method_4_code 29 = .ok (.lstore 5, 2) := by decide +kernel
theorem d_S_changeSpeeds_31 : decode prog_4_method_4_code 31 = .ok (.aload_n 1, 1) := by decide +kernel
theorem d_S_changeSpeeds_32 : decode prog_4_method_4_code 32 = .ok (.getfield 32, 3) := by decide +kernel
theorem d_S_changeSpeeds_35 : decode prog_4_method_4_code 35 = .ok (.iload 4, 2) := by decide +kernel
theorem d_S_changeSpeeds_37 : decode prog_4_method_4_code 37 = .ok (.dup2, 1) := by decide +kernel
theorem d_S_changeSpeeds_38 : decode prog_4_method_4_code 38 = .ok (.laload, 1) := by decide +kernel
theorem d_S_changeSpeeds_39 : decode prog_4_method_4_code 39 = .ok (.lload 5, 2) := by decide +kernel
theorem d_S_changeSpeeds_41 : decode prog_4_method_4_code 41 = .ok (.ladd, 1) := by decide +kernel
theorem d_S_changeSpeeds_42 : decode prog_4_method_4_code 42 = .ok (.lastore, 1) := by decide +kernel
theorem d_S_changeSpeeds_43 : decode prog_4_method_4_code 43 = .ok (.iload_n 3, 1) := by decide +kernel
theorem d_S_changeSpeeds_44 : decode prog_4_method_4_code 44 = .ok (.ifCond .eq 20, 3) := by decide +kernel
theorem d_S_changeSpeeds_47 : decode prog_4_method_4_code 47 = .ok (.aload_n 1, 1) := by decide +kernel
theorem d_S_changeSpeeds_48 : decode prog_4_method_4_code 48 = .ok (.getfield 32, 3) := by decide +kernel
theorem d_S_changeSpeeds_51 : decode prog_4_method_4_code 51 = .ok (.iload 4, 2) := by decide +kernel
theorem d_S_changeSpeeds_53 : decode prog_4_method_4_code 53 = .ok (.laload, 1) := by decide +kernel
theorem d_S_changeSpeeds_54 : decode prog_4_method_4_code 54 = .ok (.invokestatic 50, 3) := by decide +kernel
theorem d_S_changeSpeeds_57 : decode prog_4_method_4_code 57 = .ok (.ifCond .eq 7, 3) := by decide +kernel
theorem d_S_changeSpeeds_60 : decode prog_4_method_4_code 60 = .ok (.iconst 1, 1) := by decide +kernel
theorem d_S_changeSpeeds_61 : decode prog_4_method_4_code 61 = .ok (.goto 4, 3) := by decide +kernel
theorem d_S_changeSpeeds_64 : decode prog_4_method_4_code 64 = .ok (.iconst 0, 1) := by decide +kernel
theorem d_S_changeSpeeds_65 : decode prog_4_method_4_code 65 = .ok (.istore_n 3, 1) := by decide +kernel
theorem d_S_changeSpeeds_66 : decode prog_4_method_4_code 66 = .ok (.iinc 4 1, 3) := by decide +kernel
theorem d_S_changeSpeeds_69 : decode prog_4_method_4_code 69 = .ok (.goto (-64), 3) := by decide +kernel
theorem d_S_changeSpeeds_72 : decode prog_4_method_4_code 72 = .ok (.iload_n 3, 1) := by decide +kernel
theorem d_S_changeSpeeds_73 : decode prog_4_method_4_code 73 = .ok (.ireturn, 1) := by decide +kernel
theorem d_S_pushOn_0 : decode prog_4_method_2_code 0 = .ok (.aload_n 2, 1) := by decide +kernel
theorem d_S_pushOn_1 : decode prog_4_method_2_code 1 = .ok (.getfield 26, 3) := by decide +kernel
theorem d_S_pushOn_4 : decode prog_4_method_2_code 4 = .ok (.iload_n 1, 1) := by decide +kernel
theorem d_S_pushOn_5 : decode prog_4_method_2_code 5 = .ok (.laload, 1) := by decide +kernel
theorem d_S_pushOn_6 : decode prog_4_method_2_code 6 = .ok (.lstore_n 3, 1) := by decide +kernel
theorem d_S_pushOn_7 : decode prog_4_method_2_code 7 = .ok (.aload_n 0, 1) := by decide +kernel
theorem d_S_pushOn_8 : decode prog_4_method_2_code 8 = .ok (.getfield 23, 3) := by decide +kernel
theorem d_S_pushOn_11 : decode prog_4_method_2_code 11 = .ok (.iload_n 1, 1) := by decide +kernel
theorem d_S_pushOn_12 : decode prog_4_method_2_code 12 = .ok (.iaload, 1) := by decide +kernel
theorem d_S_pushOn_13 : decode prog_4_method_2_code 13 = .ok (.i2l, 1) := by decide +kernel
theorem d_S_pushOn_14 : decode prog_4_method_2_code 14 = .ok (.iconst 4, 1) := by decide +kernel
theorem d_S_pushOn_15 : decode prog_4_method_2_code 15 = .ok (.lshl, 1) := by decide +kernel
theorem d_S_pushOn_16 : decode prog_4_method_2_code 16 = .ok (.aload_n 0, 1) := by decide +kernel
theorem d_S_pushOn_17 : decode prog_4_method_2_code 17 = .ok (.getfield 13, 3) := by decide +kernel
theorem d_S_pushOn_20 : decode prog_4_method_2_code 20 = .ok (.iload_n 1, 1) := by decide +kernel
theorem d_S_pushOn_21 : decode prog_4_method_2_code 21 = .ok (.iaload, 1) := by decide +kernel
theorem d_S_pushOn_22 : decode prog_4_method_2_code 22 = .ok (.i2l, 1) := by decide +kernel
theorem d_S_pushOn_23 : decode prog_4_method_2_code 23 = .ok (.lload_n 3, 1) := by decide +kernel
theorem d_S_pushOn_24 : decode prog_4_method_2_code 24 = .ok (.lmul, 1) := by decide +kernel
theorem d_S_pushOn_25 : decode prog_4_method_2_code 25 = .ok (.lsub, 1) := by decide +kernel
theorem d_S_pushOn_26 : decode prog_4_method_2_code 26 = .ok (.aload_n 0, 1) := by decide +kernel
theorem d_S_pushOn_27 : decode prog_4_method_2_code 27 = .ok (.getfield 17, 3) := by decide +kernel
theorem d_S_pushOn_30 : decode prog_4_method_2_code 30 = .ok (.iload_n 1, 1) := by decide +kernel
theorem d_S_pushOn_31 : decode prog_4_method_2_code 31 = .ok (.iaload, 1) := by decide +kernel
theorem d_S_pushOn_32 : decode prog_4_method_2_code 32 = .ok (.i2l, 1) := by decide +kernel
theorem d_S_pushOn_33 : decode prog_4_method_2_code 33 = .ok (.aload_n 2, 1) := by decide +kernel
theorem d_S_pushOn_34 : decode prog_4_method_2_code 34 = .ok (.getfield 32, 3) := by decide +kernel
theorem d_S_pushOn_37 : decode prog_4_method_2_code 37 = .ok (.iload_n 1, 1) := by decide +kernel
theorem d_S_pushOn_38 : decode prog_4_method_2_code 38 = .ok (.laload, 1) := by decide +kernel
theorem d_S_pushOn_39 : decode prog_4_method_2_code 39 = .ok (.lmul, 1) := by decide +kernel
theorem d_S_pushOn_40 : decode prog_4_method_2_code 40 = .ok (.lsub, 1) := by decide +kernel
theorem d_S_pushOn_41 : decode prog_4_method_2_code 41 = .ok (.lstore 5, 2) := by decide +kernel
theorem d_S_pushOn_43 : decode prog_4_method_2_code 43 = .ok (.iload_n 1, 1) := by decide +kernel
theorem d_S_pushOn_44 : decode prog_4_method_2_code 44 = .ok (.iconst 1, 1) := by decide +kernel
theorem d_S_pushOn_45 : decode prog_4_method_2_code 45 = .ok (.iadd, 1) := by decide +kernel
theorem d_S_pushOn_46 : decode prog_4_method_2_code 46 = .ok (.aload_n 0, 1) := by decide +kernel
theorem d_S_pushOn_47 : decode prog_4_method_2_code 47 = .ok (.getfield 7, 3) := by decide +kernel
theorem d_S_pushOn_50 : decode prog_4_method_2_code 50 = .ok (.if_icmp .ge 26, 3) := by decide +kernel
theorem d_S_pushOn_53 : decode prog_4_method_2_code 53 = .ok (.lload 5, 2) := by decide +kernel
theorem d_S_pushOn_55 : decode prog_4_method_2_code 55 = .ok (.aload_n 0, 1) := by decide +kernel
theorem d_S_pushOn_56 : decode prog_4_method_2_code 56 = .ok (.getfield 20, 3) := by decide +kernel
theorem d_S_pushOn_59 : decode prog_4_method_2_code 59 = .ok (.iload_n 1, 1) := by decide +kernel
theorem d_S_pushOn_60 : decode prog_4_method_2_code 60 = .ok (.iaload, 1) := by decide +kernel
theorem d_S_pushOn_61 : decode prog_4_method_2_code 61 = .ok (.i2l, 1) := by decide +kernel
theorem d_S_pushOn_62 : decode prog_4_method_2_code 62 = .ok (.aload_n 2, 1) := by decide +kernel
theorem d_S_pushOn_63 : decode prog_4_method_2_code 63 = .ok (.getfield 26, 3) := by decide +kernel
theorem d_S_pushOn_66 : decode prog_4_method_2_code 66 = .ok (.iload_n 1, 1) := by decide +kernel
theorem d_S_pushOn_67 : decode prog_4_method_2_code 67 = .ok (.iconst 1, 1) := by decide +kernel
theorem d_S_pushOn_68 : decode prog_4_method_2_code 68 = .ok (.iadd, 1) := by decide +kernel
theorem d_S_pushOn_69 : decode prog_4_method_2_code 69 = .ok (.laload, 1) := by decide +kernel
theorem d_S_pushOn_70 : decode prog_4_method_2_code 70 = .ok (.lload_n 3, 1) := by decide +kernel
theorem d_S_pushOn_71 : decode prog_4_method_2_code 71 = .ok (.lsub, 1) := by decide +kernel
theorem d_S_pushOn_72 : decode prog_4_method_2_code 72 = .ok (.lmul, 1) := by decide +kernel
theorem d_S_pushOn_73 : decode prog_4_method_2_code 73 = .ok (.ladd, 1) := by decide +kernel
theorem d_S_pushOn_74 : decode prog_4_method_2_code 74 = .ok (.lstore 5, 2) := by decide +kernel
theorem d_S_pushOn_76 : decode prog_4_method_2_code 76 = .ok (.iload_n 1, 1) := by decide +kernel
theorem d_S_pushOn_77 : decode prog_4_method_2_code 77 = .ok (.ifCond .le 28, 3) := by decide +kernel
theorem d_S_pushOn_80 : decode prog_4_method_2_code 80 = .ok (.lload 5, 2) := by decide +kernel
theorem d_S_pushOn_82 : decode prog_4_method_2_code 82 = .ok (.aload_n 0, 1) := by decide +kernel
theorem d_S_pushOn_83 : decode prog_4_method_2_code 83 = .ok (.getfield 20, 3) := by decide +kernel
theorem d_S_pushOn_86 : decode prog_4_method_2_code 86 = .ok (.iload_n 1, 1) := by decide +kernel
theorem d_S_pushOn_87 : decode prog_4_method_2_code 87 = .ok (.iconst 1, 1) := by decide +kernel
theorem d_S_pushOn_88 : decode prog_4_method_2_code 88 = .ok (.isub, 1) := by decide +kernel
theorem d_S_pushOn_89 : decode prog_4_method_2_code 89 = .ok (.iaload, 1) := by decide +kernel
theorem d_S_pushOn_90 : decode prog_4_method_2_code 90 = .ok (.i2l, 1) := by decide +kernel
theorem d_S_pushOn_91 : decode prog_4_method_2_code 91 = .ok (.lload_n 3, 1) := by decide +kernel
theorem d_S_pushOn_92 : decode prog_4_method_2_code 92 = .ok (.aload_n 2, 1) := by decide +kernel
theorem d_S_pushOn_93 : decode prog_4_method_2_code 93 = .ok (.getfield 26, 3) := by decide +kernel
theorem d_S_pushOn_96 : decode prog_4_method_2_code 96 = .ok (.iload_n 1, 1) := by decide +kernel
theorem d_S_pushOn_97 : decode prog_4_method_2_code 97 = .ok (.iconst 1, 1) := by decide +kernel
theorem d_S_pushOn_98 : decode prog_4_method_2_code 98 = .ok (.isub, 1) := by decide +kernel
theorem d_S_pushOn_99 : decode prog_4_method_2_code 99 = .ok (.laload, 1) := by decide +kernel
theorem d_S_pushOn_100 : decode prog_4_method_2_code 100 = .ok (.lsub, 1) := by decide +kernel
theorem d_S_pushOn_101 : decode prog_4_method_2_code 101 = .ok (.lmul, 1) := by decide +kernel
theorem d_S_pushOn_102 : decode prog_4_method_2_code 102 = .ok (.lsub, 1) := by decide +kernel
theorem d_S_pushOn_103 : decode prog_4_method_2_code 103 = .ok (.lstore 5, 2) := by decide +kernel
theorem d_S_pushOn_105 : decode prog_4_method_2_code 105 = .ok (.lload 5, 2) := by decide +kernel
theorem d_S_pushOn_107 : decode prog_4_method_2_code 107 = .ok (.lreturn, 1) := by decide +kernel
theorem d_S_roundedPart_0 : decode prog_4_method_6_code 0 = .ok (.lconst 1, 1) := by decide +kernel
theorem d_S_roundedPart_1 : decode prog_4_method_6_code 1 = .ok (.iload_n 2, 1) := by decide +kernel
theorem d_S_roundedPart_2 : decode prog_4_method_6_code 2 = .ok (.lshl, 1) := by decide +kernel
theorem d_S_roundedPart_3 : decode prog_4_method_6_code 3 = .ok (.iconst 1, 1) := by decide +kernel
theorem d_S_roundedPart_4 : decode prog_4_method_6_code 4 = .ok (.lshr, 1) := by decide +kernel
theorem d_S_roundedPart_5 : decode prog_4_method_6_code 5 = .ok (.lstore_n 3, 1) := by decide +kernel
theorem d_S_roundedPart_6 : decode prog_4_method_6_code 6 = .ok (.lload_n 0, 1) := by decide +kernel
theorem d_S_roundedPart_7 : decode prog_4_method_6_code 7 = .ok (.lload_n 3, 1) := by decide +kernel
theorem d_S_roundedPart_8 : decode prog_4_method_6_code 8 = .ok (.ladd, 1) := by decide +kernel
theorem d_S_roundedPart_9 : decode prog_4_method_6_code 9 = .ok (.iload_n 2, 1) := by decide +kernel
theorem d_S_roundedPart_10 : decode prog_4_method_6_code 10 = .ok (.lshr, 1) := by decide +kernel
theorem d_S_roundedPart_11 : decode prog_4_method_6_code 11 = .ok (.lreturn, 1) := by decide +kernel
theorem d_S_isNear_0 : decode prog_4_method_7_code 0 = .ok (.lload_n 0, 1) := by decide +kernel
theorem d_S_isNear_1 : decode prog_4_method_7_code 1 = .ok (.ldc2_w 54, 3) := by decide +kernel
theorem d_S_isNear_4 : decode prog_4_method_7_code 4 = .ok (.lcmp, 1) := by decide +kernel
theorem d_S_isNear_5 : decode prog_4_method_7_code 5 = .ok (.ifCond .lt 15, 3) := by decide +kernel
theorem d_S_isNear_8 : decode prog_4_method_7_code 8 = .ok (.lload_n 0, 1) := by decide +kernel
theorem d_S_isNear_9 : decode prog_4_method_7_code 9 = .ok (.ldc2_w 56, 3) := by decide +kernel
theorem d_S_isNear_12 : decode prog_4_method_7_code 12 = .ok (.lcmp, 1) := by decide +kernel
theorem d_S_isNear_13 : decode prog_4_method_7_code 13 = .ok (.ifCond .gt 7, 3) := by decide +kernel
theorem d_S_isNear_16 : decode prog_4_method_7_code 16 = .ok (.iconst 1, 1) := by decide +kernel
theorem d_S_isNear_17 : decode prog_4_method_7_code 17 = .ok (.goto 4, 3) := by decide +kernel
theorem d_S_isNear_20 : decode prog_4_method_7_code 20 = .ok (.iconst 0, 1) := by decide +kernel
theorem d_S_isNear_21 : decode prog_4_method_7_code 21 = .ok (.ireturn, 1) := by decide +kernel
theorem d_S_changePlaces_0 : decode prog_4_method_5_code 0 = .ok (.iconst 1, 1) := by decide +kernel
theorem d_S_changePlaces_1 : decode prog_4_method_5_code 1 = .ok (.istore_n 3, 1) := by decide +kernel
theorem d_S_changePlaces_2 : decode prog_4_method_5_code 2 = .ok (.iconst 0, 1) := by decide +kernel
theorem d_S_changePlaces_3 : decode prog_4_method_5_code 3 = .ok (.istore 4, 2) := by decide +kernel
theorem d_S_changePlaces_5 : decode prog_4_method_5_code 5 = .ok (.iload 4, 2) := by decide +kernel
theorem d_S_changePlaces_7 : decode prog_4_method_5_code 7 = .ok (.aload_n 0, 1) := by decide +kernel
theorem d_S_changePlaces_8 : decode prog_4_method_5_code 8 = .ok (.getfield 7, 3) := by decide +kernel
theorem d_S_changePlaces_11 : decode prog_4_method_5_code 11 = .ok (.if_icmp .ge 53, 3) := by decide +kernel
theorem d_S_changePlaces_14 : decode prog_4_method_5_code 14 = .ok (.aload_n 1, 1) := by decide +kernel
theorem d_S_changePlaces_15 : decode prog_4_method_5_code 15 = .ok (.getfield 26, 3) := by decide +kernel
theorem d_S_changePlaces_18 : decode prog_4_method_5_code 18 = .ok (.iload 4, 2) := by decide +kernel
theorem d_S_changePlaces_20 : decode prog_4_method_5_code 20 = .ok (.dup2, 1) := by decide +kernel
theorem d_S_changePlaces_21 : decode prog_4_method_5_code 21 = .ok (.laload, 1) := by decide +kernel
theorem d_S_changePlaces_22 : decode prog_4_method_5_code 22 = .ok (.aload_n 1, 1) := by decide +kernel
theorem d_S_changePlaces_23 : decode prog_4_method_5_code 23 = .ok (.getfield 32, 3) := by decide +kernel
theorem d_S_changePlaces_26 : decode prog_4_method_5_code 26 = .ok (.iload 4, 2) := by decide +kernel
theorem d_S_changePlaces_28 : decode prog_4_method_5_code 28 = .ok (.laload, 1) := by decide +kernel
theorem d_S_changePlaces_29 : decode prog_4_method_5_code 29 = .ok (.iload_n 2, 1) := by decide +kernel
theorem d_S_changePlaces_30 : decode prog_4_method_5_code 30 = .ok (.invokestatic 46, 3) := by decide +kernel
theorem d_S_changePlaces_33 : decode prog_4_method_5_code 33 = .ok (.ladd, 1) := by decide +kernel
theorem d_S_changePlaces_34 : decode prog_4_method_5_code 34 = .ok (.lastore, 1) := by decide +kernel
theorem d_S_changePlaces_35 : decode prog_4_method_5_code 35 = .ok (.iload_n 3, 1) := by decide +kernel
theorem d_S_changePlaces_36 : decode prog_4_method_5_code 36 = .ok (.ifCond .eq 20, 3) := by decide +kernel
theorem d_S_changePlaces_39 : decode prog_4_method_5_code 39 = .ok (.aload_n 1, 1) := by decide +kernel
theorem d_S_changePlaces_40 : decode prog_4_method_5_code 40 = .ok (.getfield 26, 3) := by decide +kernel
theorem d_S_changePlaces_43 : decode prog_4_method_5_code 43 = .ok (.iload 4, 2) := by decide +kernel
theorem d_S_changePlaces_45 : decode prog_4_method_5_code 45 = .ok (.laload, 1) := by decide +kernel
theorem d_S_changePlaces_46 : decode prog_4_method_5_code 46 = .ok (.invokestatic 50, 3) := by decide +kernel
theorem d_S_changePlaces_49 : decode prog_4_method_5_code 49 = .ok (.ifCond .eq 7, 3) := by decide +kernel
theorem d_S_changePlaces_52 : decode prog_4_method_5_code 52 = .ok (.iconst 1, 1) := by decide +kernel
theorem d_S_changePlaces_53 : decode prog_4_method_5_code 53 = .ok (.goto 4, 3) := by decide +kernel
theorem d_S_changePlaces_56 : decode prog_4_method_5_code 56 = .ok (.iconst 0, 1) := by decide +kernel
theorem d_S_changePlaces_57 : decode prog_4_method_5_code 57 = .ok (.istore_n 3, 1) := by decide +kernel
theorem d_S_changePlaces_58 : decode prog_4_method_5_code 58 = .ok (.iinc 4 1, 3) := by decide +kernel
theorem d_S_changePlaces_61 : decode prog_4_method_5_code 61 = .ok (.goto (-56), 3) := by decide +kernel
theorem d_S_changePlaces_64 : decode prog_4_method_5_code 64 = .ok (.iload_n 3, 1) := by decide +kernel
theorem d_S_changePlaces_65 : decode prog_4_method_5_code 65 = .ok (.ireturn, 1) := by decide +kernel
theorem d_M_greatestDifference_0 : decode prog_3_method_3_code 0 = .ok (.lconst 0, 1) := by decide +kernel
theorem d_M_greatestDifference_1 : decode prog_3_method_3_code 1 = .ok (.lstore_n 2, 1) := by decide +kernel
theorem d_M_greatestDifference_2 : decode prog_3_method_3_code 2 = .ok (.iconst 0, 1) := by decide +kernel
theorem d_M_greatestDifference_3 : decode prog_3_method_3_code 3 = .ok (.istore 4, 2) := by decide +kernel
theorem d_M_greatestDifference_5 : decode prog_3_method_3_code 5 = .ok (.iload 4, 2) := by decide +kernel
theorem d_M_greatestDifference_7 : decode prog_3_method_3_code 7 = .ok (.aload_n 0, 1) := by decide +kernel
theorem d_M_greatestDifference_8 : decode prog_3_method_3_code 8 = .ok (.getfield 7, 3) := by decide +kernel
theorem d_M_greatestDifference_11 : decode prog_3_method_3_code 11 = .ok (.arraylength, 1) := by decide +kernel
theorem d_M_greatestDifference_12 : decode prog_3_method_3_code 12 = .ok (.if_icmp .ge 55, 3) := by decide +kernel
theorem d_M_greatestDifference_15 : decode prog_3_method_3_code 15 = .ok (.lload_n 2, 1) := by decide +kernel
theorem d_M_greatestDifference_16 : decode prog_3_method_3_code 16 = .ok (.aload_n 0, 1) := by decide +kernel
theorem d_M_greatestDifference_17 : decode prog_3_method_3_code 17 = .ok (.getfield 7, 3) := by decide +kernel
theorem d_M_greatestDifference_20 : decode prog_3_method_3_code 20 = .ok (.iload 4, 2) := by decide +kernel
theorem d_M_greatestDifference_22 : decode prog_3_method_3_code 22 = .ok (.laload, 1) := by decide +kernel
theorem d_M_greatestDifference_23 : decode prog_3_method_3_code 23 = .ok (.aload_n 1, 1) := by decide +kernel
theorem d_M_greatestDifference_24 : decode prog_3_method_3_code 24 = .ok (.getfield 7, 3) := by decide +kernel
theorem d_M_greatestDifference_27 : decode prog_3_method_3_code 27 = .ok (.iload 4, 2) := by decide +kernel
theorem d_M_greatestDifference_29 : decode prog_3_method_3_code 29 = .ok (.laload, 1) := by decide +kernel
theorem d_M_greatestDifference_30 : decode prog_3_method_3_code 30 = .ok (.lsub, 1) := by decide +kernel
theorem d_M_greatestDifference_31 : decode prog_3_method_3_code 31 = .ok (.invokestatic 22, 3) := by decide +kernel
theorem d_M_greatestDifference_34 : decode prog_3_method_3_code 34 = .ok (.invokestatic 28, 3) := by decide +kernel
theorem d_M_greatestDifference_37 : decode prog_3_method_3_code 37 = .ok (.lstore_n 2, 1) := by decide +kernel
theorem d_M_greatestDifference_38 : decode prog_3_method_3_code 38 = .ok (.lload_n 2, 1) := by decide +kernel
theorem d_M_greatestDifference_39 : decode prog_3_method_3_code 39 = .ok (.aload_n 0, 1) := by decide +kernel
theorem d_M_greatestDifference_40 : decode prog_3_method_3_code 40 = .ok (.getfield 13, 3) := by decide +kernel
theorem d_M_greatestDifference_43 : decode prog_3_method_3_code 43 = .ok (.iload 4, 2) := by decide +kernel
theorem d_M_greatestDifference_45 : decode prog_3_method_3_code 45 = .ok (.laload, 1) := by decide +kernel
theorem d_M_greatestDifference_46 : decode prog_3_method_3_code 46 = .ok (.aload_n 1, 1) := by decide +kernel
theorem d_M_greatestDifference_47 : decode prog_3_method_3_code 47 = .ok (.getfield 13, 3) := by decide +kernel
theorem d_M_greatestDifference_50 : decode prog_3_method_3_code 50 = .ok (.iload 4, 2) := by decide +kernel
theorem d_M_greatestDifference_52 : decode prog_3_method_3_code 52 = .ok (.laload, 1) := by decide +kernel
theorem d_M_greatestDifference_53 : decode prog_3_method_3_code 53 = .ok (.lsub, 1) := by decide +kernel
theorem d_M_greatestDifference_54 : decode prog_3_method_3_code 54 = .ok (.invokestatic 22, 3) := by decide +kernel
theorem d_M_greatestDifference_57 : decode prog_3_method_3_code 57 = .ok (.invokestatic 28, 3) := by decide +kernel
theorem d_M_greatestDifference_60 : decode prog_3_method_3_code 60 = .ok (.lstore_n 2, 1) := by decide +kernel
theorem d_M_greatestDifference_61 : decode prog_3_method_3_code 61 = .ok (.iinc 4 1, 3) := by decide +kernel
theorem d_M_greatestDifference_64 : decode prog_3_method_3_code 64 = .ok (.goto (-59), 3) := by decide +kernel
theorem d_M_greatestDifference_67 : decode prog_3_method_3_code 67 = .ok (.lload_n 2, 1) := by decide +kernel
theorem d_M_greatestDifference_68 : decode prog_3_method_3_code 68 = .ok (.lreturn, 1) := by decide +kernel
theorem d_W_isHitBy_0 : decode prog_5_method_3_code 0 = .ok (.aload_n 0, 1) := by decide +kernel
theorem d_W_isHitBy_1 : decode prog_5_method_3_code 1 = .ok (.invokevirtual 15, 3) := by decide +kernel
theorem d_W_isHitBy_4 : decode prog_5_method_3_code 4 = .ok (.ifCond .ne 5, 3) := by decide +kernel
theorem d_W_isHitBy_7 : decode prog_5_method_3_code 7 = .ok (.iconst 0, 1) := by decide +kernel
theorem d_W_isHitBy_8 : decode prog_5_method_3_code 8 = .ok (.ireturn, 1) := by decide +kernel
theorem d_W_isHitBy_9 : decode prog_5_method_3_code 9 = .ok (.aload_n 0, 1) := by decide +kernel
theorem d_W_isHitBy_10 : decode prog_5_method_3_code 10 = .ok (.getfield 19, 3) := by decide +kernel
theorem d_W_isHitBy_13 : decode prog_5_method_3_code 13 = .ok (.ifCond .eq 29, 3) := by decide +kernel
theorem d_W_isHitBy_16 : decode prog_5_method_3_code 16 = .ok (.lload_n 1, 1) := by decide +kernel
theorem d_W_isHitBy_17 : decode prog_5_method_3_code 17 = .ok (.aload_n 0, 1) := by decide +kernel
theorem d_W_isHitBy_18 : decode prog_5_method_3_code 18 = .ok (.getfield 23, 3) := by decide +kernel
theorem d_W_isHitBy_21 : decode prog_5_method_3_code 21 = .ok (.lcmp, 1) := by decide +kernel
theorem d_W_isHitBy_22 : decode prog_5_method_3_code 22 = .ok (.ifCond .ge 16, 3) := by decide +kernel
theorem d_W_isHitBy_25 : decode prog_5_method_3_code 25 = .ok (.lload_n 3, 1) := by decide +kernel
theorem d_W_isHitBy_26 : decode prog_5_method_3_code 26 = .ok (.aload_n 0, 1) := by decide +kernel
theorem d_W_isHitBy_27 : decode prog_5_method_3_code 27 = .ok (.getfield 23, 3) := by decide +kernel
theorem d_W_isHitBy_30 : decode prog_5_method_3_code 30 = .ok (.lcmp, 1) := by decide +kernel
theorem d_W_isHitBy_31 : decode prog_5_method_3_code 31 = .ok (.ifCond .lt 7, 3) := by decide +kernel
theorem d_W_isHitBy_34 : decode prog_5_method_3_code 34 = .ok (.iconst 1, 1) := by decide +kernel
theorem d_W_isHitBy_35 : decode prog_5_method_3_code 35 = .ok (.goto 30, 3) := by decide +kernel
theorem d_W_isHitBy_38 : decode prog_5_method_3_code 38 = .ok (.iconst 0, 1) := by decide +kernel
theorem d_W_isHitBy_39 : decode prog_5_method_3_code 39 = .ok (.goto 26, 3) := by decide +kernel
theorem d_W_isHitBy_42 : decode prog_5_method_3_code 42 = .ok (.lload_n 1, 1) := by decide +kernel
theorem d_W_isHitBy_43 : decode prog_5_method_3_code 43 = .ok (.aload_n 0, 1) := by decide +kernel
theorem d_W_isHitBy_44 : decode prog_5_method_3_code 44 = .ok (.getfield 23, 3) := by decide +kernel
theorem d_W_isHitBy_47 : decode prog_5_method_3_code 47 = .ok (.lcmp, 1) := by decide +kernel
theorem d_W_isHitBy_48 : decode prog_5_method_3_code 48 = .ok (.ifCond .le 16, 3) := by decide +kernel
theorem d_W_isHitBy_51 : decode prog_5_method_3_code 51 = .ok (.lload_n 3, 1) := by decide +kernel
theorem d_W_isHitBy_52 : decode prog_5_method_3_code 52 = .ok (.aload_n 0, 1) := by decide +kernel
theorem d_W_isHitBy_53 : decode prog_5_method_3_code 53 = .ok (.getfield 23, 3) := by decide +kernel
theorem d_W_isHitBy_56 : decode prog_5_method_3_code 56 = .ok (.lcmp, 1) := by decide +kernel
theorem d_W_isHitBy_57 : decode prog_5_method_3_code 57 = .ok (.ifCond .gt 7, 3) := by decide +kernel
theorem d_W_isHitBy_60 : decode prog_5_method_3_code 60 = .ok (.iconst 1, 1) := by decide +kernel
theorem d_W_isHitBy_61 : decode prog_5_method_3_code 61 = .ok (.goto 4, 3) := by decide +kernel
theorem d_W_isHitBy_64 : decode prog_5_method_3_code 64 = .ok (.iconst 0, 1) := by decide +kernel
theorem d_W_isHitBy_65 : decode prog_5_method_3_code 65 = .ok (.ireturn, 1) := by decide +kernel
theorem d_W_isSet_0 : decode prog_5_method_2_code 0 = .ok (.aload_n 0, 1) := by decide +kernel
theorem d_W_isSet_1 : decode prog_5_method_2_code 1 = .ok (.getfield 9, 3) := by decide +kernel
theorem d_W_isSet_4 : decode prog_5_method_2_code 4 = .ok (.iconst (-1), 1) := by decide +kernel
theorem d_W_isSet_5 : decode prog_5_method_2_code 5 = .ok (.if_icmp .eq 7, 3) := by decide +kernel
theorem d_W_isSet_8 : decode prog_5_method_2_code 8 = .ok (.iconst 1, 1) := by decide +kernel
theorem d_W_isSet_9 : decode prog_5_method_2_code 9 = .ok (.goto 4, 3) := by decide +kernel
theorem d_W_isSet_12 : decode prog_5_method_2_code 12 = .ok (.iconst 0, 1) := by decide +kernel
theorem d_W_isSet_13 : decode prog_5_method_2_code 13 = .ok (.ireturn, 1) := by decide +kernel
theorem d_W_ticksUntilLevel_0 : decode prog_5_method_4_code 0 = .ok (.lload_n 3, 1) := by decide +kernel
theorem d_W_ticksUntilLevel_1 : decode prog_5_method_4_code 1 = .ok (.lload_n 1, 1) := by decide +kernel
theorem d_W_ticksUntilLevel_2 : decode prog_5_method_4_code 2 = .ok (.lsub, 1) := by decide +kernel
theorem d_W_ticksUntilLevel_3 : decode prog_5_method_4_code 3 = .ok (.invokestatic 27, 3) := by decide +kernel
theorem d_W_ticksUntilLevel_6 : decode prog_5_method_4_code 6 = .ok (.lstore 6, 2) := by decide +kernel
theorem d_W_ticksUntilLevel_8 : decode prog_5_method_4_code 8 = .ok (.lload 6, 2) := by decide +kernel
theorem d_W_ticksUntilLevel_10 : decode prog_5_method_4_code 10 = .ok (.lconst 0, 1) := by decide +kernel
theorem d_W_ticksUntilLevel_11 : decode prog_5_method_4_code 11 = .ok (.lcmp, 1) := by decide +kernel
theorem d_W_ticksUntilLevel_12 : decode prog_5_method_4_code 12 = .ok (.ifCond .ne 5, 3) := by decide +kernel
theorem d_W_ticksUntilLevel_15 : decode prog_5_method_4_code 15 = .ok (.iconst 0, 1) := by decide +kernel
theorem d_W_ticksUntilLevel_16 : decode prog_5_method_4_code 16 = .ok (.ireturn, 1) := by decide +kernel
theorem d_W_ticksUntilLevel_17 : decode prog_5_method_4_code 17 = .ok (.iload 5, 2) := by decide +kernel
theorem d_W_ticksUntilLevel_19 : decode prog_5_method_4_code 19 = .ok (.i2l, 1) := by decide +kernel
theorem d_W_ticksUntilLevel_20 : decode prog_5_method_4_code 20 = .ok (.aload_n 0, 1) := by decide +kernel
theorem d_W_ticksUntilLevel_21 : decode prog_5_method_4_code 21 = .ok (.getfield 23, 3) := by decide +kernel
theorem d_W_ticksUntilLevel_24 : decode prog_5_method_4_code 24 = .ok (.lload_n 1, 1) := by decide +kernel
theorem d_W_ticksUntilLevel_25 : decode prog_5_method_4_code 25 = .ok (.lsub, 1) := by decide +kernel
theorem d_W_ticksUntilLevel_26 : decode prog_5_method_4_code 26 = .ok (.invokestatic 27, 3) := by decide +kernel
theorem d_W_ticksUntilLevel_29 : decode prog_5_method_4_code 29 = .ok (.lmul, 1) := by decide +kernel
theorem d_W_ticksUntilLevel_30 : decode prog_5_method_4_code 30 = .ok (.lstore 8, 2) := by decide +kernel
theorem d_W_ticksUntilLevel_32 : decode prog_5_method_4_code 32 = .ok (.lload 8, 2) := by decide +kernel
theorem d_W_ticksUntilLevel_34 : decode prog_5_method_4_code 34 = .ok (.lload 6, 2) := by decide +kernel
theorem d_W_ticksUntilLevel_36 : decode prog_5_method_4_code 36 = .ok (.ladd, 1) := by decide +kernel
theorem d_W_ticksUntilLevel_37 : decode prog_5_method_4_code 37 = .ok (.lconst 1, 1) := by decide +kernel
theorem d_W_ticksUntilLevel_38 : decode prog_5_method_4_code 38 = .ok (.lsub, 1) := by decide +kernel
theorem d_W_ticksUntilLevel_39 : decode prog_5_method_4_code 39 = .ok (.lload 6, 2) := by decide +kernel
theorem d_W_ticksUntilLevel_41 : decode prog_5_method_4_code 41 = .ok (.ldiv, 1) := by decide +kernel
theorem d_W_ticksUntilLevel_42 : decode prog_5_method_4_code 42 = .ok (.l2i, 1) := by decide +kernel
theorem d_W_ticksUntilLevel_43 : decode prog_5_method_4_code 43 = .ok (.ireturn, 1) := by decide +kernel
theorem d_H_note_0 : decode prog_2_method_3_code 0 = .ok (.aload_n 0, 1) := by decide +kernel
theorem d_H_note_1 : decode prog_2_method_3_code 1 = .ok (.getfield 19, 3) := by decide +kernel
theorem d_H_note_4 : decode prog_2_method_3_code 4 = .ok (.bipush 40, 2) := by decide +kernel
theorem d_H_note_6 : decode prog_2_method_3_code 6 = .ok (.if_icmp .ge 33, 3) := by decide +kernel
theorem d_H_note_9 : decode prog_2_method_3_code 9 = .ok (.aload_n 0, 1) := by decide +kernel
theorem d_H_note_10 : decode prog_2_method_3_code 10 = .ok (.getfield 9, 3) := by decide +kernel
theorem d_H_note_13 : decode prog_2_method_3_code 13 = .ok (.aload_n 0, 1) := by decide +kernel
theorem d_H_note_14 : decode prog_2_method_3_code 14 = .ok (.getfield 19, 3) := by decide +kernel
theorem d_H_note_17 : decode prog_2_method_3_code 17 = .ok (.iload_n 1, 1) := by decide +kernel
theorem d_H_note_18 : decode prog_2_method_3_code 18 = .ok (.iastore, 1) := by decide +kernel
theorem d_H_note_19 : decode prog_2_method_3_code 19 = .ok (.aload_n 0, 1) := by decide +kernel
theorem d_H_note_20 : decode prog_2_method_3_code 20 = .ok (.getfield 13, 3) := by decide +kernel
theorem d_H_note_23 : decode prog_2_method_3_code 23 = .ok (.aload_n 0, 1) := by decide +kernel
theorem d_H_note_24 : decode prog_2_method_3_code 24 = .ok (.getfield 19, 3) := by decide +kernel
theorem d_H_note_27 : decode prog_2_method_3_code 27 = .ok (.iload_n 2, 1) := by decide +kernel
theorem d_H_note_28 : decode prog_2_method_3_code 28 = .ok (.iastore, 1) := by decide +kernel
theorem d_H_note_29 : decode prog_2_method_3_code 29 = .ok (.aload_n 0, 1) := by decide +kernel
theorem d_H_note_30 : decode prog_2_method_3_code 30 = .ok (.getfield 16, 3) := by decide +kernel
theorem d_H_note_33 : decode prog_2_method_3_code 33 = .ok (.aload_n 0, 1) := by decide +kernel
theorem d_H_note_34 : decode prog_2_method_3_code 34 = .ok (.getfield 19, 3) := by decide +kernel
theorem d_H_note_37 : decode prog_2_method_3_code 37 = .ok (.iload_n 3, 1) := by decide +kernel
theorem d_H_note_38 : decode prog_2_method_3_code 38 = .ok (.iastore, 1) := by decide +kernel
theorem d_H_note_39 : decode prog_2_method_3_code 39 = .ok (.aload_n 0, 1) := by decide +kernel
theorem d_H_note_40 : decode prog_2_method_3_code 40 = .ok (.dup, 1) := by decide +kernel
theorem d_H_note_41 : decode prog_2_method_3_code 41 = .ok (.getfield 19, 3) := by decide +kernel
theorem d_H_note_44 : decode prog_2_method_3_code 44 = .ok (.iconst 1, 1) := by decide +kernel
theorem d_H_note_45 : decode prog_2_method_3_code 45 = .ok (.iadd, 1) := by decide +kernel
theorem d_H_note_46 : decode prog_2_method_3_code 46 = .ok (.putfield 19, 3) := by decide +kernel
theorem d_H_note_49 : decode prog_2_method_3_code 49 = .ok (.return_, 1) := by decide +kernel
theorem d_H_keeps_0 : decode prog_2_method_2_code 0 = .ok (.iload_n 1, 1) := by decide +kernel
theorem d_H_keeps_1 : decode prog_2_method_2_code 1 = .ok (.ifCond .lt 21, 3) := by decide +kernel
theorem d_H_keeps_4 : decode prog_2_method_2_code 4 = .ok (.iload_n 1, 1) := by decide +kernel
theorem d_H_keeps_5 : decode prog_2_method_2_code 5 = .ok (.bipush 40, 2) := by decide +kernel
theorem d_H_keeps_7 : decode prog_2_method_2_code 7 = .ok (.if_icmp .ge 15, 3) := by decide +kernel
theorem d_H_keeps_10 : decode prog_2_method_2_code 10 = .ok (.iload_n 1, 1) := by decide +kernel
theorem d_H_keeps_11 : decode prog_2_method_2_code 11 = .ok (.aload_n 0, 1) := by decide +kernel
theorem d_H_keeps_12 : decode prog_2_method_2_code 12 = .ok (.getfield 19, 3) := by decide +kernel
theorem d_H_keeps_15 : decode prog_2_method_2_code 15 = .ok (.if_icmp .ge 7, 3) := by decide +kernel
theorem d_H_keeps_18 : decode prog_2_method_2_code 18 = .ok (.iconst 1, 1) := by decide +kernel
theorem d_H_keeps_19 : decode prog_2_method_2_code 19 = .ok (.goto 4, 3) := by decide +kernel
theorem d_H_keeps_22 : decode prog_2_method_2_code 22 = .ok (.iconst 0, 1) := by decide +kernel
theorem d_H_keeps_23 : decode prog_2_method_2_code 23 = .ok (.ireturn, 1) := by decide +kernel
end
section
set_option maxHeartbeats 4000000 in
set_option maxRecDepth 100000 in
theorem c_S_rnd (l : Launch) (D : va_G) (cI cL cW cZ : ClassId) (am : Int64) (hh : Int32) (sz : Nat) : Met l y_S_roundedPart w_S_roundedPart ({ frames := 0, cells := 0, slots := 0, locals := 0 }) (va_Pc [.long am, .int hh] (gP D vwCl (tyv cI cL cW cZ) [] sz)) (va_Ql (fun (r : Int64) (u : Unit) => r = zRnd am hh) (fun u t => gB D vwCl (tyv cI cL cW cZ) (va_A [] sz) [] t) (va_A [] sz)) 0 0 (va_A [] sz) := by
  refine met_go (cc := prog_4_method_6_code) (maxL := 5) (ret := (some .long)) (QA := fun A => va_Ql (fun (r : Int64) (u : Unit) => r = zRnd am hh) (fun u t => gB D vwCl (tyv cI cL cW cZ) A [] t) A) (by decide) (Nat.le_of_ble_eq_true rfl) ?_
  intro p e s m below meth c A ls hx hb hr hml hT hN hown hlocks hin hl hP hK hD hA hS
  have hl : lv_has ls 5 [(0, .long am), (2, .int hh)] := hl
  refine lv_lconst (v := 1) hx hb d_S_roundedPart_0 (by decide) ?_
  refine lv_iload_n hx hb d_S_roundedPart_1 rfl (lv_at hl 1 rfl) ?_
  refine lv_lshl hx hb d_S_roundedPart_2 rfl ?_
  refine lv_iconst (v := 1) hx hb d_S_roundedPart_3 (by decide) ?_
  refine lv_lshr hx hb d_S_roundedPart_4 rfl ?_
  refine lv_lstore_n (lv' := [(3, .long ((1 <<< (hh.toInt64 &&& 63)) >>> ((1 : Int32).toInt64 &&& 63))), (0, .long am), (2, .int hh)]) hx hb d_S_roundedPart_5 rfl hl (by decide) rfl (fun ls hl => ?_)
  refine lv_lload_n hx hb d_S_roundedPart_6 rfl (lv_at hl 1 rfl) ?_
  refine lv_lload_n hx hb d_S_roundedPart_7 rfl (lv_at hl 0 rfl) ?_
  refine lv_ladd hx hb d_S_roundedPart_8 ?_
  refine lv_iload_n hx hb d_S_roundedPart_9 rfl (lv_at hl 2 rfl) ?_
  refine lv_lshr hx hb d_S_roundedPart_10 rfl ?_
  exact re_l (v := (am + ((1 <<< (hh.toInt64 &&& 63)) >>> ((1 : Int32).toInt64 &&& 63))) >>> (hh.toInt64 &&& 63)) () hx hb hr hlocks rfl (hP.sub [] rfl) hK (hD.sub [] (by decide) rfl) hS d_S_roundedPart_11
set_option maxHeartbeats 4000000 in
set_option maxRecDepth 100000 in
theorem c_S_near (l : Launch) (D : va_G) (cI cL cW cZ : ClassId) (am : Int64) (sz : Nat) : Met l y_S_isNear w_S_isNear ({ frames := 0, cells := 0, slots := 0, locals := 0 }) (va_Pc [.long am] (gP D vwCl (tyv cI cL cW cZ) [] sz)) (va_Qi (fun (r : Int32) (u : Unit) => r = zNear am) (fun u t => gB D vwCl (tyv cI cL cW cZ) (va_A [] sz) [] t) (va_A [] sz)) 0 0 (va_A [] sz) := by
  refine met_go (cc := prog_4_method_7_code) (maxL := 2) (ret := (some .boolean)) (QA := fun A => va_Qi (fun (r : Int32) (u : Unit) => r = zNear am) (fun u t => gB D vwCl (tyv cI cL cW cZ) A [] t) A) (by decide) (Nat.le_of_ble_eq_true rfl) ?_
  intro p e s m below meth c A ls hx hb hr hml hT hN hown hlocks hin hl hP hK hD hA hS
  have hl : lv_has ls 2 [(0, .long am)] := hl
  refine lv_lload_n hx hb d_S_isNear_0 rfl (lv_at hl 0 rfl) ?_
  refine lv_ldc2 (v := (-1024000000)) hx hb hown (hT _ k_242) d_S_isNear_1 ?_
  refine W.lcmp hx hb d_S_isNear_4 ?_
  refine lv_if_lt (tgt := 20) hx hb d_S_isNear_5 (by decide) (fun c5 => ?_) (fun c5 => ?_)
  · have c5 := lgt_lt c5
    refine lv_iconst (v := 0) hx hb d_S_isNear_20 (by decide) ?_
    exact re_z (v := 0) () hx hb hr rfl hlocks (by rw [zNear, if_pos c5]) (hP.sub [] rfl) hK (hD.sub [] (by decide) rfl) hS d_S_isNear_21
  · have c5 := lgf_lt c5
    refine lv_lload_n hx hb d_S_isNear_8 rfl (lv_at hl 0 rfl) ?_
    refine lv_ldc2 (v := 1024000000) hx hb hown (hT _ k_243) d_S_isNear_9 ?_
    refine W.lcmp hx hb d_S_isNear_12 ?_
    refine lv_if_gt (tgt := 20) hx hb d_S_isNear_13 (by decide) (fun c13 => ?_) (fun c13 => ?_)
    · have c13 := lgt_gt c13
      refine lv_iconst (v := 0) hx hb d_S_isNear_20 (by decide) ?_
      exact re_z (v := 0) () hx hb hr rfl hlocks (by rw [zNear, if_neg c5, if_pos c13]) (hP.sub [] rfl) hK (hD.sub [] (by decide) rfl) hS d_S_isNear_21
    · have c13 := lgf_gt c13
      refine lv_iconst (v := 1) hx hb d_S_isNear_16 (by decide) ?_
      refine lv_goto (tgt := 21) hx hb d_S_isNear_17 (by decide) ?_
      exact re_z (v := 1) () hx hb hr rfl hlocks (by rw [zNear, if_neg c5, if_neg c13]) (hP.sub [] rfl) hK (hD.sub [] (by decide) rfl) hS d_S_isNear_21
set_option maxHeartbeats 4000000 in
set_option maxRecDepth 100000 in
theorem c_S_push (l : Launch) (D : va_G) (cI cL cW cZ : ClassId) (sp : Nat) (ak : Nat) (ac : Nat) (aq : Nat) (af : Nat) (n : Nat) (zk : Nat → Int32) (zc : Nat → Int32) (zq : Nat → Int32) (zf : Nat → Int32) (mo : Nat) (ax : Nat) (av : Nat) (px : Nat → Int64) (pv : Nat → Int64) (j : Nat) (sz : Nat) (hj : j < n) (hn : n ≤ 4) : Met l y_S_pushOn w_S_pushOn ({ frames := 0, cells := 0, slots := 0, locals := 0 }) (va_Pc [.ref sp, .int (nI j), .ref mo] (gP D vwCl (tyv cI cL cW cZ) [(sp, .inr (2, [.int (nI n), .ref ak, .ref ac, .ref aq, .ref af])), (ak, .inl (cI, n, .inl zk)), (ac, .inl (cI, n, .inl zc)), (aq, .inl (cI, n, .inl zq)), (af, .inl (cI, n, .inl zf)), (mo, .inr (1, [.ref ax, .ref av])), (ax, .inl (cL, n, .inr (.inl px))), (av, .inl (cL, n, .inr (.inl pv)))] sz)) (va_Ql (fun (r : Int64) (u : Unit) => r = zPush n zk zc zq zf px pv j) (fun u t => gB D vwCl (tyv cI cL cW cZ) (va_A [(sp, .inr (2, [.int (nI n), .ref ak, .ref ac, .ref aq, .ref af])), (ak, .inl (cI, n, .inl zk)), (ac, .inl (cI, n, .inl zc)), (aq, .inl (cI, n, .inl zq)), (af, .inl (cI, n, .inl zf)), (mo, .inr (1, [.ref ax, .ref av])), (ax, .inl (cL, n, .inr (.inl px))), (av, .inl (cL, n, .inr (.inl pv)))] sz) [(sp, .inr (2, [.int (nI n), .ref ak, .ref ac, .ref aq, .ref af])), (ak, .inl (cI, n, .inl zk)), (ac, .inl (cI, n, .inl zc)), (aq, .inl (cI, n, .inl zq)), (af, .inl (cI, n, .inl zf)), (mo, .inr (1, [.ref ax, .ref av])), (ax, .inl (cL, n, .inr (.inl px))), (av, .inl (cL, n, .inr (.inl pv)))] t) (va_A [(sp, .inr (2, [.int (nI n), .ref ak, .ref ac, .ref aq, .ref af])), (ak, .inl (cI, n, .inl zk)), (ac, .inl (cI, n, .inl zc)), (aq, .inl (cI, n, .inl zq)), (af, .inl (cI, n, .inl zf)), (mo, .inr (1, [.ref ax, .ref av])), (ax, .inl (cL, n, .inr (.inl px))), (av, .inl (cL, n, .inr (.inl pv)))] sz)) 0 0 (va_A [(sp, .inr (2, [.int (nI n), .ref ak, .ref ac, .ref aq, .ref af])), (ak, .inl (cI, n, .inl zk)), (ac, .inl (cI, n, .inl zc)), (aq, .inl (cI, n, .inl zq)), (af, .inl (cI, n, .inl zf)), (mo, .inr (1, [.ref ax, .ref av])), (ax, .inl (cL, n, .inr (.inl px))), (av, .inl (cL, n, .inr (.inl pv)))] sz) := by
  refine met_go (cc := prog_4_method_2_code) (maxL := 7) (ret := (some .long)) (QA := fun A => va_Ql (fun (r : Int64) (u : Unit) => r = zPush n zk zc zq zf px pv j) (fun u t => gB D vwCl (tyv cI cL cW cZ) A [(sp, .inr (2, [.int (nI n), .ref ak, .ref ac, .ref aq, .ref af])), (ak, .inl (cI, n, .inl zk)), (ac, .inl (cI, n, .inl zc)), (aq, .inl (cI, n, .inl zq)), (af, .inl (cI, n, .inl zf)), (mo, .inr (1, [.ref ax, .ref av])), (ax, .inl (cL, n, .inr (.inl px))), (av, .inl (cL, n, .inr (.inl pv)))] t) A) (by decide) (Nat.le_of_ble_eq_true rfl) ?_
  intro p e s m below meth c A ls hx hb hr hml hT hN hown hlocks hin hl hP hK hD hA hS
  have hl : lv_has ls 7 [(0, .ref sp), (1, .int (nI j)), (2, .ref mo)] := hl
  refine lv_aload_n hx hb d_S_pushOn_0 rfl (lv_at hl 2 rfl) ?_
  refine va_getN (D := D) (ci := 1) (v := .ref ax) (C := "OscillatorRow$Motion") (T := T_M) (N := 2) hx hb hT i_M hown hK hP 5 rfl rfl 0 (by decide) (va_Nw.use rfl (hN _ j_57)) (fun _ h9 => h9) rfl d_S_pushOn_1 ?_
  refine lv_iload_n hx hb d_S_pushOn_4 rfl (lv_at hl 1 rfl) ?_
  refine ra_lald (j := j) hx hb hK hP 6 1 rfl rfl (by omega) (by omega) d_S_pushOn_5 ?_
  refine lv_lstore_n (lv' := [(3, .long (px j)), (0, .ref sp), (1, .int (nI j)), (2, .ref mo)]) hx hb d_S_pushOn_6 rfl hl (by decide) rfl (fun ls hl => ?_)
  refine lv_aload_n hx hb d_S_pushOn_7 rfl (lv_at hl 1 rfl) ?_
  refine va_get (D := D) (ci := 2) (v := .ref af) (C := "OscillatorRow$Springs") (T := T_S) (N := 5) hx hb hT i_S hown hK hP 0 rfl rfl 4 (by decide) (hT _ k_36) (fun _ h9 => h9) rfl d_S_pushOn_8 ?_
  refine lv_iload_n hx hb d_S_pushOn_11 rfl (lv_at hl 2 rfl) ?_
  refine ra_iald (j := j) hx hb hK hP 4 0 rfl rfl (by omega) (by omega) d_S_pushOn_12 ?_
  refine lv_i2l hx hb d_S_pushOn_13 rfl ?_
  refine lv_iconst (v := 4) hx hb d_S_pushOn_14 (by decide) ?_
  refine lv_lshl hx hb d_S_pushOn_15 rfl ?_
  refine lv_aload_n hx hb d_S_pushOn_16 rfl (lv_at hl 1 rfl) ?_
  refine va_get (D := D) (ci := 2) (v := .ref ak) (C := "OscillatorRow$Springs") (T := T_S) (N := 5) hx hb hT i_S hown hK hP 0 rfl rfl 1 (by decide) (hT _ k_30) (fun _ h9 => h9) rfl d_S_pushOn_17 ?_
  refine lv_iload_n hx hb d_S_pushOn_20 rfl (lv_at hl 2 rfl) ?_
  refine ra_iald (j := j) hx hb hK hP 1 0 rfl rfl (by omega) (by omega) d_S_pushOn_21 ?_
  refine lv_i2l hx hb d_S_pushOn_22 rfl ?_
  refine lv_lload_n hx hb d_S_pushOn_23 rfl (lv_at hl 0 rfl) ?_
  refine lv_lmul hx hb d_S_pushOn_24 ?_
  refine lv_lsub hx hb d_S_pushOn_25 ?_
  refine lv_aload_n hx hb d_S_pushOn_26 rfl (lv_at hl 1 rfl) ?_
  refine va_get (D := D) (ci := 2) (v := .ref ac) (C := "OscillatorRow$Springs") (T := T_S) (N := 5) hx hb hT i_S hown hK hP 0 rfl rfl 2 (by decide) (hT _ k_32) (fun _ h9 => h9) rfl d_S_pushOn_27 ?_
  refine lv_iload_n hx hb d_S_pushOn_30 rfl (lv_at hl 2 rfl) ?_
  refine ra_iald (j := j) hx hb hK hP 2 0 rfl rfl (by omega) (by omega) d_S_pushOn_31 ?_
  refine lv_i2l hx hb d_S_pushOn_32 rfl ?_
  refine lv_aload_n hx hb d_S_pushOn_33 rfl (lv_at hl 3 rfl) ?_
  refine va_getN (D := D) (ci := 1) (v := .ref av) (C := "OscillatorRow$Motion") (T := T_M) (N := 2) hx hb hT i_M hown hK hP 5 rfl rfl 1 (by decide) (va_Nw.use rfl (hN _ j_60)) (fun _ h9 => h9) rfl d_S_pushOn_34 ?_
  refine lv_iload_n hx hb d_S_pushOn_37 rfl (lv_at hl 2 rfl) ?_
  refine ra_lald (j := j) hx hb hK hP 7 1 rfl rfl (by omega) (by omega) d_S_pushOn_38 ?_
  refine lv_lmul hx hb d_S_pushOn_39 ?_
  refine lv_lsub hx hb d_S_pushOn_40 ?_
  refine lv_lstore (lv' := [(5, .long (((((zf j).toInt64) <<< ((4 : Int32).toInt64 &&& 63)) - (((zk j).toInt64) * (px j))) - (((zc j).toInt64) * (pv j)))), (3, .long (px j)), (0, .ref sp), (1, .int (nI j)), (2, .ref mo)]) hx hb d_S_pushOn_41 hl (by decide) rfl (fun ls hl => ?_)
  refine lv_iload_n hx hb d_S_pushOn_43 rfl (lv_at hl 3 rfl) ?_
  refine lv_iconst (v := 1) hx hb d_S_pushOn_44 (by decide) ?_
  refine lv_iadd hx hb d_S_pushOn_45 ?_
  refine top_i (y := (nI (j + 1))) (nI_1 j) ?_
  refine lv_aload_n hx hb d_S_pushOn_46 rfl (lv_at hl 2 rfl) ?_
  refine va_get (D := D) (ci := 2) (v := .int (nI n)) (C := "OscillatorRow$Springs") (T := T_S) (N := 5) hx hb hT i_S hown hK hP 0 rfl rfl 0 (by decide) (hT _ k_29) (fun _ h9 => h9) rfl d_S_pushOn_47 ?_
  refine lv_icmp_ge (tgt := 76) hx hb d_S_pushOn_50 (by decide) (fun c50 => ?_) (fun c50 => ?_)
  · have c50 := nI_leM c50 (by omega) (by omega)
    refine lv_iload_n hx hb d_S_pushOn_76 rfl (lv_at hl 3 rfl) ?_
    refine lv_if_le (tgt := 105) hx hb d_S_pushOn_77 (by decide) (fun c77 => ?_) (fun c77 => ?_)
    · have c77 := nI_le0M c77 (by omega)
      refine lv_lload hx hb d_S_pushOn_105 (lv_at hl 0 rfl) ?_
      exact re_l (v := ((((zf j).toInt64) <<< ((4 : Int32).toInt64 &&& 63)) - (((zk j).toInt64) * (px j))) - (((zc j).toInt64) * (pv j))) () hx hb hr hlocks (by rw [zPush, if_pos c77, zP1, if_pos c50]; rfl) (hP.sub [0, 1, 2, 3, 4, 5, 6, 7] rfl) hK (hD.sub [0, 1, 2, 3, 4, 5, 6, 7] (by decide) rfl) hS d_S_pushOn_107
    · have c77 := nI_nle0M c77 (by omega)
      refine lv_lload hx hb d_S_pushOn_80 (lv_at hl 0 rfl) ?_
      refine lv_aload_n hx hb d_S_pushOn_82 rfl (lv_at hl 2 rfl) ?_
      refine va_get (D := D) (ci := 2) (v := .ref aq) (C := "OscillatorRow$Springs") (T := T_S) (N := 5) hx hb hT i_S hown hK hP 0 rfl rfl 3 (by decide) (hT _ k_34) (fun _ h9 => h9) rfl d_S_pushOn_83 ?_
      refine lv_iload_n hx hb d_S_pushOn_86 rfl (lv_at hl 3 rfl) ?_
      refine lv_iconst (v := 1) hx hb d_S_pushOn_87 (by decide) ?_
      refine lv_isub hx hb d_S_pushOn_88 ?_
      refine top_i (y := (nI (j - 1))) (nI_p c77) ?_
      refine ra_iald (j := (j - 1)) hx hb hK hP 3 0 rfl rfl (by omega) (by omega) d_S_pushOn_89 ?_
      refine lv_i2l hx hb d_S_pushOn_90 rfl ?_
      refine lv_lload_n hx hb d_S_pushOn_91 rfl (lv_at hl 1 rfl) ?_
      refine lv_aload_n hx hb d_S_pushOn_92 rfl (lv_at hl 4 rfl) ?_
      refine va_getN (D := D) (ci := 1) (v := .ref ax) (C := "OscillatorRow$Motion") (T := T_M) (N := 2) hx hb hT i_M hown hK hP 5 rfl rfl 0 (by decide) (va_Nw.use rfl (hN _ j_57)) (fun _ h9 => h9) rfl d_S_pushOn_93 ?_
      refine lv_iload_n hx hb d_S_pushOn_96 rfl (lv_at hl 3 rfl) ?_
      refine lv_iconst (v := 1) hx hb d_S_pushOn_97 (by decide) ?_
      refine lv_isub hx hb d_S_pushOn_98 ?_
      refine top_i (y := (nI (j - 1))) (nI_p c77) ?_
      refine ra_lald (j := (j - 1)) hx hb hK hP 6 1 rfl rfl (by omega) (by omega) d_S_pushOn_99 ?_
      refine lv_lsub hx hb d_S_pushOn_100 ?_
      refine lv_lmul hx hb d_S_pushOn_101 ?_
      refine lv_lsub hx hb d_S_pushOn_102 ?_
      refine lv_lstore (lv' := [(5, .long ((((((zf j).toInt64) <<< ((4 : Int32).toInt64 &&& 63)) - (((zk j).toInt64) * (px j))) - (((zc j).toInt64) * (pv j))) - (((zq (j - 1)).toInt64) * ((px j) - (px (j - 1)))))), (3, .long (px j)), (0, .ref sp), (1, .int (nI j)), (2, .ref mo)]) hx hb d_S_pushOn_103 hl (by decide) rfl (fun ls hl => ?_)
      refine lv_lload hx hb d_S_pushOn_105 (lv_at hl 0 rfl) ?_
      exact re_l (v := (((((zf j).toInt64) <<< ((4 : Int32).toInt64 &&& 63)) - (((zk j).toInt64) * (px j))) - (((zc j).toInt64) * (pv j))) - (((zq (j - 1)).toInt64) * ((px j) - (px (j - 1))))) () hx hb hr hlocks (by rw [zPush, if_neg (Nat.not_le.mpr c77), zP1, if_pos c50]; rfl) (hP.sub [0, 1, 2, 3, 4, 5, 6, 7] rfl) hK (hD.sub [0, 1, 2, 3, 4, 5, 6, 7] (by decide) rfl) hS d_S_pushOn_107
  · have c50 := nI_nleM c50 (by omega) (by omega)
    refine lv_lload hx hb d_S_pushOn_53 (lv_at hl 0 rfl) ?_
    refine lv_aload_n hx hb d_S_pushOn_55 rfl (lv_at hl 2 rfl) ?_
    refine va_get (D := D) (ci := 2) (v := .ref aq) (C := "OscillatorRow$Springs") (T := T_S) (N := 5) hx hb hT i_S hown hK hP 0 rfl rfl 3 (by decide) (hT _ k_34) (fun _ h9 => h9) rfl d_S_pushOn_56 ?_
    refine lv_iload_n hx hb d_S_pushOn_59 rfl (lv_at hl 3 rfl) ?_
    refine ra_iald (j := j) hx hb hK hP 3 0 rfl rfl (by omega) (by omega) d_S_pushOn_60 ?_
    refine lv_i2l hx hb d_S_pushOn_61 rfl ?_
    refine lv_aload_n hx hb d_S_pushOn_62 rfl (lv_at hl 4 rfl) ?_
    refine va_getN (D := D) (ci := 1) (v := .ref ax) (C := "OscillatorRow$Motion") (T := T_M) (N := 2) hx hb hT i_M hown hK hP 5 rfl rfl 0 (by decide) (va_Nw.use rfl (hN _ j_57)) (fun _ h9 => h9) rfl d_S_pushOn_63 ?_
    refine lv_iload_n hx hb d_S_pushOn_66 rfl (lv_at hl 3 rfl) ?_
    refine lv_iconst (v := 1) hx hb d_S_pushOn_67 (by decide) ?_
    refine lv_iadd hx hb d_S_pushOn_68 ?_
    refine top_i (y := (nI (j + 1))) (nI_1 j) ?_
    refine ra_lald (j := (j + 1)) hx hb hK hP 6 1 rfl rfl (by omega) (by omega) d_S_pushOn_69 ?_
    refine lv_lload_n hx hb d_S_pushOn_70 rfl (lv_at hl 1 rfl) ?_
    refine lv_lsub hx hb d_S_pushOn_71 ?_
    refine lv_lmul hx hb d_S_pushOn_72 ?_
    refine lv_ladd hx hb d_S_pushOn_73 ?_
    refine lv_lstore (lv' := [(5, .long ((((((zf j).toInt64) <<< ((4 : Int32).toInt64 &&& 63)) - (((zk j).toInt64) * (px j))) - (((zc j).toInt64) * (pv j))) + (((zq j).toInt64) * ((px (j + 1)) - (px j))))), (3, .long (px j)), (0, .ref sp), (1, .int (nI j)), (2, .ref mo)]) hx hb d_S_pushOn_74 hl (by decide) rfl (fun ls hl => ?_)
    refine lv_iload_n hx hb d_S_pushOn_76 rfl (lv_at hl 3 rfl) ?_
    refine lv_if_le (tgt := 105) hx hb d_S_pushOn_77 (by decide) (fun c77 => ?_) (fun c77 => ?_)
    · have c77 := nI_le0M c77 (by omega)
      refine lv_lload hx hb d_S_pushOn_105 (lv_at hl 0 rfl) ?_
      exact re_l (v := (((((zf j).toInt64) <<< ((4 : Int32).toInt64 &&& 63)) - (((zk j).toInt64) * (px j))) - (((zc j).toInt64) * (pv j))) + (((zq j).toInt64) * ((px (j + 1)) - (px j)))) () hx hb hr hlocks (by rw [zPush, if_pos c77, zP1, if_neg (Nat.not_le.mpr c50)]; rfl) (hP.sub [0, 1, 2, 3, 4, 5, 6, 7] rfl) hK (hD.sub [0, 1, 2, 3, 4, 5, 6, 7] (by decide) rfl) hS d_S_pushOn_107
    · have c77 := nI_nle0M c77 (by omega)
      refine lv_lload hx hb d_S_pushOn_80 (lv_at hl 0 rfl) ?_
      refine lv_aload_n hx hb d_S_pushOn_82 rfl (lv_at hl 2 rfl) ?_
      refine va_get (D := D) (ci := 2) (v := .ref aq) (C := "OscillatorRow$Springs") (T := T_S) (N := 5) hx hb hT i_S hown hK hP 0 rfl rfl 3 (by decide) (hT _ k_34) (fun _ h9 => h9) rfl d_S_pushOn_83 ?_
      refine lv_iload_n hx hb d_S_pushOn_86 rfl (lv_at hl 3 rfl) ?_
      refine lv_iconst (v := 1) hx hb d_S_pushOn_87 (by decide) ?_
      refine lv_isub hx hb d_S_pushOn_88 ?_
      refine top_i (y := (nI (j - 1))) (nI_p c77) ?_
      refine ra_iald (j := (j - 1)) hx hb hK hP 3 0 rfl rfl (by omega) (by omega) d_S_pushOn_89 ?_
      refine lv_i2l hx hb d_S_pushOn_90 rfl ?_
      refine lv_lload_n hx hb d_S_pushOn_91 rfl (lv_at hl 1 rfl) ?_
      refine lv_aload_n hx hb d_S_pushOn_92 rfl (lv_at hl 4 rfl) ?_
      refine va_getN (D := D) (ci := 1) (v := .ref ax) (C := "OscillatorRow$Motion") (T := T_M) (N := 2) hx hb hT i_M hown hK hP 5 rfl rfl 0 (by decide) (va_Nw.use rfl (hN _ j_57)) (fun _ h9 => h9) rfl d_S_pushOn_93 ?_
      refine lv_iload_n hx hb d_S_pushOn_96 rfl (lv_at hl 3 rfl) ?_
      refine lv_iconst (v := 1) hx hb d_S_pushOn_97 (by decide) ?_
      refine lv_isub hx hb d_S_pushOn_98 ?_
      refine top_i (y := (nI (j - 1))) (nI_p c77) ?_
      refine ra_lald (j := (j - 1)) hx hb hK hP 6 1 rfl rfl (by omega) (by omega) d_S_pushOn_99 ?_
      refine lv_lsub hx hb d_S_pushOn_100 ?_
      refine lv_lmul hx hb d_S_pushOn_101 ?_
      refine lv_lsub hx hb d_S_pushOn_102 ?_
      refine lv_lstore (lv' := [(5, .long (((((((zf j).toInt64) <<< ((4 : Int32).toInt64 &&& 63)) - (((zk j).toInt64) * (px j))) - (((zc j).toInt64) * (pv j))) + (((zq j).toInt64) * ((px (j + 1)) - (px j)))) - (((zq (j - 1)).toInt64) * ((px j) - (px (j - 1)))))), (3, .long (px j)), (0, .ref sp), (1, .int (nI j)), (2, .ref mo)]) hx hb d_S_pushOn_103 hl (by decide) rfl (fun ls hl => ?_)
      refine lv_lload hx hb d_S_pushOn_105 (lv_at hl 0 rfl) ?_
      exact re_l (v := ((((((zf j).toInt64) <<< ((4 : Int32).toInt64 &&& 63)) - (((zk j).toInt64) * (px j))) - (((zc j).toInt64) * (pv j))) + (((zq j).toInt64) * ((px (j + 1)) - (px j)))) - (((zq (j - 1)).toInt64) * ((px j) - (px (j - 1))))) () hx hb hr hlocks (by rw [zPush, if_neg (Nat.not_le.mpr c77), zP1, if_neg (Nat.not_le.mpr c50)]; rfl) (hP.sub [0, 1, 2, 3, 4, 5, 6, 7] rfl) hK (hD.sub [0, 1, 2, 3, 4, 5, 6, 7] (by decide) rfl) hS d_S_pushOn_107
set_option maxHeartbeats 4000000 in
set_option maxRecDepth 100000 in
theorem c_S_chs (l : Launch) (D : va_G) (cI cL cW cZ : ClassId) (sp : Nat) (ak : Nat) (ac : Nat) (aq : Nat) (af : Nat) (n : Nat) (zk : Nat → Int32) (zc : Nat → Int32) (zq : Nat → Int32) (zf : Nat → Int32) (mo : Nat) (ax : Nat) (av : Nat) (px : Nat → Int64) (pv : Nat → Int64) (hh : Int32) (sz : Nat) (hn : n ≤ 4) : Met l y_S_changeSpeeds w_S_changeSpeeds ({ frames := 1, cells := 0, slots := 0, locals := 26 }) (va_Pc [.ref sp, .ref mo, .int hh] (gP D vwCl (tyv cI cL cW cZ) [(sp, .inr (2, [.int (nI n), .ref ak, .ref ac, .ref aq, .ref af])), (ak, .inl (cI, n, .inl zk)), (ac, .inl (cI, n, .inl zc)), (aq, .inl (cI, n, .inl zq)), (af, .inl (cI, n, .inl zf)), (mo, .inr (1, [.ref ax, .ref av])), (ax, .inl (cL, n, .inr (.inl px))), (av, .inl (cL, n, .inr (.inl pv)))] sz)) (va_Qi (fun (r : Int32) (u : Unit) => r = zAll (zDv n zk zc zq zf hh px pv) n) (fun u t => gB D vwCl (tyv cI cL cW cZ) (va_A [(sp, .inr (2, [.int (nI n), .ref ak, .ref ac, .ref aq, .ref af])), (ak, .inl (cI, n, .inl zk)), (ac, .inl (cI, n, .inl zc)), (aq, .inl (cI, n, .inl zq)), (af, .inl (cI, n, .inl zf)), (mo, .inr (1, [.ref ax, .ref av])), (ax, .inl (cL, n, .inr (.inl px))), (av, .inl (cL, n, .inr (.inl pv)))] sz) [(sp, .inr (2, [.int (nI n), .ref ak, .ref ac, .ref aq, .ref af])), (ak, .inl (cI, n, .inl zk)), (ac, .inl (cI, n, .inl zc)), (aq, .inl (cI, n, .inl zq)), (af, .inl (cI, n, .inl zf)), (mo, .inr (1, [.ref ax, .ref av])), (ax, .inl (cL, n, .inr (.inl px))), (av, .inl (cL, n, .inr (.inl (zDv n zk zc zq zf hh px pv))))] t) (va_A [(sp, .inr (2, [.int (nI n), .ref ak, .ref ac, .ref aq, .ref af])), (ak, .inl (cI, n, .inl zk)), (ac, .inl (cI, n, .inl zc)), (aq, .inl (cI, n, .inl zq)), (af, .inl (cI, n, .inl zf)), (mo, .inr (1, [.ref ax, .ref av])), (ax, .inl (cL, n, .inr (.inl px))), (av, .inl (cL, n, .inr (.inl pv)))] sz)) 0 0 (va_A [(sp, .inr (2, [.int (nI n), .ref ak, .ref ac, .ref aq, .ref af])), (ak, .inl (cI, n, .inl zk)), (ac, .inl (cI, n, .inl zc)), (aq, .inl (cI, n, .inl zq)), (af, .inl (cI, n, .inl zf)), (mo, .inr (1, [.ref ax, .ref av])), (ax, .inl (cL, n, .inr (.inl px))), (av, .inl (cL, n, .inr (.inl pv)))] sz) := by
  refine met_go (cc := prog_4_method_4_code) (maxL := 7) (ret := (some .boolean)) (QA := fun A => va_Qi (fun (r : Int32) (u : Unit) => r = zAll (zDv n zk zc zq zf hh px pv) n) (fun u t => gB D vwCl (tyv cI cL cW cZ) A [(sp, .inr (2, [.int (nI n), .ref ak, .ref ac, .ref aq, .ref af])), (ak, .inl (cI, n, .inl zk)), (ac, .inl (cI, n, .inl zc)), (aq, .inl (cI, n, .inl zq)), (af, .inl (cI, n, .inl zf)), (mo, .inr (1, [.ref ax, .ref av])), (ax, .inl (cL, n, .inr (.inl px))), (av, .inl (cL, n, .inr (.inl (zDv n zk zc zq zf hh px pv))))] t) A) (by decide) (Nat.le_of_ble_eq_true rfl) ?_
  intro p e s m below meth c A ls hx hb hr hml hT hN hown hlocks hin hl hP hK hD hA hS
  have hl : lv_has ls 7 [(0, .ref sp), (1, .ref mo), (2, .int hh)] := hl
  refine lv_iconst (v := zAll (zDv n zk zc zq zf hh px pv) 0) hx hb d_S_changeSpeeds_0 rfl ?_
  refine lv_istore_n (lv' := [(3, .int (zAll (zDv n zk zc zq zf hh px pv) 0)), (0, .ref sp), (1, .ref mo), (2, .int hh)]) hx hb d_S_changeSpeeds_1 rfl hl (by decide) rfl (fun ls hl => ?_)
  refine lv_iconst (v := nI 0) hx hb d_S_changeSpeeds_2 (by decide) ?_
  refine lv_istore (lv' := [(4, .int (nI 0)), (3, .int (zAll (zDv n zk zc zq zf hh px pv) 0)), (0, .ref sp), (1, .ref mo), (2, .int hh)]) hx hb d_S_changeSpeeds_3 hl (by decide) rfl (fun ls hl => ?_)
  have hP : va_P D vwCl [(sp, .inr (2, [.int (nI n), .ref ak, .ref ac, .ref aq, .ref af])), (ak, .inl (cI, n, .inl zk)), (ac, .inl (cI, n, .inl zc)), (aq, .inl (cI, n, .inl zq)), (af, .inl (cI, n, .inl zf)), (mo, .inr (1, [.ref ax, .ref av])), (ax, .inl (cL, n, .inr (.inl px))), (av, .inl (cL, n, .inr (.inl (zMix 0 (zDv n zk zc zq zf hh px pv) pv))))] s.heap := by rw [zMix_0]; exact hP
  have hD : va_D A [(sp, .inr (2, [.int (nI n), .ref ak, .ref ac, .ref aq, .ref af])), (ak, .inl (cI, n, .inl zk)), (ac, .inl (cI, n, .inl zc)), (aq, .inl (cI, n, .inl zq)), (af, .inl (cI, n, .inl zf)), (mo, .inr (1, [.ref ax, .ref av])), (ax, .inl (cL, n, .inr (.inl px))), (av, .inl (cL, n, .inr (.inl (zMix 0 (zDv n zk zc zq zf hh px pv) pv))))] := by rw [zMix_0]; exact hD
  refine wp_loop (α := Nat) (I := fun k x H locs ls => (x ≤ n ∧ n < x + k) ∧ va_P D vwCl [(sp, .inr (2, [.int (nI n), .ref ak, .ref ac, .ref aq, .ref af])), (ak, .inl (cI, n, .inl zk)), (ac, .inl (cI, n, .inl zc)), (aq, .inl (cI, n, .inl zq)), (af, .inl (cI, n, .inl zf)), (mo, .inr (1, [.ref ax, .ref av])), (ax, .inl (cL, n, .inr (.inl px))), (av, .inl (cL, n, .inr (.inl (zMix x (zDv n zk zc zq zf hh px pv) pv))))] H ∧ va_D A [(sp, .inr (2, [.int (nI n), .ref ak, .ref ac, .ref aq, .ref af])), (ak, .inl (cI, n, .inl zk)), (ac, .inl (cI, n, .inl zc)), (aq, .inl (cI, n, .inl zq)), (af, .inl (cI, n, .inl zf)), (mo, .inr (1, [.ref ax, .ref av])), (ax, .inl (cL, n, .inr (.inl px))), (av, .inl (cL, n, .inr (.inl (zMix x (zDv n zk zc zq zf hh px pv) pv))))] ∧ va_S A s.heap H locs ∧ lv_has ls 7 [(0, .ref sp), (1, .ref mo), (2, .int hh), (3, .int (zAll (zDv n zk zc zq zf hh px pv) x)), (4, .int (nI x))]) ?_ ?_ (n + 1) 0 ⟨(by omega), hP.sub [0, 1, 2, 3, 4, 5, 6, 7] rfl, hD.sub [0, 1, 2, 3, 4, 5, 6, 7] (by decide) rfl, hS, lv_sub hl [2, 3, 4, 1, 0] rfl⟩
  · intro x H locs ls h; have h9 := h.1; (try dsimp only at h9); omega
  · intro k x H locs ls h ih
    obtain ⟨i, rfl⟩ : ∃ z, z = x := ⟨_, rfl⟩
    obtain ⟨hk, hP, hD, hS, hl⟩ := h
    have hk : i ≤ n ∧ n < i + (k + 1) := hk
    have hP : va_P D vwCl [(sp, .inr (2, [.int (nI n), .ref ak, .ref ac, .ref aq, .ref af])), (ak, .inl (cI, n, .inl zk)), (ac, .inl (cI, n, .inl zc)), (aq, .inl (cI, n, .inl zq)), (af, .inl (cI, n, .inl zf)), (mo, .inr (1, [.ref ax, .ref av])), (ax, .inl (cL, n, .inr (.inl px))), (av, .inl (cL, n, .inr (.inl (zMix i (zDv n zk zc zq zf hh px pv) pv))))] H := hP
    have hD : va_D A [(sp, .inr (2, [.int (nI n), .ref ak, .ref ac, .ref aq, .ref af])), (ak, .inl (cI, n, .inl zk)), (ac, .inl (cI, n, .inl zc)), (aq, .inl (cI, n, .inl zq)), (af, .inl (cI, n, .inl zf)), (mo, .inr (1, [.ref ax, .ref av])), (ax, .inl (cL, n, .inr (.inl px))), (av, .inl (cL, n, .inr (.inl (zMix i (zDv n zk zc zq zf hh px pv) pv))))] := hD
    have hl : lv_has ls 7 [(0, .ref sp), (1, .ref mo), (2, .int hh), (3, .int (zAll (zDv n zk zc zq zf hh px pv) i)), (4, .int (nI i))] := hl
    refine lv_iload hx hb d_S_changeSpeeds_5 (lv_at hl 4 rfl) ?_
    refine lv_aload_n hx hb d_S_changeSpeeds_7 rfl (lv_at hl 0 rfl) ?_
    refine va_get (D := D) (ci := 2) (v := .int (nI n)) (C := "OscillatorRow$Springs") (T := T_S) (N := 5) hx hb hT i_S hown hK hP 0 rfl rfl 0 (by decide) (hT _ k_29) (fun _ h9 => h9) rfl d_S_changeSpeeds_8 ?_
    refine lv_icmp_ge (tgt := 72) hx hb d_S_changeSpeeds_11 (by decide) (fun c11 => ?_) (fun c11 => ?_)
    · have c11 := nI_leM c11 (by omega) (by omega)
      have ein : n = i := by omega
      subst ein
      refine lv_iload_n hx hb d_S_changeSpeeds_72 rfl (lv_at hl 3 rfl) ?_
      obtain ⟨hP, hD⟩ := va_reL (zDv n zk zc zq zf hh px pv) 7 hP hD rfl (fun j hj => zMix_lt hj)
      have hP : va_P D vwCl [(sp, .inr (2, [.int (nI n), .ref ak, .ref ac, .ref aq, .ref af])), (ak, .inl (cI, n, .inl zk)), (ac, .inl (cI, n, .inl zc)), (aq, .inl (cI, n, .inl zq)), (af, .inl (cI, n, .inl zf)), (mo, .inr (1, [.ref ax, .ref av])), (ax, .inl (cL, n, .inr (.inl px))), (av, .inl (cL, n, .inr (.inl (zDv n zk zc zq zf hh px pv))))] H := hP
      have hD : va_D A [(sp, .inr (2, [.int (nI n), .ref ak, .ref ac, .ref aq, .ref af])), (ak, .inl (cI, n, .inl zk)), (ac, .inl (cI, n, .inl zc)), (aq, .inl (cI, n, .inl zq)), (af, .inl (cI, n, .inl zf)), (mo, .inr (1, [.ref ax, .ref av])), (ax, .inl (cL, n, .inr (.inl px))), (av, .inl (cL, n, .inr (.inl (zDv n zk zc zq zf hh px pv))))] := hD
      exact re_z (v := zAll (zDv n zk zc zq zf hh px pv) n) () hx hb hr (nz_01 (zAll_01 _ _)) hlocks rfl (hP.sub [0, 1, 2, 3, 4, 5, 6, 7] rfl) hK (hD.sub [0, 1, 2, 3, 4, 5, 6, 7] (by decide) rfl) hS d_S_changeSpeeds_73
    · have c11 := nI_nleM c11 (by omega) (by omega)
      refine lv_aload_n hx hb d_S_changeSpeeds_14 rfl (lv_at hl 0 rfl) ?_
      refine lv_iload hx hb d_S_changeSpeeds_15 (lv_at hl 4 rfl) ?_
      refine lv_aload_n hx hb d_S_changeSpeeds_17 rfl (lv_at hl 1 rfl) ?_
      have hPc := hP.sub (ws' := [(sp, .inr (2, [.int (nI n), .ref ak, .ref ac, .ref aq, .ref af])), (ak, .inl (cI, n, .inl zk)), (ac, .inl (cI, n, .inl zc)), (aq, .inl (cI, n, .inl zq)), (af, .inl (cI, n, .inl zf)), (mo, .inr (1, [.ref ax, .ref av])), (ax, .inl (cL, n, .inr (.inl px))), (av, .inl (cL, n, .inr (.inl (zMix i (zDv n zk zc zq zf hh px pv) pv))))]) [0, 1, 2, 3, 4, 5, 6, 7] rfl
      have hDc := hD.sub (ws' := [(sp, .inr (2, [.int (nI n), .ref ak, .ref ac, .ref aq, .ref af])), (ak, .inl (cI, n, .inl zk)), (ac, .inl (cI, n, .inl zc)), (aq, .inl (cI, n, .inl zq)), (af, .inl (cI, n, .inl zf)), (mo, .inr (1, [.ref ax, .ref av])), (ax, .inl (cL, n, .inr (.inl px))), (av, .inl (cL, n, .inr (.inl (zMix i (zDv n zk zc zq zf hh px pv) pv))))]) [0, 1, 2, 3, 4, 5, 6, 7] (by decide) rfl
      refine gc_l (w1 := fun (u : Unit) => [(sp, .inr (2, [.int (nI n), .ref ak, .ref ac, .ref aq, .ref af])), (ak, .inl (cI, n, .inl zk)), (ac, .inl (cI, n, .inl zc)), (aq, .inl (cI, n, .inl zq)), (af, .inl (cI, n, .inl zf)), (mo, .inr (1, [.ref ax, .ref av])), (ax, .inl (cL, n, .inr (.inl px))), (av, .inl (cL, n, .inr (.inl (zMix i (zDv n zk zc zq zf hh px pv) pv))))]) (wc := [(sp, .inr (2, [.int (nI n), .ref ak, .ref ac, .ref aq, .ref af])), (ak, .inl (cI, n, .inl zk)), (ac, .inl (cI, n, .inl zc)), (aq, .inl (cI, n, .inl zq)), (af, .inl (cI, n, .inl zf)), (mo, .inr (1, [.ref ax, .ref av])), (ax, .inl (cL, n, .inr (.inl px))), (av, .inl (cL, n, .inr (.inl (zMix i (zDv n zk zc zq zf hh px pv) pv))))]) (wr := []) hP hD hS hA [0, 1, 2, 3, 4, 5, 6, 7] [] rfl rfl (by decide) (by decide) (va_runV (As := [.int (nI i), .ref mo]) (rest := []) ⟨hx, hb, hml, hown, hT⟩ (c_S_push l D cI cL cW cZ sp ak ac aq af n zk zc zq zf mo ax av px (zMix i (zDv n zk zc zq zf hh px pv) pv) i H.size c11 hn) (cwV 2 hT (good_V k_232 k_233 k_234 k_3 k_235) rfl rfl rfl (by decide +kernel) ⟨Nat.le_of_ble_eq_true rfl, Nat.le_of_ble_eq_true rfl⟩) (pre_V hPc hDc hK hN (ci := 2) rfl rfl) rfl rfl hl.1 rfl (lv_room (Nat.le_of_ble_eq_true rfl)) d_S_changeSpeeds_18 ⟨(Nat.le_of_ble_eq_true rfl), (Nat.le_of_ble_eq_true rfl)⟩) (fun r u H locs hw hP hD hS => ?_)
      try dsimp only at hw
      have hP : va_P D vwCl [(sp, .inr (2, [.int (nI n), .ref ak, .ref ac, .ref aq, .ref af])), (ak, .inl (cI, n, .inl zk)), (ac, .inl (cI, n, .inl zc)), (aq, .inl (cI, n, .inl zq)), (af, .inl (cI, n, .inl zf)), (mo, .inr (1, [.ref ax, .ref av])), (ax, .inl (cL, n, .inr (.inl px))), (av, .inl (cL, n, .inr (.inl (zMix i (zDv n zk zc zq zf hh px pv) pv))))] H := hP
      have hD : va_D A [(sp, .inr (2, [.int (nI n), .ref ak, .ref ac, .ref aq, .ref af])), (ak, .inl (cI, n, .inl zk)), (ac, .inl (cI, n, .inl zc)), (aq, .inl (cI, n, .inl zq)), (af, .inl (cI, n, .inl zf)), (mo, .inr (1, [.ref ax, .ref av])), (ax, .inl (cL, n, .inr (.inl px))), (av, .inl (cL, n, .inr (.inl (zMix i (zDv n zk zc zq zf hh px pv) pv))))] := hD
      subst hw
      refine top_l (y := (zPush n zk zc zq zf px pv i)) (zPush_v (zMix_ge (Nat.le_refl i))) ?_
      refine lv_iconst (v := 4) hx hb d_S_changeSpeeds_21 (by decide) ?_
      refine lv_iload_n hx hb d_S_changeSpeeds_22 rfl (lv_at hl 2 rfl) ?_
      refine lv_iadd hx hb d_S_changeSpeeds_23 ?_
      refine lv_iconst (v := 1) hx hb d_S_changeSpeeds_24 (by decide) ?_
      refine lv_iadd hx hb d_S_changeSpeeds_25 ?_
      have hPc := hP.sub (ws' := []) [] rfl
      have hDc := hD.sub (ws' := []) [] (by decide) rfl
      refine gc_l (w1 := fun (u : Unit) => []) (wc := []) (wr := [(sp, .inr (2, [.int (nI n), .ref ak, .ref ac, .ref aq, .ref af])), (ak, .inl (cI, n, .inl zk)), (ac, .inl (cI, n, .inl zc)), (aq, .inl (cI, n, .inl zq)), (af, .inl (cI, n, .inl zf)), (mo, .inr (1, [.ref ax, .ref av])), (ax, .inl (cL, n, .inr (.inl px))), (av, .inl (cL, n, .inr (.inl (zMix i (zDv n zk zc zq zf hh px pv) pv))))]) hP hD hS hA [] [0, 1, 2, 3, 4, 5, 6, 7] rfl rfl (by decide) (by decide) (va_runS (As := [.long (zPush n zk zc zq zf px pv i), .int ((4 + hh) + 1)]) (rest := []) ⟨hx, hb, hml, hown, hT⟩ (c_S_rnd l D cI cL cW cZ (zPush n zk zc zq zf px pv i) ((4 + hh) + 1) H.size) (cwS 2 hT (good_S k_236 k_237 k_3 k_238) rfl rfl rfl (by decide +kernel) ⟨Nat.le_of_ble_eq_true rfl, Nat.le_of_ble_eq_true rfl⟩) (pre_S hPc hDc hK hN) rfl rfl hl.1 rfl (lv_room (Nat.le_of_ble_eq_true rfl)) d_S_changeSpeeds_26 ⟨(Nat.le_of_ble_eq_true rfl), (Nat.le_of_ble_eq_true rfl)⟩) (fun r u H locs hw hP hD hS => ?_)
      try dsimp only at hw
      have hP : va_P D vwCl [(sp, .inr (2, [.int (nI n), .ref ak, .ref ac, .ref aq, .ref af])), (ak, .inl (cI, n, .inl zk)), (ac, .inl (cI, n, .inl zc)), (aq, .inl (cI, n, .inl zq)), (af, .inl (cI, n, .inl zf)), (mo, .inr (1, [.ref ax, .ref av])), (ax, .inl (cL, n, .inr (.inl px))), (av, .inl (cL, n, .inr (.inl (zMix i (zDv n zk zc zq zf hh px pv) pv))))] H := hP
      have hD : va_D A [(sp, .inr (2, [.int (nI n), .ref ak, .ref ac, .ref aq, .ref af])), (ak, .inl (cI, n, .inl zk)), (ac, .inl (cI, n, .inl zc)), (aq, .inl (cI, n, .inl zq)), (af, .inl (cI, n, .inl zf)), (mo, .inr (1, [.ref ax, .ref av])), (ax, .inl (cL, n, .inr (.inl px))), (av, .inl (cL, n, .inr (.inl (zMix i (zDv n zk zc zq zf hh px pv) pv))))] := hD
      subst hw
      refine lv_lstore (lv' := [(5, .long (zRnd (zPush n zk zc zq zf px pv i) ((4 + hh) + 1))), (0, .ref sp), (1, .ref mo), (2, .int hh), (3, .int (zAll (zDv n zk zc zq zf hh px pv) i)), (4, .int (nI i))]) hx hb d_S_changeSpeeds_29 hl (by decide) rfl (fun ls hl => ?_)
      refine lv_aload_n hx hb d_S_changeSpeeds_31 rfl (lv_at hl 2 rfl) ?_
      refine va_getN (D := D) (ci := 1) (v := .ref av) (C := "OscillatorRow$Motion") (T := T_M) (N := 2) hx hb hT i_M hown hK hP 5 rfl rfl 1 (by decide) (va_Nw.use rfl (hN _ j_60)) (fun _ h9 => h9) rfl d_S_changeSpeeds_32 ?_
      refine lv_iload hx hb d_S_changeSpeeds_35 (lv_at hl 5 rfl) ?_
      refine lv_dup2_11 hx hb d_S_changeSpeeds_37 rfl rfl ?_
      refine ra_lald (j := i) hx hb hK hP 7 1 rfl rfl (by omega) (by omega) d_S_changeSpeeds_38 ?_
      refine top_l (y := (pv i)) (zMix_ge (Nat.le_refl i)) ?_
      refine lv_lload hx hb d_S_changeSpeeds_39 (lv_at hl 0 rfl) ?_
      refine lv_ladd hx hb d_S_changeSpeeds_41 ?_
      refine ra_last (j := i) hx hb hK hP hD hS 7 1 rfl rfl (by omega) (by omega) d_S_changeSpeeds_42 (fun H locs hP hD hS => ?_)
      have hP : va_P D vwCl [(sp, .inr (2, [.int (nI n), .ref ak, .ref ac, .ref aq, .ref af])), (ak, .inl (cI, n, .inl zk)), (ac, .inl (cI, n, .inl zc)), (aq, .inl (cI, n, .inl zq)), (af, .inl (cI, n, .inl zf)), (mo, .inr (1, [.ref ax, .ref av])), (ax, .inl (cL, n, .inr (.inl px))), (av, .inl (cL, n, .inr (.inl (vp_updL (zMix i (zDv n zk zc zq zf hh px pv) pv) i ((pv i) + (zRnd (zPush n zk zc zq zf px pv i) ((4 + hh) + 1)))))))] H := hP
      have hD : va_D A [(sp, .inr (2, [.int (nI n), .ref ak, .ref ac, .ref aq, .ref af])), (ak, .inl (cI, n, .inl zk)), (ac, .inl (cI, n, .inl zc)), (aq, .inl (cI, n, .inl zq)), (af, .inl (cI, n, .inl zf)), (mo, .inr (1, [.ref ax, .ref av])), (ax, .inl (cL, n, .inr (.inl px))), (av, .inl (cL, n, .inr (.inl (vp_updL (zMix i (zDv n zk zc zq zf hh px pv) pv) i ((pv i) + (zRnd (zPush n zk zc zq zf px pv i) ((4 + hh) + 1)))))))] := hD
      have hP : va_P D vwCl [(sp, .inr (2, [.int (nI n), .ref ak, .ref ac, .ref aq, .ref af])), (ak, .inl (cI, n, .inl zk)), (ac, .inl (cI, n, .inl zc)), (aq, .inl (cI, n, .inl zq)), (af, .inl (cI, n, .inl zf)), (mo, .inr (1, [.ref ax, .ref av])), (ax, .inl (cL, n, .inr (.inl px))), (av, .inl (cL, n, .inr (.inl (zMix (i + 1) (zDv n zk zc zq zf hh px pv) pv))))] H := by rw [zMix_put]; exact hP
      have hD : va_D A [(sp, .inr (2, [.int (nI n), .ref ak, .ref ac, .ref aq, .ref af])), (ak, .inl (cI, n, .inl zk)), (ac, .inl (cI, n, .inl zc)), (aq, .inl (cI, n, .inl zq)), (af, .inl (cI, n, .inl zf)), (mo, .inr (1, [.ref ax, .ref av])), (ax, .inl (cL, n, .inr (.inl px))), (av, .inl (cL, n, .inr (.inl (zMix (i + 1) (zDv n zk zc zq zf hh px pv) pv))))] := by rw [zMix_put]; exact hD
      refine lv_iload_n hx hb d_S_changeSpeeds_43 rfl (lv_at hl 4 rfl) ?_
      refine lv_if_eq (tgt := 64) hx hb d_S_changeSpeeds_44 (by decide) (fun c44 => ?_) (fun c44 => ?_)
      · refine lv_iconst (v := 0) hx hb d_S_changeSpeeds_64 (by decide) ?_
        refine top_i (y := (zAll (zDv n zk zc zq zf hh px pv) (i + 1))) (by rw [zAll, if_pos c44]) ?_
        refine lv_istore_n (lv' := [(3, .int (zAll (zDv n zk zc zq zf hh px pv) (i + 1))), (5, .long (zRnd (zPush n zk zc zq zf px pv i) ((4 + hh) + 1))), (0, .ref sp), (1, .ref mo), (2, .int hh), (4, .int (nI i))]) hx hb d_S_changeSpeeds_65 rfl hl (by decide) rfl (fun ls hl => ?_)
        refine lv_iinc (v := (nI (i + 1))) (lv' := [(4, .int (nI (i + 1))), (3, .int (zAll (zDv n zk zc zq zf hh px pv) (i + 1))), (5, .long (zRnd (zPush n zk zc zq zf px pv i) ((4 + hh) + 1))), (0, .ref sp), (1, .ref mo), (2, .int hh)]) hx hb d_S_changeSpeeds_66 hl (k := 5) rfl (nI_1 i) (by decide) rfl (fun ls hl => ?_)
        refine lv_goto (tgt := 5) hx hb d_S_changeSpeeds_69 (by decide) ?_
        exact ih (i + 1) _ _ _ ⟨(by omega), hP.sub [0, 1, 2, 3, 4, 5, 6, 7] rfl, hD.sub [0, 1, 2, 3, 4, 5, 6, 7] (by decide) rfl, hS, lv_sub hl [3, 4, 5, 1, 0] rfl⟩
      · refine lv_aload_n hx hb d_S_changeSpeeds_47 rfl (lv_at hl 2 rfl) ?_
        refine va_getN (D := D) (ci := 1) (v := .ref av) (C := "OscillatorRow$Motion") (T := T_M) (N := 2) hx hb hT i_M hown hK hP 5 rfl rfl 1 (by decide) (va_Nw.use rfl (hN _ j_60)) (fun _ h9 => h9) rfl d_S_changeSpeeds_48 ?_
        refine lv_iload hx hb d_S_changeSpeeds_51 (lv_at hl 5 rfl) ?_
        refine ra_lald (j := i) hx hb hK hP 7 1 rfl rfl (by omega) (by omega) d_S_changeSpeeds_53 ?_
        refine top_l (y := (zDv n zk zc zq zf hh px pv i)) (zMix_lt (Nat.lt_succ_self i)) ?_
        have hPc := hP.sub (ws' := []) [] rfl
        have hDc := hD.sub (ws' := []) [] (by decide) rfl
        refine gc_i (w1 := fun (u : Unit) => []) (wc := []) (wr := [(sp, .inr (2, [.int (nI n), .ref ak, .ref ac, .ref aq, .ref af])), (ak, .inl (cI, n, .inl zk)), (ac, .inl (cI, n, .inl zc)), (aq, .inl (cI, n, .inl zq)), (af, .inl (cI, n, .inl zf)), (mo, .inr (1, [.ref ax, .ref av])), (ax, .inl (cL, n, .inr (.inl px))), (av, .inl (cL, n, .inr (.inl (zMix (i + 1) (zDv n zk zc zq zf hh px pv) pv))))]) hP hD hS hA [] [0, 1, 2, 3, 4, 5, 6, 7] rfl rfl (by decide) (by decide) (va_runS (As := [.long (zDv n zk zc zq zf hh px pv i)]) (rest := []) ⟨hx, hb, hml, hown, hT⟩ (c_S_near l D cI cL cW cZ (zDv n zk zc zq zf hh px pv i) H.size) (cwS 1 hT (good_S k_239 k_240 k_3 k_241) rfl rfl rfl (by decide +kernel) ⟨Nat.le_of_ble_eq_true rfl, Nat.le_of_ble_eq_true rfl⟩) (pre_S hPc hDc hK hN) rfl rfl hl.1 rfl (lv_room (Nat.le_of_ble_eq_true rfl)) d_S_changeSpeeds_54 ⟨(Nat.le_of_ble_eq_true rfl), (Nat.le_of_ble_eq_true rfl)⟩) (fun r u H locs hw hP hD hS => ?_)
        try dsimp only at hw
        have hP : va_P D vwCl [(sp, .inr (2, [.int (nI n), .ref ak, .ref ac, .ref aq, .ref af])), (ak, .inl (cI, n, .inl zk)), (ac, .inl (cI, n, .inl zc)), (aq, .inl (cI, n, .inl zq)), (af, .inl (cI, n, .inl zf)), (mo, .inr (1, [.ref ax, .ref av])), (ax, .inl (cL, n, .inr (.inl px))), (av, .inl (cL, n, .inr (.inl (zMix (i + 1) (zDv n zk zc zq zf hh px pv) pv))))] H := hP
        have hD : va_D A [(sp, .inr (2, [.int (nI n), .ref ak, .ref ac, .ref aq, .ref af])), (ak, .inl (cI, n, .inl zk)), (ac, .inl (cI, n, .inl zc)), (aq, .inl (cI, n, .inl zq)), (af, .inl (cI, n, .inl zf)), (mo, .inr (1, [.ref ax, .ref av])), (ax, .inl (cL, n, .inr (.inl px))), (av, .inl (cL, n, .inr (.inl (zMix (i + 1) (zDv n zk zc zq zf hh px pv) pv))))] := hD
        subst hw
        refine lv_if_eq (tgt := 64) hx hb d_S_changeSpeeds_57 (by decide) (fun c57 => ?_) (fun c57 => ?_)
        · refine lv_iconst (v := 0) hx hb d_S_changeSpeeds_64 (by decide) ?_
          refine top_i (y := (zAll (zDv n zk zc zq zf hh px pv) (i + 1))) (by rw [zAll, if_neg c44, c57]) ?_
          refine lv_istore_n (lv' := [(3, .int (zAll (zDv n zk zc zq zf hh px pv) (i + 1))), (5, .long (zRnd (zPush n zk zc zq zf px pv i) ((4 + hh) + 1))), (0, .ref sp), (1, .ref mo), (2, .int hh), (4, .int (nI i))]) hx hb d_S_changeSpeeds_65 rfl hl (by decide) rfl (fun ls hl => ?_)
          refine lv_iinc (v := (nI (i + 1))) (lv' := [(4, .int (nI (i + 1))), (3, .int (zAll (zDv n zk zc zq zf hh px pv) (i + 1))), (5, .long (zRnd (zPush n zk zc zq zf px pv i) ((4 + hh) + 1))), (0, .ref sp), (1, .ref mo), (2, .int hh)]) hx hb d_S_changeSpeeds_66 hl (k := 5) rfl (nI_1 i) (by decide) rfl (fun ls hl => ?_)
          refine lv_goto (tgt := 5) hx hb d_S_changeSpeeds_69 (by decide) ?_
          exact ih (i + 1) _ _ _ ⟨(by omega), hP.sub [0, 1, 2, 3, 4, 5, 6, 7] rfl, hD.sub [0, 1, 2, 3, 4, 5, 6, 7] (by decide) rfl, hS, lv_sub hl [3, 4, 5, 1, 0] rfl⟩
        · refine lv_iconst (v := 1) hx hb d_S_changeSpeeds_60 (by decide) ?_
          refine lv_goto (tgt := 65) hx hb d_S_changeSpeeds_61 (by decide) ?_
          refine top_i (y := (zAll (zDv n zk zc zq zf hh px pv) (i + 1))) (by rw [zAll, if_neg c44, zNear_1 c57]) ?_
          refine lv_istore_n (lv' := [(3, .int (zAll (zDv n zk zc zq zf hh px pv) (i + 1))), (5, .long (zRnd (zPush n zk zc zq zf px pv i) ((4 + hh) + 1))), (0, .ref sp), (1, .ref mo), (2, .int hh), (4, .int (nI i))]) hx hb d_S_changeSpeeds_65 rfl hl (by decide) rfl (fun ls hl => ?_)
          refine lv_iinc (v := (nI (i + 1))) (lv' := [(4, .int (nI (i + 1))), (3, .int (zAll (zDv n zk zc zq zf hh px pv) (i + 1))), (5, .long (zRnd (zPush n zk zc zq zf px pv i) ((4 + hh) + 1))), (0, .ref sp), (1, .ref mo), (2, .int hh)]) hx hb d_S_changeSpeeds_66 hl (k := 5) rfl (nI_1 i) (by decide) rfl (fun ls hl => ?_)
          refine lv_goto (tgt := 5) hx hb d_S_changeSpeeds_69 (by decide) ?_
          exact ih (i + 1) _ _ _ ⟨(by omega), hP.sub [0, 1, 2, 3, 4, 5, 6, 7] rfl, hD.sub [0, 1, 2, 3, 4, 5, 6, 7] (by decide) rfl, hS, lv_sub hl [3, 4, 5, 1, 0] rfl⟩
set_option maxHeartbeats 4000000 in
set_option maxRecDepth 100000 in
theorem c_S_chp (l : Launch) (D : va_G) (cI cL cW cZ : ClassId) (sp : Nat) (ak : Nat) (ac : Nat) (aq : Nat) (af : Nat) (n : Nat) (zk : Nat → Int32) (zc : Nat → Int32) (zq : Nat → Int32) (zf : Nat → Int32) (mo : Nat) (ax : Nat) (av : Nat) (px : Nat → Int64) (pv : Nat → Int64) (hh : Int32) (sz : Nat) (hn : n ≤ 4) : Met l y_S_changePlaces w_S_changePlaces ({ frames := 1, cells := 0, slots := 0, locals := 24 }) (va_Pc [.ref sp, .ref mo, .int hh] (gP D vwCl (tyv cI cL cW cZ) [(sp, .inr (2, [.int (nI n), .ref ak, .ref ac, .ref aq, .ref af])), (ak, .inl (cI, n, .inl zk)), (ac, .inl (cI, n, .inl zc)), (aq, .inl (cI, n, .inl zq)), (af, .inl (cI, n, .inl zf)), (mo, .inr (1, [.ref ax, .ref av])), (ax, .inl (cL, n, .inr (.inl px))), (av, .inl (cL, n, .inr (.inl pv)))] sz)) (va_Qi (fun (r : Int32) (u : Unit) => r = zAll (zDx hh px pv) n) (fun u t => gB D vwCl (tyv cI cL cW cZ) (va_A [(sp, .inr (2, [.int (nI n), .ref ak, .ref ac, .ref aq, .ref af])), (ak, .inl (cI, n, .inl zk)), (ac, .inl (cI, n, .inl zc)), (aq, .inl (cI, n, .inl zq)), (af, .inl (cI, n, .inl zf)), (mo, .inr (1, [.ref ax, .ref av])), (ax, .inl (cL, n, .inr (.inl px))), (av, .inl (cL, n, .inr (.inl pv)))] sz) [(sp, .inr (2, [.int (nI n), .ref ak, .ref ac, .ref aq, .ref af])), (ak, .inl (cI, n, .inl zk)), (ac, .inl (cI, n, .inl zc)), (aq, .inl (cI, n, .inl zq)), (af, .inl (cI, n, .inl zf)), (mo, .inr (1, [.ref ax, .ref av])), (ax, .inl (cL, n, .inr (.inl (zDx hh px pv)))), (av, .inl (cL, n, .inr (.inl pv)))] t) (va_A [(sp, .inr (2, [.int (nI n), .ref ak, .ref ac, .ref aq, .ref af])), (ak, .inl (cI, n, .inl zk)), (ac, .inl (cI, n, .inl zc)), (aq, .inl (cI, n, .inl zq)), (af, .inl (cI, n, .inl zf)), (mo, .inr (1, [.ref ax, .ref av])), (ax, .inl (cL, n, .inr (.inl px))), (av, .inl (cL, n, .inr (.inl pv)))] sz)) 0 0 (va_A [(sp, .inr (2, [.int (nI n), .ref ak, .ref ac, .ref aq, .ref af])), (ak, .inl (cI, n, .inl zk)), (ac, .inl (cI, n, .inl zc)), (aq, .inl (cI, n, .inl zq)), (af, .inl (cI, n, .inl zf)), (mo, .inr (1, [.ref ax, .ref av])), (ax, .inl (cL, n, .inr (.inl px))), (av, .inl (cL, n, .inr (.inl pv)))] sz) := by
  refine met_go (cc := prog_4_method_5_code) (maxL := 5) (ret := (some .boolean)) (QA := fun A => va_Qi (fun (r : Int32) (u : Unit) => r = zAll (zDx hh px pv) n) (fun u t => gB D vwCl (tyv cI cL cW cZ) A [(sp, .inr (2, [.int (nI n), .ref ak, .ref ac, .ref aq, .ref af])), (ak, .inl (cI, n, .inl zk)), (ac, .inl (cI, n, .inl zc)), (aq, .inl (cI, n, .inl zq)), (af, .inl (cI, n, .inl zf)), (mo, .inr (1, [.ref ax, .ref av])), (ax, .inl (cL, n, .inr (.inl (zDx hh px pv)))), (av, .inl (cL, n, .inr (.inl pv)))] t) A) (by decide) (Nat.le_of_ble_eq_true rfl) ?_
  intro p e s m below meth c A ls hx hb hr hml hT hN hown hlocks hin hl hP hK hD hA hS
  have hl : lv_has ls 5 [(0, .ref sp), (1, .ref mo), (2, .int hh)] := hl
  refine lv_iconst (v := zAll (zDx hh px pv) 0) hx hb d_S_changePlaces_0 rfl ?_
  refine lv_istore_n (lv' := [(3, .int (zAll (zDx hh px pv) 0)), (0, .ref sp), (1, .ref mo), (2, .int hh)]) hx hb d_S_changePlaces_1 rfl hl (by decide) rfl (fun ls hl => ?_)
  refine lv_iconst (v := nI 0) hx hb d_S_changePlaces_2 (by decide) ?_
  refine lv_istore (lv' := [(4, .int (nI 0)), (3, .int (zAll (zDx hh px pv) 0)), (0, .ref sp), (1, .ref mo), (2, .int hh)]) hx hb d_S_changePlaces_3 hl (by decide) rfl (fun ls hl => ?_)
  have hP : va_P D vwCl [(sp, .inr (2, [.int (nI n), .ref ak, .ref ac, .ref aq, .ref af])), (ak, .inl (cI, n, .inl zk)), (ac, .inl (cI, n, .inl zc)), (aq, .inl (cI, n, .inl zq)), (af, .inl (cI, n, .inl zf)), (mo, .inr (1, [.ref ax, .ref av])), (ax, .inl (cL, n, .inr (.inl (zMix 0 (zDx hh px pv) px)))), (av, .inl (cL, n, .inr (.inl pv)))] s.heap := by rw [zMix_0]; exact hP
  have hD : va_D A [(sp, .inr (2, [.int (nI n), .ref ak, .ref ac, .ref aq, .ref af])), (ak, .inl (cI, n, .inl zk)), (ac, .inl (cI, n, .inl zc)), (aq, .inl (cI, n, .inl zq)), (af, .inl (cI, n, .inl zf)), (mo, .inr (1, [.ref ax, .ref av])), (ax, .inl (cL, n, .inr (.inl (zMix 0 (zDx hh px pv) px)))), (av, .inl (cL, n, .inr (.inl pv)))] := by rw [zMix_0]; exact hD
  refine wp_loop (α := Nat) (I := fun k x H locs ls => (x ≤ n ∧ n < x + k) ∧ va_P D vwCl [(sp, .inr (2, [.int (nI n), .ref ak, .ref ac, .ref aq, .ref af])), (ak, .inl (cI, n, .inl zk)), (ac, .inl (cI, n, .inl zc)), (aq, .inl (cI, n, .inl zq)), (af, .inl (cI, n, .inl zf)), (mo, .inr (1, [.ref ax, .ref av])), (ax, .inl (cL, n, .inr (.inl (zMix x (zDx hh px pv) px)))), (av, .inl (cL, n, .inr (.inl pv)))] H ∧ va_D A [(sp, .inr (2, [.int (nI n), .ref ak, .ref ac, .ref aq, .ref af])), (ak, .inl (cI, n, .inl zk)), (ac, .inl (cI, n, .inl zc)), (aq, .inl (cI, n, .inl zq)), (af, .inl (cI, n, .inl zf)), (mo, .inr (1, [.ref ax, .ref av])), (ax, .inl (cL, n, .inr (.inl (zMix x (zDx hh px pv) px)))), (av, .inl (cL, n, .inr (.inl pv)))] ∧ va_S A s.heap H locs ∧ lv_has ls 5 [(0, .ref sp), (1, .ref mo), (2, .int hh), (3, .int (zAll (zDx hh px pv) x)), (4, .int (nI x))]) ?_ ?_ (n + 1) 0 ⟨(by omega), hP.sub [0, 1, 2, 3, 4, 5, 6, 7] rfl, hD.sub [0, 1, 2, 3, 4, 5, 6, 7] (by decide) rfl, hS, lv_sub hl [2, 3, 4, 1, 0] rfl⟩
  · intro x H locs ls h; have h9 := h.1; (try dsimp only at h9); omega
  · intro k x H locs ls h ih
    obtain ⟨i, rfl⟩ : ∃ z, z = x := ⟨_, rfl⟩
    obtain ⟨hk, hP, hD, hS, hl⟩ := h
    have hk : i ≤ n ∧ n < i + (k + 1) := hk
    have hP : va_P D vwCl [(sp, .inr (2, [.int (nI n), .ref ak, .ref ac, .ref aq, .ref af])), (ak, .inl (cI, n, .inl zk)), (ac, .inl (cI, n, .inl zc)), (aq, .inl (cI, n, .inl zq)), (af, .inl (cI, n, .inl zf)), (mo, .inr (1, [.ref ax, .ref av])), (ax, .inl (cL, n, .inr (.inl (zMix i (zDx hh px pv) px)))), (av, .inl (cL, n, .inr (.inl pv)))] H := hP
    have hD : va_D A [(sp, .inr (2, [.int (nI n), .ref ak, .ref ac, .ref aq, .ref af])), (ak, .inl (cI, n, .inl zk)), (ac, .inl (cI, n, .inl zc)), (aq, .inl (cI, n, .inl zq)), (af, .inl (cI, n, .inl zf)), (mo, .inr (1, [.ref ax, .ref av])), (ax, .inl (cL, n, .inr (.inl (zMix i (zDx hh px pv) px)))), (av, .inl (cL, n, .inr (.inl pv)))] := hD
    have hl : lv_has ls 5 [(0, .ref sp), (1, .ref mo), (2, .int hh), (3, .int (zAll (zDx hh px pv) i)), (4, .int (nI i))] := hl
    refine lv_iload hx hb d_S_changePlaces_5 (lv_at hl 4 rfl) ?_
    refine lv_aload_n hx hb d_S_changePlaces_7 rfl (lv_at hl 0 rfl) ?_
    refine va_get (D := D) (ci := 2) (v := .int (nI n)) (C := "OscillatorRow$Springs") (T := T_S) (N := 5) hx hb hT i_S hown hK hP 0 rfl rfl 0 (by decide) (hT _ k_29) (fun _ h9 => h9) rfl d_S_changePlaces_8 ?_
    refine lv_icmp_ge (tgt := 64) hx hb d_S_changePlaces_11 (by decide) (fun c11 => ?_) (fun c11 => ?_)
    · have c11 := nI_leM c11 (by omega) (by omega)
      have ein : n = i := by omega
      subst ein
      refine lv_iload_n hx hb d_S_changePlaces_64 rfl (lv_at hl 3 rfl) ?_
      obtain ⟨hP, hD⟩ := va_reL (zDx hh px pv) 6 hP hD rfl (fun j hj => zMix_lt hj)
      have hP : va_P D vwCl [(sp, .inr (2, [.int (nI n), .ref ak, .ref ac, .ref aq, .ref af])), (ak, .inl (cI, n, .inl zk)), (ac, .inl (cI, n, .inl zc)), (aq, .inl (cI, n, .inl zq)), (af, .inl (cI, n, .inl zf)), (mo, .inr (1, [.ref ax, .ref av])), (ax, .inl (cL, n, .inr (.inl (zDx hh px pv)))), (av, .inl (cL, n, .inr (.inl pv)))] H := hP
      have hD : va_D A [(sp, .inr (2, [.int (nI n), .ref ak, .ref ac, .ref aq, .ref af])), (ak, .inl (cI, n, .inl zk)), (ac, .inl (cI, n, .inl zc)), (aq, .inl (cI, n, .inl zq)), (af, .inl (cI, n, .inl zf)), (mo, .inr (1, [.ref ax, .ref av])), (ax, .inl (cL, n, .inr (.inl (zDx hh px pv)))), (av, .inl (cL, n, .inr (.inl pv)))] := hD
      exact re_z (v := zAll (zDx hh px pv) n) () hx hb hr (nz_01 (zAll_01 _ _)) hlocks rfl (hP.sub [0, 1, 2, 3, 4, 5, 6, 7] rfl) hK (hD.sub [0, 1, 2, 3, 4, 5, 6, 7] (by decide) rfl) hS d_S_changePlaces_65
    · have c11 := nI_nleM c11 (by omega) (by omega)
      refine lv_aload_n hx hb d_S_changePlaces_14 rfl (lv_at hl 1 rfl) ?_
      refine va_getN (D := D) (ci := 1) (v := .ref ax) (C := "OscillatorRow$Motion") (T := T_M) (N := 2) hx hb hT i_M hown hK hP 5 rfl rfl 0 (by decide) (va_Nw.use rfl (hN _ j_57)) (fun _ h9 => h9) rfl d_S_changePlaces_15 ?_
      refine lv_iload hx hb d_S_changePlaces_18 (lv_at hl 4 rfl) ?_
      refine lv_dup2_11 hx hb d_S_changePlaces_20 rfl rfl ?_
      refine ra_lald (j := i) hx hb hK hP 6 1 rfl rfl (by omega) (by omega) d_S_changePlaces_21 ?_
      refine top_l (y := (px i)) (zMix_ge (Nat.le_refl i)) ?_
      refine lv_aload_n hx hb d_S_changePlaces_22 rfl (lv_at hl 1 rfl) ?_
      refine va_getN (D := D) (ci := 1) (v := .ref av) (C := "OscillatorRow$Motion") (T := T_M) (N := 2) hx hb hT i_M hown hK hP 5 rfl rfl 1 (by decide) (va_Nw.use rfl (hN _ j_60)) (fun _ h9 => h9) rfl d_S_changePlaces_23 ?_
      refine lv_iload hx hb d_S_changePlaces_26 (lv_at hl 4 rfl) ?_
      refine ra_lald (j := i) hx hb hK hP 7 1 rfl rfl (by omega) (by omega) d_S_changePlaces_28 ?_
      refine lv_iload_n hx hb d_S_changePlaces_29 rfl (lv_at hl 2 rfl) ?_
      have hPc := hP.sub (ws' := []) [] rfl
      have hDc := hD.sub (ws' := []) [] (by decide) rfl
      refine gc_l (w1 := fun (u : Unit) => []) (wc := []) (wr := [(sp, .inr (2, [.int (nI n), .ref ak, .ref ac, .ref aq, .ref af])), (ak, .inl (cI, n, .inl zk)), (ac, .inl (cI, n, .inl zc)), (aq, .inl (cI, n, .inl zq)), (af, .inl (cI, n, .inl zf)), (mo, .inr (1, [.ref ax, .ref av])), (ax, .inl (cL, n, .inr (.inl (zMix i (zDx hh px pv) px)))), (av, .inl (cL, n, .inr (.inl pv)))]) hP hD hS hA [] [0, 1, 2, 3, 4, 5, 6, 7] rfl rfl (by decide) (by decide) (va_runS (As := [.long (pv i), .int hh]) (rest := [.long (px i), .int (nI i), .ref ax]) ⟨hx, hb, hml, hown, hT⟩ (c_S_rnd l D cI cL cW cZ (pv i) hh H.size) (cwS 2 hT (good_S k_236 k_237 k_3 k_238) rfl rfl rfl (by decide +kernel) ⟨Nat.le_of_ble_eq_true rfl, Nat.le_of_ble_eq_true rfl⟩) (pre_S hPc hDc hK hN) rfl rfl hl.1 rfl (lv_room (Nat.le_of_ble_eq_true rfl)) d_S_changePlaces_30 ⟨(Nat.le_of_ble_eq_true rfl), (Nat.le_of_ble_eq_true rfl)⟩) (fun r u H locs hw hP hD hS => ?_)
      try dsimp only at hw
      have hP : va_P D vwCl [(sp, .inr (2, [.int (nI n), .ref ak, .ref ac, .ref aq, .ref af])), (ak, .inl (cI, n, .inl zk)), (ac, .inl (cI, n, .inl zc)), (aq, .inl (cI, n, .inl zq)), (af, .inl (cI, n, .inl zf)), (mo, .inr (1, [.ref ax, .ref av])), (ax, .inl (cL, n, .inr (.inl (zMix i (zDx hh px pv) px)))), (av, .inl (cL, n, .inr (.inl pv)))] H := hP
      have hD : va_D A [(sp, .inr (2, [.int (nI n), .ref ak, .ref ac, .ref aq, .ref af])), (ak, .inl (cI, n, .inl zk)), (ac, .inl (cI, n, .inl zc)), (aq, .inl (cI, n, .inl zq)), (af, .inl (cI, n, .inl zf)), (mo, .inr (1, [.ref ax, .ref av])), (ax, .inl (cL, n, .inr (.inl (zMix i (zDx hh px pv) px)))), (av, .inl (cL, n, .inr (.inl pv)))] := hD
      subst hw
      refine lv_ladd hx hb d_S_changePlaces_33 ?_
      refine ra_last (j := i) hx hb hK hP hD hS 6 1 rfl rfl (by omega) (by omega) d_S_changePlaces_34 (fun H locs hP hD hS => ?_)
      have hP : va_P D vwCl [(sp, .inr (2, [.int (nI n), .ref ak, .ref ac, .ref aq, .ref af])), (ak, .inl (cI, n, .inl zk)), (ac, .inl (cI, n, .inl zc)), (aq, .inl (cI, n, .inl zq)), (af, .inl (cI, n, .inl zf)), (mo, .inr (1, [.ref ax, .ref av])), (ax, .inl (cL, n, .inr (.inl (vp_updL (zMix i (zDx hh px pv) px) i ((px i) + (zRnd (pv i) hh)))))), (av, .inl (cL, n, .inr (.inl pv)))] H := hP
      have hD : va_D A [(sp, .inr (2, [.int (nI n), .ref ak, .ref ac, .ref aq, .ref af])), (ak, .inl (cI, n, .inl zk)), (ac, .inl (cI, n, .inl zc)), (aq, .inl (cI, n, .inl zq)), (af, .inl (cI, n, .inl zf)), (mo, .inr (1, [.ref ax, .ref av])), (ax, .inl (cL, n, .inr (.inl (vp_updL (zMix i (zDx hh px pv) px) i ((px i) + (zRnd (pv i) hh)))))), (av, .inl (cL, n, .inr (.inl pv)))] := hD
      have hP : va_P D vwCl [(sp, .inr (2, [.int (nI n), .ref ak, .ref ac, .ref aq, .ref af])), (ak, .inl (cI, n, .inl zk)), (ac, .inl (cI, n, .inl zc)), (aq, .inl (cI, n, .inl zq)), (af, .inl (cI, n, .inl zf)), (mo, .inr (1, [.ref ax, .ref av])), (ax, .inl (cL, n, .inr (.inl (zMix (i + 1) (zDx hh px pv) px)))), (av, .inl (cL, n, .inr (.inl pv)))] H := by rw [zMix_put]; exact hP
      have hD : va_D A [(sp, .inr (2, [.int (nI n), .ref ak, .ref ac, .ref aq, .ref af])), (ak, .inl (cI, n, .inl zk)), (ac, .inl (cI, n, .inl zc)), (aq, .inl (cI, n, .inl zq)), (af, .inl (cI, n, .inl zf)), (mo, .inr (1, [.ref ax, .ref av])), (ax, .inl (cL, n, .inr (.inl (zMix (i + 1) (zDx hh px pv) px)))), (av, .inl (cL, n, .inr (.inl pv)))] := by rw [zMix_put]; exact hD
      refine lv_iload_n hx hb d_S_changePlaces_35 rfl (lv_at hl 3 rfl) ?_
      refine lv_if_eq (tgt := 56) hx hb d_S_changePlaces_36 (by decide) (fun c36 => ?_) (fun c36 => ?_)
      · refine lv_iconst (v := 0) hx hb d_S_changePlaces_56 (by decide) ?_
        refine top_i (y := (zAll (zDx hh px pv) (i + 1))) (by rw [zAll, if_pos c36]) ?_
        refine lv_istore_n (lv' := [(3, .int (zAll (zDx hh px pv) (i + 1))), (0, .ref sp), (1, .ref mo), (2, .int hh), (4, .int (nI i))]) hx hb d_S_changePlaces_57 rfl hl (by decide) rfl (fun ls hl => ?_)
        refine lv_iinc (v := (nI (i + 1))) (lv' := [(4, .int (nI (i + 1))), (3, .int (zAll (zDx hh px pv) (i + 1))), (0, .ref sp), (1, .ref mo), (2, .int hh)]) hx hb d_S_changePlaces_58 hl (k := 4) rfl (nI_1 i) (by decide) rfl (fun ls hl => ?_)
        refine lv_goto (tgt := 5) hx hb d_S_changePlaces_61 (by decide) ?_
        exact ih (i + 1) _ _ _ ⟨(by omega), hP.sub [0, 1, 2, 3, 4, 5, 6, 7] rfl, hD.sub [0, 1, 2, 3, 4, 5, 6, 7] (by decide) rfl, hS, lv_sub hl [2, 3, 4, 1, 0] rfl⟩
      · refine lv_aload_n hx hb d_S_changePlaces_39 rfl (lv_at hl 1 rfl) ?_
        refine va_getN (D := D) (ci := 1) (v := .ref ax) (C := "OscillatorRow$Motion") (T := T_M) (N := 2) hx hb hT i_M hown hK hP 5 rfl rfl 0 (by decide) (va_Nw.use rfl (hN _ j_57)) (fun _ h9 => h9) rfl d_S_changePlaces_40 ?_
        refine lv_iload hx hb d_S_changePlaces_43 (lv_at hl 4 rfl) ?_
        refine ra_lald (j := i) hx hb hK hP 6 1 rfl rfl (by omega) (by omega) d_S_changePlaces_45 ?_
        refine top_l (y := (zDx hh px pv i)) (zMix_lt (Nat.lt_succ_self i)) ?_
        have hPc := hP.sub (ws' := []) [] rfl
        have hDc := hD.sub (ws' := []) [] (by decide) rfl
        refine gc_i (w1 := fun (u : Unit) => []) (wc := []) (wr := [(sp, .inr (2, [.int (nI n), .ref ak, .ref ac, .ref aq, .ref af])), (ak, .inl (cI, n, .inl zk)), (ac, .inl (cI, n, .inl zc)), (aq, .inl (cI, n, .inl zq)), (af, .inl (cI, n, .inl zf)), (mo, .inr (1, [.ref ax, .ref av])), (ax, .inl (cL, n, .inr (.inl (zMix (i + 1) (zDx hh px pv) px)))), (av, .inl (cL, n, .inr (.inl pv)))]) hP hD hS hA [] [0, 1, 2, 3, 4, 5, 6, 7] rfl rfl (by decide) (by decide) (va_runS (As := [.long (zDx hh px pv i)]) (rest := []) ⟨hx, hb, hml, hown, hT⟩ (c_S_near l D cI cL cW cZ (zDx hh px pv i) H.size) (cwS 1 hT (good_S k_239 k_240 k_3 k_241) rfl rfl rfl (by decide +kernel) ⟨Nat.le_of_ble_eq_true rfl, Nat.le_of_ble_eq_true rfl⟩) (pre_S hPc hDc hK hN) rfl rfl hl.1 rfl (lv_room (Nat.le_of_ble_eq_true rfl)) d_S_changePlaces_46 ⟨(Nat.le_of_ble_eq_true rfl), (Nat.le_of_ble_eq_true rfl)⟩) (fun r u H locs hw hP hD hS => ?_)
        try dsimp only at hw
        have hP : va_P D vwCl [(sp, .inr (2, [.int (nI n), .ref ak, .ref ac, .ref aq, .ref af])), (ak, .inl (cI, n, .inl zk)), (ac, .inl (cI, n, .inl zc)), (aq, .inl (cI, n, .inl zq)), (af, .inl (cI, n, .inl zf)), (mo, .inr (1, [.ref ax, .ref av])), (ax, .inl (cL, n, .inr (.inl (zMix (i + 1) (zDx hh px pv) px)))), (av, .inl (cL, n, .inr (.inl pv)))] H := hP
        have hD : va_D A [(sp, .inr (2, [.int (nI n), .ref ak, .ref ac, .ref aq, .ref af])), (ak, .inl (cI, n, .inl zk)), (ac, .inl (cI, n, .inl zc)), (aq, .inl (cI, n, .inl zq)), (af, .inl (cI, n, .inl zf)), (mo, .inr (1, [.ref ax, .ref av])), (ax, .inl (cL, n, .inr (.inl (zMix (i + 1) (zDx hh px pv) px)))), (av, .inl (cL, n, .inr (.inl pv)))] := hD
        subst hw
        refine lv_if_eq (tgt := 56) hx hb d_S_changePlaces_49 (by decide) (fun c49 => ?_) (fun c49 => ?_)
        · refine lv_iconst (v := 0) hx hb d_S_changePlaces_56 (by decide) ?_
          refine top_i (y := (zAll (zDx hh px pv) (i + 1))) (by rw [zAll, if_neg c36, c49]) ?_
          refine lv_istore_n (lv' := [(3, .int (zAll (zDx hh px pv) (i + 1))), (0, .ref sp), (1, .ref mo), (2, .int hh), (4, .int (nI i))]) hx hb d_S_changePlaces_57 rfl hl (by decide) rfl (fun ls hl => ?_)
          refine lv_iinc (v := (nI (i + 1))) (lv' := [(4, .int (nI (i + 1))), (3, .int (zAll (zDx hh px pv) (i + 1))), (0, .ref sp), (1, .ref mo), (2, .int hh)]) hx hb d_S_changePlaces_58 hl (k := 4) rfl (nI_1 i) (by decide) rfl (fun ls hl => ?_)
          refine lv_goto (tgt := 5) hx hb d_S_changePlaces_61 (by decide) ?_
          exact ih (i + 1) _ _ _ ⟨(by omega), hP.sub [0, 1, 2, 3, 4, 5, 6, 7] rfl, hD.sub [0, 1, 2, 3, 4, 5, 6, 7] (by decide) rfl, hS, lv_sub hl [2, 3, 4, 1, 0] rfl⟩
        · refine lv_iconst (v := 1) hx hb d_S_changePlaces_52 (by decide) ?_
          refine lv_goto (tgt := 57) hx hb d_S_changePlaces_53 (by decide) ?_
          refine top_i (y := (zAll (zDx hh px pv) (i + 1))) (by rw [zAll, if_neg c36, zNear_1 c49]) ?_
          refine lv_istore_n (lv' := [(3, .int (zAll (zDx hh px pv) (i + 1))), (0, .ref sp), (1, .ref mo), (2, .int hh), (4, .int (nI i))]) hx hb d_S_changePlaces_57 rfl hl (by decide) rfl (fun ls hl => ?_)
          refine lv_iinc (v := (nI (i + 1))) (lv' := [(4, .int (nI (i + 1))), (3, .int (zAll (zDx hh px pv) (i + 1))), (0, .ref sp), (1, .ref mo), (2, .int hh)]) hx hb d_S_changePlaces_58 hl (k := 4) rfl (nI_1 i) (by decide) rfl (fun ls hl => ?_)
          refine lv_goto (tgt := 5) hx hb d_S_changePlaces_61 (by decide) ?_
          exact ih (i + 1) _ _ _ ⟨(by omega), hP.sub [0, 1, 2, 3, 4, 5, 6, 7] rfl, hD.sub [0, 1, 2, 3, 4, 5, 6, 7] (by decide) rfl, hS, lv_sub hl [2, 3, 4, 1, 0] rfl⟩
set_option maxHeartbeats 4000000 in
set_option maxRecDepth 100000 in
theorem c_S_step (l : Launch) (D : va_G) (cI cL cW cZ : ClassId) (sp : Nat) (ak : Nat) (ac : Nat) (aq : Nat) (af : Nat) (n : Nat) (zk : Nat → Int32) (zc : Nat → Int32) (zq : Nat → Int32) (zf : Nat → Int32) (mo : Nat) (ax : Nat) (av : Nat) (px : Nat → Int64) (pv : Nat → Int64) (hh : Int32) (sz : Nat) (hn : n ≤ 4) : Met l y_S_step w_S_step ({ frames := 2, cells := 0, slots := 0, locals := 52 }) (va_Pc [.ref sp, .ref mo, .int hh] (gP D vwCl (tyv cI cL cW cZ) [(sp, .inr (2, [.int (nI n), .ref ak, .ref ac, .ref aq, .ref af])), (ak, .inl (cI, n, .inl zk)), (ac, .inl (cI, n, .inl zc)), (aq, .inl (cI, n, .inl zq)), (af, .inl (cI, n, .inl zf)), (mo, .inr (1, [.ref ax, .ref av])), (ax, .inl (cL, n, .inr (.inl px))), (av, .inl (cL, n, .inr (.inl pv)))] sz)) (va_Qi (fun (r : Int32) (u : (Nat → Int64) × (Nat → Int64)) => (r, u.1, u.2) = zStep n zk zc zq zf hh px pv) (fun u t => gB D vwCl (tyv cI cL cW cZ) (va_A [(sp, .inr (2, [.int (nI n), .ref ak, .ref ac, .ref aq, .ref af])), (ak, .inl (cI, n, .inl zk)), (ac, .inl (cI, n, .inl zc)), (aq, .inl (cI, n, .inl zq)), (af, .inl (cI, n, .inl zf)), (mo, .inr (1, [.ref ax, .ref av])), (ax, .inl (cL, n, .inr (.inl px))), (av, .inl (cL, n, .inr (.inl pv)))] sz) [(sp, .inr (2, [.int (nI n), .ref ak, .ref ac, .ref aq, .ref af])), (ak, .inl (cI, n, .inl zk)), (ac, .inl (cI, n, .inl zc)), (aq, .inl (cI, n, .inl zq)), (af, .inl (cI, n, .inl zf)), (mo, .inr (1, [.ref ax, .ref av])), (ax, .inl (cL, n, .inr (.inl u.1))), (av, .inl (cL, n, .inr (.inl u.2)))] t) (va_A [(sp, .inr (2, [.int (nI n), .ref ak, .ref ac, .ref aq, .ref af])), (ak, .inl (cI, n, .inl zk)), (ac, .inl (cI, n, .inl zc)), (aq, .inl (cI, n, .inl zq)), (af, .inl (cI, n, .inl zf)), (mo, .inr (1, [.ref ax, .ref av])), (ax, .inl (cL, n, .inr (.inl px))), (av, .inl (cL, n, .inr (.inl pv)))] sz)) 0 0 (va_A [(sp, .inr (2, [.int (nI n), .ref ak, .ref ac, .ref aq, .ref af])), (ak, .inl (cI, n, .inl zk)), (ac, .inl (cI, n, .inl zc)), (aq, .inl (cI, n, .inl zq)), (af, .inl (cI, n, .inl zf)), (mo, .inr (1, [.ref ax, .ref av])), (ax, .inl (cL, n, .inr (.inl px))), (av, .inl (cL, n, .inr (.inl pv)))] sz) := by
  refine met_go (cc := prog_4_method_3_code) (maxL := 3) (ret := (some .boolean)) (QA := fun A => va_Qi (fun (r : Int32) (u : (Nat → Int64) × (Nat → Int64)) => (r, u.1, u.2) = zStep n zk zc zq zf hh px pv) (fun u t => gB D vwCl (tyv cI cL cW cZ) A [(sp, .inr (2, [.int (nI n), .ref ak, .ref ac, .ref aq, .ref af])), (ak, .inl (cI, n, .inl zk)), (ac, .inl (cI, n, .inl zc)), (aq, .inl (cI, n, .inl zq)), (af, .inl (cI, n, .inl zf)), (mo, .inr (1, [.ref ax, .ref av])), (ax, .inl (cL, n, .inr (.inl u.1))), (av, .inl (cL, n, .inr (.inl u.2)))] t) A) (by decide) (Nat.le_of_ble_eq_true rfl) ?_
  intro p e s m below meth c A ls hx hb hr hml hT hN hown hlocks hin hl hP hK hD hA hS
  have hl : lv_has ls 3 [(0, .ref sp), (1, .ref mo), (2, .int hh)] := hl
  refine lv_aload_n hx hb d_S_step_0 rfl (lv_at hl 0 rfl) ?_
  refine lv_aload_n hx hb d_S_step_1 rfl (lv_at hl 1 rfl) ?_
  refine lv_iload_n hx hb d_S_step_2 rfl (lv_at hl 2 rfl) ?_
  have hPc := hP.sub (ws' := [(sp, .inr (2, [.int (nI n), .ref ak, .ref ac, .ref aq, .ref af])), (ak, .inl (cI, n, .inl zk)), (ac, .inl (cI, n, .inl zc)), (aq, .inl (cI, n, .inl zq)), (af, .inl (cI, n, .inl zf)), (mo, .inr (1, [.ref ax, .ref av])), (ax, .inl (cL, n, .inr (.inl px))), (av, .inl (cL, n, .inr (.inl pv)))]) [0, 1, 2, 3, 4, 5, 6, 7] rfl
  have hDc := hD.sub (ws' := [(sp, .inr (2, [.int (nI n), .ref ak, .ref ac, .ref aq, .ref af])), (ak, .inl (cI, n, .inl zk)), (ac, .inl (cI, n, .inl zc)), (aq, .inl (cI, n, .inl zq)), (af, .inl (cI, n, .inl zf)), (mo, .inr (1, [.ref ax, .ref av])), (ax, .inl (cL, n, .inr (.inl px))), (av, .inl (cL, n, .inr (.inl pv)))]) [0, 1, 2, 3, 4, 5, 6, 7] (by decide) rfl
  refine gc_i (w1 := fun (u : Unit) => [(sp, .inr (2, [.int (nI n), .ref ak, .ref ac, .ref aq, .ref af])), (ak, .inl (cI, n, .inl zk)), (ac, .inl (cI, n, .inl zc)), (aq, .inl (cI, n, .inl zq)), (af, .inl (cI, n, .inl zf)), (mo, .inr (1, [.ref ax, .ref av])), (ax, .inl (cL, n, .inr (.inl px))), (av, .inl (cL, n, .inr (.inl (zDv n zk zc zq zf hh px pv))))]) (wc := [(sp, .inr (2, [.int (nI n), .ref ak, .ref ac, .ref aq, .ref af])), (ak, .inl (cI, n, .inl zk)), (ac, .inl (cI, n, .inl zc)), (aq, .inl (cI, n, .inl zq)), (af, .inl (cI, n, .inl zf)), (mo, .inr (1, [.ref ax, .ref av])), (ax, .inl (cL, n, .inr (.inl px))), (av, .inl (cL, n, .inr (.inl pv)))]) (wr := []) hP hD hS hA [0, 1, 2, 3, 4, 5, 6, 7] [] rfl rfl (by decide) (by decide) (va_runV (As := [.ref mo, .int hh]) (rest := []) ⟨hx, hb, hml, hown, hT⟩ (c_S_chs l D cI cL cW cZ sp ak ac aq af n zk zc zq zf mo ax av px pv hh s.heap.size hn) (cwV 2 hT (good_V k_228 k_230 p_5 k_3 k_231) rfl rfl rfl (by decide +kernel) ⟨Nat.le_of_ble_eq_true rfl, Nat.le_of_ble_eq_true rfl⟩) (pre_V hPc hDc hK hN (ci := 2) rfl rfl) rfl rfl hl.1 rfl (lv_room (Nat.le_of_ble_eq_true rfl)) d_S_step_3 ⟨(Nat.le_of_ble_eq_true rfl), (Nat.le_of_ble_eq_true rfl)⟩) (fun r u H locs hw hP hD hS => ?_)
  try dsimp only at hw
  have hP : va_P D vwCl [(sp, .inr (2, [.int (nI n), .ref ak, .ref ac, .ref aq, .ref af])), (ak, .inl (cI, n, .inl zk)), (ac, .inl (cI, n, .inl zc)), (aq, .inl (cI, n, .inl zq)), (af, .inl (cI, n, .inl zf)), (mo, .inr (1, [.ref ax, .ref av])), (ax, .inl (cL, n, .inr (.inl px))), (av, .inl (cL, n, .inr (.inl (zDv n zk zc zq zf hh px pv))))] H := hP
  have hD : va_D A [(sp, .inr (2, [.int (nI n), .ref ak, .ref ac, .ref aq, .ref af])), (ak, .inl (cI, n, .inl zk)), (ac, .inl (cI, n, .inl zc)), (aq, .inl (cI, n, .inl zq)), (af, .inl (cI, n, .inl zf)), (mo, .inr (1, [.ref ax, .ref av])), (ax, .inl (cL, n, .inr (.inl px))), (av, .inl (cL, n, .inr (.inl (zDv n zk zc zq zf hh px pv))))] := hD
  subst hw
  refine lv_if_eq (tgt := 31) hx hb d_S_step_6 (by decide) (fun c6 => ?_) (fun c6 => ?_)
  · refine lv_iconst (v := 0) hx hb d_S_step_31 (by decide) ?_
    exact re_z (v := 0) (px, (zDv n zk zc zq zf hh px pv)) hx hb hr rfl hlocks (by rw [zStep, if_pos c6]) (hP.sub [0, 1, 2, 3, 4, 5, 6, 7] rfl) hK (hD.sub [0, 1, 2, 3, 4, 5, 6, 7] (by decide) rfl) hS d_S_step_32
  · refine lv_aload_n hx hb d_S_step_9 rfl (lv_at hl 0 rfl) ?_
    refine lv_aload_n hx hb d_S_step_10 rfl (lv_at hl 1 rfl) ?_
    refine lv_iload_n hx hb d_S_step_11 rfl (lv_at hl 2 rfl) ?_
    have hPc := hP.sub (ws' := [(sp, .inr (2, [.int (nI n), .ref ak, .ref ac, .ref aq, .ref af])), (ak, .inl (cI, n, .inl zk)), (ac, .inl (cI, n, .inl zc)), (aq, .inl (cI, n, .inl zq)), (af, .inl (cI, n, .inl zf)), (mo, .inr (1, [.ref ax, .ref av])), (ax, .inl (cL, n, .inr (.inl px))), (av, .inl (cL, n, .inr (.inl (zDv n zk zc zq zf hh px pv))))]) [0, 1, 2, 3, 4, 5, 6, 7] rfl
    have hDc := hD.sub (ws' := [(sp, .inr (2, [.int (nI n), .ref ak, .ref ac, .ref aq, .ref af])), (ak, .inl (cI, n, .inl zk)), (ac, .inl (cI, n, .inl zc)), (aq, .inl (cI, n, .inl zq)), (af, .inl (cI, n, .inl zf)), (mo, .inr (1, [.ref ax, .ref av])), (ax, .inl (cL, n, .inr (.inl px))), (av, .inl (cL, n, .inr (.inl (zDv n zk zc zq zf hh px pv))))]) [0, 1, 2, 3, 4, 5, 6, 7] (by decide) rfl
    refine gc_i (w1 := fun (u : Unit) => [(sp, .inr (2, [.int (nI n), .ref ak, .ref ac, .ref aq, .ref af])), (ak, .inl (cI, n, .inl zk)), (ac, .inl (cI, n, .inl zc)), (aq, .inl (cI, n, .inl zq)), (af, .inl (cI, n, .inl zf)), (mo, .inr (1, [.ref ax, .ref av])), (ax, .inl (cL, n, .inr (.inl (zDx hh px (zDv n zk zc zq zf hh px pv))))), (av, .inl (cL, n, .inr (.inl (zDv n zk zc zq zf hh px pv))))]) (wc := [(sp, .inr (2, [.int (nI n), .ref ak, .ref ac, .ref aq, .ref af])), (ak, .inl (cI, n, .inl zk)), (ac, .inl (cI, n, .inl zc)), (aq, .inl (cI, n, .inl zq)), (af, .inl (cI, n, .inl zf)), (mo, .inr (1, [.ref ax, .ref av])), (ax, .inl (cL, n, .inr (.inl px))), (av, .inl (cL, n, .inr (.inl (zDv n zk zc zq zf hh px pv))))]) (wr := []) hP hD hS hA [0, 1, 2, 3, 4, 5, 6, 7] [] rfl rfl (by decide) (by decide) (va_runV (As := [.ref mo, .int hh]) (rest := []) ⟨hx, hb, hml, hown, hT⟩ (c_S_chp l D cI cL cW cZ sp ak ac aq af n zk zc zq zf mo ax av px (zDv n zk zc zq zf hh px pv) hh H.size hn) (cwV 2 hT (good_V k_244 k_246 p_6 k_3 k_247) rfl rfl rfl (by decide +kernel) ⟨Nat.le_of_ble_eq_true rfl, Nat.le_of_ble_eq_true rfl⟩) (pre_V hPc hDc hK hN (ci := 2) rfl rfl) rfl rfl hl.1 rfl (lv_room (Nat.le_of_ble_eq_true rfl)) d_S_step_12 ⟨(Nat.le_of_ble_eq_true rfl), (Nat.le_of_ble_eq_true rfl)⟩) (fun r u H locs hw hP hD hS => ?_)
    try dsimp only at hw
    have hP : va_P D vwCl [(sp, .inr (2, [.int (nI n), .ref ak, .ref ac, .ref aq, .ref af])), (ak, .inl (cI, n, .inl zk)), (ac, .inl (cI, n, .inl zc)), (aq, .inl (cI, n, .inl zq)), (af, .inl (cI, n, .inl zf)), (mo, .inr (1, [.ref ax, .ref av])), (ax, .inl (cL, n, .inr (.inl (zDx hh px (zDv n zk zc zq zf hh px pv))))), (av, .inl (cL, n, .inr (.inl (zDv n zk zc zq zf hh px pv))))] H := hP
    have hD : va_D A [(sp, .inr (2, [.int (nI n), .ref ak, .ref ac, .ref aq, .ref af])), (ak, .inl (cI, n, .inl zk)), (ac, .inl (cI, n, .inl zc)), (aq, .inl (cI, n, .inl zq)), (af, .inl (cI, n, .inl zf)), (mo, .inr (1, [.ref ax, .ref av])), (ax, .inl (cL, n, .inr (.inl (zDx hh px (zDv n zk zc zq zf hh px pv))))), (av, .inl (cL, n, .inr (.inl (zDv n zk zc zq zf hh px pv))))] := hD
    subst hw
    refine lv_if_eq (tgt := 31) hx hb d_S_step_15 (by decide) (fun c15 => ?_) (fun c15 => ?_)
    · refine lv_iconst (v := 0) hx hb d_S_step_31 (by decide) ?_
      exact re_z (v := 0) ((zDx hh px (zDv n zk zc zq zf hh px pv)), (zDv n zk zc zq zf hh px pv)) hx hb hr rfl hlocks (by rw [zStep, if_neg c6, if_pos c15]) (hP.sub [0, 1, 2, 3, 4, 5, 6, 7] rfl) hK (hD.sub [0, 1, 2, 3, 4, 5, 6, 7] (by decide) rfl) hS d_S_step_32
    · refine lv_aload_n hx hb d_S_step_18 rfl (lv_at hl 0 rfl) ?_
      refine lv_aload_n hx hb d_S_step_19 rfl (lv_at hl 1 rfl) ?_
      refine lv_iload_n hx hb d_S_step_20 rfl (lv_at hl 2 rfl) ?_
      have hPc := hP.sub (ws' := [(sp, .inr (2, [.int (nI n), .ref ak, .ref ac, .ref aq, .ref af])), (ak, .inl (cI, n, .inl zk)), (ac, .inl (cI, n, .inl zc)), (aq, .inl (cI, n, .inl zq)), (af, .inl (cI, n, .inl zf)), (mo, .inr (1, [.ref ax, .ref av])), (ax, .inl (cL, n, .inr (.inl (zDx hh px (zDv n zk zc zq zf hh px pv))))), (av, .inl (cL, n, .inr (.inl (zDv n zk zc zq zf hh px pv))))]) [0, 1, 2, 3, 4, 5, 6, 7] rfl
      have hDc := hD.sub (ws' := [(sp, .inr (2, [.int (nI n), .ref ak, .ref ac, .ref aq, .ref af])), (ak, .inl (cI, n, .inl zk)), (ac, .inl (cI, n, .inl zc)), (aq, .inl (cI, n, .inl zq)), (af, .inl (cI, n, .inl zf)), (mo, .inr (1, [.ref ax, .ref av])), (ax, .inl (cL, n, .inr (.inl (zDx hh px (zDv n zk zc zq zf hh px pv))))), (av, .inl (cL, n, .inr (.inl (zDv n zk zc zq zf hh px pv))))]) [0, 1, 2, 3, 4, 5, 6, 7] (by decide) rfl
      refine gc_i (w1 := fun (u : Unit) => [(sp, .inr (2, [.int (nI n), .ref ak, .ref ac, .ref aq, .ref af])), (ak, .inl (cI, n, .inl zk)), (ac, .inl (cI, n, .inl zc)), (aq, .inl (cI, n, .inl zq)), (af, .inl (cI, n, .inl zf)), (mo, .inr (1, [.ref ax, .ref av])), (ax, .inl (cL, n, .inr (.inl (zDx hh px (zDv n zk zc zq zf hh px pv))))), (av, .inl (cL, n, .inr (.inl (zDv n zk zc zq zf hh (zDx hh px (zDv n zk zc zq zf hh px pv)) (zDv n zk zc zq zf hh px pv)))))]) (wc := [(sp, .inr (2, [.int (nI n), .ref ak, .ref ac, .ref aq, .ref af])), (ak, .inl (cI, n, .inl zk)), (ac, .inl (cI, n, .inl zc)), (aq, .inl (cI, n, .inl zq)), (af, .inl (cI, n, .inl zf)), (mo, .inr (1, [.ref ax, .ref av])), (ax, .inl (cL, n, .inr (.inl (zDx hh px (zDv n zk zc zq zf hh px pv))))), (av, .inl (cL, n, .inr (.inl (zDv n zk zc zq zf hh px pv))))]) (wr := []) hP hD hS hA [0, 1, 2, 3, 4, 5, 6, 7] [] rfl rfl (by decide) (by decide) (va_runV (As := [.ref mo, .int hh]) (rest := []) ⟨hx, hb, hml, hown, hT⟩ (c_S_chs l D cI cL cW cZ sp ak ac aq af n zk zc zq zf mo ax av (zDx hh px (zDv n zk zc zq zf hh px pv)) (zDv n zk zc zq zf hh px pv) hh H.size hn) (cwV 2 hT (good_V k_228 k_230 p_5 k_3 k_231) rfl rfl rfl (by decide +kernel) ⟨Nat.le_of_ble_eq_true rfl, Nat.le_of_ble_eq_true rfl⟩) (pre_V hPc hDc hK hN (ci := 2) rfl rfl) rfl rfl hl.1 rfl (lv_room (Nat.le_of_ble_eq_true rfl)) d_S_step_21 ⟨(Nat.le_of_ble_eq_true rfl), (Nat.le_of_ble_eq_true rfl)⟩) (fun r u H locs hw hP hD hS => ?_)
      try dsimp only at hw
      have hP : va_P D vwCl [(sp, .inr (2, [.int (nI n), .ref ak, .ref ac, .ref aq, .ref af])), (ak, .inl (cI, n, .inl zk)), (ac, .inl (cI, n, .inl zc)), (aq, .inl (cI, n, .inl zq)), (af, .inl (cI, n, .inl zf)), (mo, .inr (1, [.ref ax, .ref av])), (ax, .inl (cL, n, .inr (.inl (zDx hh px (zDv n zk zc zq zf hh px pv))))), (av, .inl (cL, n, .inr (.inl (zDv n zk zc zq zf hh (zDx hh px (zDv n zk zc zq zf hh px pv)) (zDv n zk zc zq zf hh px pv)))))] H := hP
      have hD : va_D A [(sp, .inr (2, [.int (nI n), .ref ak, .ref ac, .ref aq, .ref af])), (ak, .inl (cI, n, .inl zk)), (ac, .inl (cI, n, .inl zc)), (aq, .inl (cI, n, .inl zq)), (af, .inl (cI, n, .inl zf)), (mo, .inr (1, [.ref ax, .ref av])), (ax, .inl (cL, n, .inr (.inl (zDx hh px (zDv n zk zc zq zf hh px pv))))), (av, .inl (cL, n, .inr (.inl (zDv n zk zc zq zf hh (zDx hh px (zDv n zk zc zq zf hh px pv)) (zDv n zk zc zq zf hh px pv)))))] := hD
      subst hw
      refine lv_if_eq (tgt := 31) hx hb d_S_step_24 (by decide) (fun c24 => ?_) (fun c24 => ?_)
      · refine lv_iconst (v := 0) hx hb d_S_step_31 (by decide) ?_
        exact re_z (v := 0) ((zDx hh px (zDv n zk zc zq zf hh px pv)), (zDv n zk zc zq zf hh (zDx hh px (zDv n zk zc zq zf hh px pv)) (zDv n zk zc zq zf hh px pv))) hx hb hr rfl hlocks (by rw [zStep, if_neg c6, if_neg c15, if_pos c24]) (hP.sub [0, 1, 2, 3, 4, 5, 6, 7] rfl) hK (hD.sub [0, 1, 2, 3, 4, 5, 6, 7] (by decide) rfl) hS d_S_step_32
      · refine lv_iconst (v := 1) hx hb d_S_step_27 (by decide) ?_
        refine lv_goto (tgt := 32) hx hb d_S_step_28 (by decide) ?_
        exact re_z (v := 1) ((zDx hh px (zDv n zk zc zq zf hh px pv)), (zDv n zk zc zq zf hh (zDx hh px (zDv n zk zc zq zf hh px pv)) (zDv n zk zc zq zf hh px pv))) hx hb hr rfl hlocks (by rw [zStep, if_neg c6, if_neg c15, if_neg c24]) (hP.sub [0, 1, 2, 3, 4, 5, 6, 7] rfl) hK (hD.sub [0, 1, 2, 3, 4, 5, 6, 7] (by decide) rfl) hS d_S_step_32
set_option maxHeartbeats 4000000 in
set_option maxRecDepth 100000 in
theorem c_M_copy (l : Launch) (D : va_G) (cI cL cW cZ : ClassId) (mo : Nat) (ax : Nat) (av : Nat) (mp : Nat) (bx : Nat) (bv : Nat) (px : Nat → Int64) (pv : Nat → Int64) (qx : Nat → Int64) (qv : Nat → Int64) (n : Nat) (sz : Nat) (hn : n ≤ 4) : Met l y_M_copyFrom w_M_copyFrom ({ frames := 1, cells := 0, slots := 0, locals := 18 }) (va_Pc [.ref mo, .ref mp] (gP D vwCl (tyv cI cL cW cZ) [(mo, .inr (1, [.ref ax, .ref av])), (ax, .inl (cL, n, .inr (.inl px))), (av, .inl (cL, n, .inr (.inl pv))), (mp, .inr (1, [.ref bx, .ref bv])), (bx, .inl (cL, n, .inr (.inl qx))), (bv, .inl (cL, n, .inr (.inl qv)))] sz)) (va_Qv (fun (u : Unit) => True) (fun u t => gB D vwCl (tyv cI cL cW cZ) (va_A [(mo, .inr (1, [.ref ax, .ref av])), (ax, .inl (cL, n, .inr (.inl px))), (av, .inl (cL, n, .inr (.inl pv))), (mp, .inr (1, [.ref bx, .ref bv])), (bx, .inl (cL, n, .inr (.inl qx))), (bv, .inl (cL, n, .inr (.inl qv)))] sz) [(mo, .inr (1, [.ref ax, .ref av])), (ax, .inl (cL, n, .inr (.inl qx))), (av, .inl (cL, n, .inr (.inl qv))), (mp, .inr (1, [.ref bx, .ref bv])), (bx, .inl (cL, n, .inr (.inl qx))), (bv, .inl (cL, n, .inr (.inl qv)))] t) (va_A [(mo, .inr (1, [.ref ax, .ref av])), (ax, .inl (cL, n, .inr (.inl px))), (av, .inl (cL, n, .inr (.inl pv))), (mp, .inr (1, [.ref bx, .ref bv])), (bx, .inl (cL, n, .inr (.inl qx))), (bv, .inl (cL, n, .inr (.inl qv)))] sz)) 0 0 (va_A [(mo, .inr (1, [.ref ax, .ref av])), (ax, .inl (cL, n, .inr (.inl px))), (av, .inl (cL, n, .inr (.inl pv))), (mp, .inr (1, [.ref bx, .ref bv])), (bx, .inl (cL, n, .inr (.inl qx))), (bv, .inl (cL, n, .inr (.inl qv)))] sz) := by
  refine met_go (cc := prog_3_method_2_code) (maxL := 2) (ret := none) (QA := fun A => va_Qv (fun (u : Unit) => True) (fun u t => gB D vwCl (tyv cI cL cW cZ) A [(mo, .inr (1, [.ref ax, .ref av])), (ax, .inl (cL, n, .inr (.inl qx))), (av, .inl (cL, n, .inr (.inl qv))), (mp, .inr (1, [.ref bx, .ref bv])), (bx, .inl (cL, n, .inr (.inl qx))), (bv, .inl (cL, n, .inr (.inl qv)))] t) A) (by decide) (Nat.le_of_ble_eq_true rfl) ?_
  intro p e s m below meth c A ls hx hb hr hml hT hN hown hlocks hin hl hP hK hD hA hS
  have hl : lv_has ls 2 [(0, .ref mo), (1, .ref mp)] := hl
  refine lv_aload_n hx hb d_M_copyFrom_0 rfl (lv_at hl 1 rfl) ?_
  refine va_get (D := D) (ci := 1) (v := .ref bx) (C := "OscillatorRow$Motion") (T := T_M) (N := 2) hx hb hT i_M hown hK hP 3 rfl rfl 0 (by decide) (hT _ k_56) (fun _ h9 => h9) rfl d_M_copyFrom_1 ?_
  refine lv_iconst (v := 0) hx hb d_M_copyFrom_4 (by decide) ?_
  refine lv_aload_n hx hb d_M_copyFrom_5 rfl (lv_at hl 0 rfl) ?_
  refine va_get (D := D) (ci := 1) (v := .ref ax) (C := "OscillatorRow$Motion") (T := T_M) (N := 2) hx hb hT i_M hown hK hP 0 rfl rfl 0 (by decide) (hT _ k_56) (fun _ h9 => h9) rfl d_M_copyFrom_6 ?_
  refine lv_iconst (v := 0) hx hb d_M_copyFrom_9 (by decide) ?_
  refine lv_aload_n hx hb d_M_copyFrom_10 rfl (lv_at hl 0 rfl) ?_
  refine va_get (D := D) (ci := 1) (v := .ref ax) (C := "OscillatorRow$Motion") (T := T_M) (N := 2) hx hb hT i_M hown hK hP 0 rfl rfl 0 (by decide) (hT _ k_56) (fun _ h9 => h9) rfl d_M_copyFrom_11 ?_
  refine va_alen (v := nI n) hx hb hK hP 1 1 rfl rfl rfl d_M_copyFrom_14 ?_
  refine va_copyl hx hb (by rw [hml, hl.1]) hown (hT _ k_221) (hT _ k_223) (hT _ k_222) (hT _ k_8) hK hP hD hS 4 1 1 1 rfl rfl rfl rfl rfl (by decide) (by decide) (nI_pos (by omega)) (by rw [nI_clamp (by omega)]; exact Nat.le_of_eq (Nat.zero_add n)) (by rw [nI_clamp (by omega)]; exact Nat.le_of_eq (Nat.zero_add n)) (fun _ _ => rfl) (Nat.le_of_ble_eq_true rfl) (Nat.le_of_ble_eq_true rfl) d_M_copyFrom_15 (fun H locs hP hD hS => ?_)
  have hP : va_P D vwCl [(mo, .inr (1, [.ref ax, .ref av])), (ax, .inl (cL, n, .inr (.inl (va_cpy qx px (0 : Int32).toNatClampNeg (0 : Int32).toNatClampNeg (nI n).toNatClampNeg)))), (av, .inl (cL, n, .inr (.inl pv))), (mp, .inr (1, [.ref bx, .ref bv])), (bx, .inl (cL, n, .inr (.inl qx))), (bv, .inl (cL, n, .inr (.inl qv)))] H := hP
  have hD : va_D A [(mo, .inr (1, [.ref ax, .ref av])), (ax, .inl (cL, n, .inr (.inl (va_cpy qx px (0 : Int32).toNatClampNeg (0 : Int32).toNatClampNeg (nI n).toNatClampNeg)))), (av, .inl (cL, n, .inr (.inl pv))), (mp, .inr (1, [.ref bx, .ref bv])), (bx, .inl (cL, n, .inr (.inl qx))), (bv, .inl (cL, n, .inr (.inl qv)))] := hD
  obtain ⟨hP, hD⟩ := va_reL qx 1 hP hD rfl (fun j hj => cpy_lt hj (by omega))
  have hP : va_P D vwCl [(mo, .inr (1, [.ref ax, .ref av])), (ax, .inl (cL, n, .inr (.inl qx))), (av, .inl (cL, n, .inr (.inl pv))), (mp, .inr (1, [.ref bx, .ref bv])), (bx, .inl (cL, n, .inr (.inl qx))), (bv, .inl (cL, n, .inr (.inl qv)))] H := hP
  have hD : va_D A [(mo, .inr (1, [.ref ax, .ref av])), (ax, .inl (cL, n, .inr (.inl qx))), (av, .inl (cL, n, .inr (.inl pv))), (mp, .inr (1, [.ref bx, .ref bv])), (bx, .inl (cL, n, .inr (.inl qx))), (bv, .inl (cL, n, .inr (.inl qv)))] := hD
  refine lv_aload_n hx hb d_M_copyFrom_18 rfl (lv_at hl 1 rfl) ?_
  refine va_get (D := D) (ci := 1) (v := .ref bv) (C := "OscillatorRow$Motion") (T := T_M) (N := 2) hx hb hT i_M hown hK hP 3 rfl rfl 1 (by decide) (hT _ k_59) (fun _ h9 => h9) rfl d_M_copyFrom_19 ?_
  refine lv_iconst (v := 0) hx hb d_M_copyFrom_22 (by decide) ?_
  refine lv_aload_n hx hb d_M_copyFrom_23 rfl (lv_at hl 0 rfl) ?_
  refine va_get (D := D) (ci := 1) (v := .ref av) (C := "OscillatorRow$Motion") (T := T_M) (N := 2) hx hb hT i_M hown hK hP 0 rfl rfl 1 (by decide) (hT _ k_59) (fun _ h9 => h9) rfl d_M_copyFrom_24 ?_
  refine lv_iconst (v := 0) hx hb d_M_copyFrom_27 (by decide) ?_
  refine lv_aload_n hx hb d_M_copyFrom_28 rfl (lv_at hl 0 rfl) ?_
  refine va_get (D := D) (ci := 1) (v := .ref av) (C := "OscillatorRow$Motion") (T := T_M) (N := 2) hx hb hT i_M hown hK hP 0 rfl rfl 1 (by decide) (hT _ k_59) (fun _ h9 => h9) rfl d_M_copyFrom_29 ?_
  refine va_alen (v := nI n) hx hb hK hP 2 1 rfl rfl rfl d_M_copyFrom_32 ?_
  refine va_copyl hx hb (by rw [hml, hl.1]) hown (hT _ k_221) (hT _ k_223) (hT _ k_222) (hT _ k_8) hK hP hD hS 5 2 1 1 rfl rfl rfl rfl rfl (by decide) (by decide) (nI_pos (by omega)) (by rw [nI_clamp (by omega)]; exact Nat.le_of_eq (Nat.zero_add n)) (by rw [nI_clamp (by omega)]; exact Nat.le_of_eq (Nat.zero_add n)) (fun _ _ => rfl) (Nat.le_of_ble_eq_true rfl) (Nat.le_of_ble_eq_true rfl) d_M_copyFrom_33 (fun H locs hP hD hS => ?_)
  have hP : va_P D vwCl [(mo, .inr (1, [.ref ax, .ref av])), (ax, .inl (cL, n, .inr (.inl qx))), (av, .inl (cL, n, .inr (.inl (va_cpy qv pv (0 : Int32).toNatClampNeg (0 : Int32).toNatClampNeg (nI n).toNatClampNeg)))), (mp, .inr (1, [.ref bx, .ref bv])), (bx, .inl (cL, n, .inr (.inl qx))), (bv, .inl (cL, n, .inr (.inl qv)))] H := hP
  have hD : va_D A [(mo, .inr (1, [.ref ax, .ref av])), (ax, .inl (cL, n, .inr (.inl qx))), (av, .inl (cL, n, .inr (.inl (va_cpy qv pv (0 : Int32).toNatClampNeg (0 : Int32).toNatClampNeg (nI n).toNatClampNeg)))), (mp, .inr (1, [.ref bx, .ref bv])), (bx, .inl (cL, n, .inr (.inl qx))), (bv, .inl (cL, n, .inr (.inl qv)))] := hD
  obtain ⟨hP, hD⟩ := va_reL qv 2 hP hD rfl (fun j hj => cpy_lt hj (by omega))
  have hP : va_P D vwCl [(mo, .inr (1, [.ref ax, .ref av])), (ax, .inl (cL, n, .inr (.inl qx))), (av, .inl (cL, n, .inr (.inl qv))), (mp, .inr (1, [.ref bx, .ref bv])), (bx, .inl (cL, n, .inr (.inl qx))), (bv, .inl (cL, n, .inr (.inl qv)))] H := hP
  have hD : va_D A [(mo, .inr (1, [.ref ax, .ref av])), (ax, .inl (cL, n, .inr (.inl qx))), (av, .inl (cL, n, .inr (.inl qv))), (mp, .inr (1, [.ref bx, .ref bv])), (bx, .inl (cL, n, .inr (.inl qx))), (bv, .inl (cL, n, .inr (.inl qv)))] := hD
  exact re_v () hx hb hr hlocks trivial (hP.sub [0, 1, 2, 3, 4, 5] rfl) hK (hD.sub [0, 1, 2, 3, 4, 5] (by decide) rfl) hS d_M_copyFrom_36
set_option maxHeartbeats 4000000 in
set_option maxRecDepth 100000 in
theorem c_M_gd (l : Launch) (D : va_G) (cI cL cW cZ : ClassId) (mo : Nat) (ax : Nat) (av : Nat) (mp : Nat) (bx : Nat) (bv : Nat) (px : Nat → Int64) (pv : Nat → Int64) (qx : Nat → Int64) (qv : Nat → Int64) (n : Nat) (sz : Nat) (hn : n ≤ 4) : Met l y_M_greatestDifference w_M_greatestDifference ({ frames := 1, cells := 0, slots := 0, locals := 17 }) (va_Pc [.ref mo, .ref mp] (gP D vwCl (tyv cI cL cW cZ) [(mo, .inr (1, [.ref ax, .ref av])), (ax, .inl (cL, n, .inr (.inl px))), (av, .inl (cL, n, .inr (.inl pv))), (mp, .inr (1, [.ref bx, .ref bv])), (bx, .inl (cL, n, .inr (.inl qx))), (bv, .inl (cL, n, .inr (.inl qv)))] sz)) (va_Ql (fun (r : Int64) (u : Unit) => r = zGd px pv qx qv n) (fun u t => gB D vwCl (tyv cI cL cW cZ) (va_A [(mo, .inr (1, [.ref ax, .ref av])), (ax, .inl (cL, n, .inr (.inl px))), (av, .inl (cL, n, .inr (.inl pv))), (mp, .inr (1, [.ref bx, .ref bv])), (bx, .inl (cL, n, .inr (.inl qx))), (bv, .inl (cL, n, .inr (.inl qv)))] sz) [(mo, .inr (1, [.ref ax, .ref av])), (ax, .inl (cL, n, .inr (.inl px))), (av, .inl (cL, n, .inr (.inl pv))), (mp, .inr (1, [.ref bx, .ref bv])), (bx, .inl (cL, n, .inr (.inl qx))), (bv, .inl (cL, n, .inr (.inl qv)))] t) (va_A [(mo, .inr (1, [.ref ax, .ref av])), (ax, .inl (cL, n, .inr (.inl px))), (av, .inl (cL, n, .inr (.inl pv))), (mp, .inr (1, [.ref bx, .ref bv])), (bx, .inl (cL, n, .inr (.inl qx))), (bv, .inl (cL, n, .inr (.inl qv)))] sz)) 0 0 (va_A [(mo, .inr (1, [.ref ax, .ref av])), (ax, .inl (cL, n, .inr (.inl px))), (av, .inl (cL, n, .inr (.inl pv))), (mp, .inr (1, [.ref bx, .ref bv])), (bx, .inl (cL, n, .inr (.inl qx))), (bv, .inl (cL, n, .inr (.inl qv)))] sz) := by
  refine met_go (cc := prog_3_method_3_code) (maxL := 5) (ret := (some .long)) (QA := fun A => va_Ql (fun (r : Int64) (u : Unit) => r = zGd px pv qx qv n) (fun u t => gB D vwCl (tyv cI cL cW cZ) A [(mo, .inr (1, [.ref ax, .ref av])), (ax, .inl (cL, n, .inr (.inl px))), (av, .inl (cL, n, .inr (.inl pv))), (mp, .inr (1, [.ref bx, .ref bv])), (bx, .inl (cL, n, .inr (.inl qx))), (bv, .inl (cL, n, .inr (.inl qv)))] t) A) (by decide) (Nat.le_of_ble_eq_true rfl) ?_
  intro p e s m below meth c A ls hx hb hr hml hT hN hown hlocks hin hl hP hK hD hA hS
  have hl : lv_has ls 5 [(0, .ref mo), (1, .ref mp)] := hl
  refine lv_lconst (v := zGd px pv qx qv 0) hx hb d_M_greatestDifference_0 rfl ?_
  refine lv_lstore_n (lv' := [(2, .long (zGd px pv qx qv 0)), (0, .ref mo), (1, .ref mp)]) hx hb d_M_greatestDifference_1 rfl hl (by decide) rfl (fun ls hl => ?_)
  refine lv_iconst (v := nI 0) hx hb d_M_greatestDifference_2 (by decide) ?_
  refine lv_istore (lv' := [(4, .int (nI 0)), (2, .long (zGd px pv qx qv 0)), (0, .ref mo), (1, .ref mp)]) hx hb d_M_greatestDifference_3 hl (by decide) rfl (fun ls hl => ?_)
  refine wp_loop (α := Nat) (I := fun k x H locs ls => (x ≤ n ∧ n < x + k) ∧ va_P D vwCl [(mo, .inr (1, [.ref ax, .ref av])), (ax, .inl (cL, n, .inr (.inl px))), (av, .inl (cL, n, .inr (.inl pv))), (mp, .inr (1, [.ref bx, .ref bv])), (bx, .inl (cL, n, .inr (.inl qx))), (bv, .inl (cL, n, .inr (.inl qv)))] H ∧ va_D A [(mo, .inr (1, [.ref ax, .ref av])), (ax, .inl (cL, n, .inr (.inl px))), (av, .inl (cL, n, .inr (.inl pv))), (mp, .inr (1, [.ref bx, .ref bv])), (bx, .inl (cL, n, .inr (.inl qx))), (bv, .inl (cL, n, .inr (.inl qv)))] ∧ va_S A s.heap H locs ∧ lv_has ls 5 [(0, .ref mo), (1, .ref mp), (2, .long (zGd px pv qx qv x)), (4, .int (nI x))]) ?_ ?_ (n + 1) 0 ⟨(by omega), hP.sub [0, 1, 2, 3, 4, 5] rfl, hD.sub [0, 1, 2, 3, 4, 5] (by decide) rfl, hS, lv_sub hl [2, 3, 1, 0] rfl⟩
  · intro x H locs ls h; have h9 := h.1; (try dsimp only at h9); omega
  · intro k x H locs ls h ih
    obtain ⟨i, rfl⟩ : ∃ z, z = x := ⟨_, rfl⟩
    obtain ⟨hk, hP, hD, hS, hl⟩ := h
    have hk : i ≤ n ∧ n < i + (k + 1) := hk
    have hP : va_P D vwCl [(mo, .inr (1, [.ref ax, .ref av])), (ax, .inl (cL, n, .inr (.inl px))), (av, .inl (cL, n, .inr (.inl pv))), (mp, .inr (1, [.ref bx, .ref bv])), (bx, .inl (cL, n, .inr (.inl qx))), (bv, .inl (cL, n, .inr (.inl qv)))] H := hP
    have hD : va_D A [(mo, .inr (1, [.ref ax, .ref av])), (ax, .inl (cL, n, .inr (.inl px))), (av, .inl (cL, n, .inr (.inl pv))), (mp, .inr (1, [.ref bx, .ref bv])), (bx, .inl (cL, n, .inr (.inl qx))), (bv, .inl (cL, n, .inr (.inl qv)))] := hD
    have hl : lv_has ls 5 [(0, .ref mo), (1, .ref mp), (2, .long (zGd px pv qx qv i)), (4, .int (nI i))] := hl
    refine lv_iload hx hb d_M_greatestDifference_5 (lv_at hl 3 rfl) ?_
    refine lv_aload_n hx hb d_M_greatestDifference_7 rfl (lv_at hl 0 rfl) ?_
    refine va_get (D := D) (ci := 1) (v := .ref ax) (C := "OscillatorRow$Motion") (T := T_M) (N := 2) hx hb hT i_M hown hK hP 0 rfl rfl 0 (by decide) (hT _ k_56) (fun _ h9 => h9) rfl d_M_greatestDifference_8 ?_
    refine va_alen (v := nI n) hx hb hK hP 1 1 rfl rfl rfl d_M_greatestDifference_11 ?_
    refine lv_icmp_ge (tgt := 67) hx hb d_M_greatestDifference_12 (by decide) (fun c12 => ?_) (fun c12 => ?_)
    · have c12 := nI_leM c12 (by omega) (by omega)
      have ein : n = i := by omega
      subst ein
      refine lv_lload_n hx hb d_M_greatestDifference_67 rfl (lv_at hl 2 rfl) ?_
      exact re_l (v := zGd px pv qx qv n) () hx hb hr hlocks rfl (hP.sub [0, 1, 2, 3, 4, 5] rfl) hK (hD.sub [0, 1, 2, 3, 4, 5] (by decide) rfl) hS d_M_greatestDifference_68
    · have c12 := nI_nleM c12 (by omega) (by omega)
      refine lv_lload_n hx hb d_M_greatestDifference_15 rfl (lv_at hl 2 rfl) ?_
      refine lv_aload_n hx hb d_M_greatestDifference_16 rfl (lv_at hl 0 rfl) ?_
      refine va_get (D := D) (ci := 1) (v := .ref ax) (C := "OscillatorRow$Motion") (T := T_M) (N := 2) hx hb hT i_M hown hK hP 0 rfl rfl 0 (by decide) (hT _ k_56) (fun _ h9 => h9) rfl d_M_greatestDifference_17 ?_
      refine lv_iload hx hb d_M_greatestDifference_20 (lv_at hl 3 rfl) ?_
      refine ra_lald (j := i) hx hb hK hP 1 1 rfl rfl (by omega) (by omega) d_M_greatestDifference_22 ?_
      refine lv_aload_n hx hb d_M_greatestDifference_23 rfl (lv_at hl 1 rfl) ?_
      refine va_get (D := D) (ci := 1) (v := .ref bx) (C := "OscillatorRow$Motion") (T := T_M) (N := 2) hx hb hT i_M hown hK hP 3 rfl rfl 0 (by decide) (hT _ k_56) (fun _ h9 => h9) rfl d_M_greatestDifference_24 ?_
      refine lv_iload hx hb d_M_greatestDifference_27 (lv_at hl 3 rfl) ?_
      refine ra_lald (j := i) hx hb hK hP 4 1 rfl rfl (by omega) (by omega) d_M_greatestDifference_29 ?_
      refine lv_lsub hx hb d_M_greatestDifference_30 ?_
      refine va_mabs_long hx hb (by rw [hml, hl.1]) hown (hT _ k_252) (hT _ k_253) (hT _ k_2) (hT _ k_254) (Nat.le_of_ble_eq_true rfl) (Nat.le_of_ble_eq_true rfl) (Nat.le_of_ble_eq_true rfl) (Nat.le_of_ble_eq_true rfl) d_M_greatestDifference_31 ?_
      refine top_l (y := (zAbs (px i - qx i))) rfl ?_
      refine va_mmax_long hx hb (by rw [hml, hl.1]) hown (hT _ k_255) (hT _ k_256) (hT _ k_2) (hT _ k_257) (Nat.le_of_ble_eq_true rfl) (Nat.le_of_ble_eq_true rfl) (Nat.le_of_ble_eq_true rfl) (Nat.le_of_ble_eq_true rfl) d_M_greatestDifference_34 ?_
      refine top_l (y := (zMax (zGd px pv qx qv i) (zAbs (px i - qx i)))) rfl ?_
      refine lv_lstore_n (lv' := [(2, .long (zMax (zGd px pv qx qv i) (zAbs (px i - qx i)))), (0, .ref mo), (1, .ref mp), (4, .int (nI i))]) hx hb d_M_greatestDifference_37 rfl hl (by decide) rfl (fun ls hl => ?_)
      refine lv_lload_n hx hb d_M_greatestDifference_38 rfl (lv_at hl 0 rfl) ?_
      refine lv_aload_n hx hb d_M_greatestDifference_39 rfl (lv_at hl 1 rfl) ?_
      refine va_get (D := D) (ci := 1) (v := .ref av) (C := "OscillatorRow$Motion") (T := T_M) (N := 2) hx hb hT i_M hown hK hP 0 rfl rfl 1 (by decide) (hT _ k_59) (fun _ h9 => h9) rfl d_M_greatestDifference_40 ?_
      refine lv_iload hx hb d_M_greatestDifference_43 (lv_at hl 3 rfl) ?_
      refine ra_lald (j := i) hx hb hK hP 2 1 rfl rfl (by omega) (by omega) d_M_greatestDifference_45 ?_
      refine lv_aload_n hx hb d_M_greatestDifference_46 rfl (lv_at hl 2 rfl) ?_
      refine va_get (D := D) (ci := 1) (v := .ref bv) (C := "OscillatorRow$Motion") (T := T_M) (N := 2) hx hb hT i_M hown hK hP 3 rfl rfl 1 (by decide) (hT _ k_59) (fun _ h9 => h9) rfl d_M_greatestDifference_47 ?_
      refine lv_iload hx hb d_M_greatestDifference_50 (lv_at hl 3 rfl) ?_
      refine ra_lald (j := i) hx hb hK hP 5 1 rfl rfl (by omega) (by omega) d_M_greatestDifference_52 ?_
      refine lv_lsub hx hb d_M_greatestDifference_53 ?_
      refine va_mabs_long hx hb (by rw [hml, hl.1]) hown (hT _ k_252) (hT _ k_253) (hT _ k_2) (hT _ k_254) (Nat.le_of_ble_eq_true rfl) (Nat.le_of_ble_eq_true rfl) (Nat.le_of_ble_eq_true rfl) (Nat.le_of_ble_eq_true rfl) d_M_greatestDifference_54 ?_
      refine top_l (y := (zAbs (pv i - qv i))) rfl ?_
      refine va_mmax_long hx hb (by rw [hml, hl.1]) hown (hT _ k_255) (hT _ k_256) (hT _ k_2) (hT _ k_257) (Nat.le_of_ble_eq_true rfl) (Nat.le_of_ble_eq_true rfl) (Nat.le_of_ble_eq_true rfl) (Nat.le_of_ble_eq_true rfl) d_M_greatestDifference_57 ?_
      refine top_l (y := (zGd px pv qx qv (i + 1))) rfl ?_
      refine lv_lstore_n (lv' := [(2, .long (zGd px pv qx qv (i + 1))), (0, .ref mo), (1, .ref mp), (4, .int (nI i))]) hx hb d_M_greatestDifference_60 rfl hl (by decide) rfl (fun ls hl => ?_)
      refine lv_iinc (v := (nI (i + 1))) (lv' := [(4, .int (nI (i + 1))), (2, .long (zGd px pv qx qv (i + 1))), (0, .ref mo), (1, .ref mp)]) hx hb d_M_greatestDifference_61 hl (k := 3) rfl (nI_1 i) (by decide) rfl (fun ls hl => ?_)
      refine lv_goto (tgt := 5) hx hb d_M_greatestDifference_64 (by decide) ?_
      exact ih (i + 1) _ _ _ ⟨(by omega), hP.sub [0, 1, 2, 3, 4, 5] rfl, hD.sub [0, 1, 2, 3, 4, 5] (by decide) rfl, hS, lv_sub hl [2, 3, 1, 0] rfl⟩
end
section
set_option maxHeartbeats 4000000 in
set_option maxRecDepth 100000 in
theorem c_W_isset (l : Launch) (D : va_G) (cI cL cW cZ : ClassId) (wo : Nat) (wb : Int32) (wl : Int64) (wu : Int32) (wa : Int32) (sz : Nat) : Met l y_W_isSet w_W_isSet ({ frames := 0, cells := 0, slots := 0, locals := 0 }) (va_Pc [.ref wo] (gP D vwCl (tyv cI cL cW cZ) [(wo, .inr (3, [.int wb, .long wl, .int wu, .int wa]))] sz)) (va_Qi (fun (r : Int32) (u : Unit) => r = zSet wa) (fun u t => gB D vwCl (tyv cI cL cW cZ) (va_A [(wo, .inr (3, [.int wb, .long wl, .int wu, .int wa]))] sz) [(wo, .inr (3, [.int wb, .long wl, .int wu, .int wa]))] t) (va_A [(wo, .inr (3, [.int wb, .long wl, .int wu, .int wa]))] sz)) 0 0 (va_A [(wo, .inr (3, [.int wb, .long wl, .int wu, .int wa]))] sz) := by
  refine met_go (cc := prog_5_method_2_code) (maxL := 1) (ret := (some .boolean)) (QA := fun A => va_Qi (fun (r : Int32) (u : Unit) => r = zSet wa) (fun u t => gB D vwCl (tyv cI cL cW cZ) A [(wo, .inr (3, [.int wb, .long wl, .int wu, .int wa]))] t) A) (by decide) (Nat.le_of_ble_eq_true rfl) ?_
  intro p e s m below meth c A ls hx hb hr hml hT hN hown hlocks hin hl hP hK hD hA hS
  have hl : lv_has ls 1 [(0, .ref wo)] := hl
  refine lv_aload_n hx hb d_W_isSet_0 rfl (lv_at hl 0 rfl) ?_
  refine va_get (D := D) (ci := 3) (v := .int wa) (C := "OscillatorRow$Watch") (T := T_W) (N := 4) hx hb hT i_W hown hK hP 0 rfl rfl 3 (by decide) (hT _ k_80) (fun _ h9 => h9) rfl d_W_isSet_1 ?_
  refine lv_iconst (v := (-1)) hx hb d_W_isSet_4 (by decide) ?_
  refine lv_icmp_eq (tgt := 12) hx hb d_W_isSet_5 (by decide) (fun c5 => ?_) (fun c5 => ?_)
  · refine lv_iconst (v := 0) hx hb d_W_isSet_12 (by decide) ?_
    exact re_z (v := 0) () hx hb hr rfl hlocks (by rw [zSet, if_pos c5]) (hP.sub [0] rfl) hK (hD.sub [0] (by decide) rfl) hS d_W_isSet_13
  · refine lv_iconst (v := 1) hx hb d_W_isSet_8 (by decide) ?_
    refine lv_goto (tgt := 13) hx hb d_W_isSet_9 (by decide) ?_
    exact re_z (v := 1) () hx hb hr rfl hlocks (by rw [zSet, if_neg c5]) (hP.sub [0] rfl) hK (hD.sub [0] (by decide) rfl) hS d_W_isSet_13
set_option maxHeartbeats 4000000 in
set_option maxRecDepth 100000 in
theorem c_W_ishit (l : Launch) (D : va_G) (cI cL cW cZ : ClassId) (wo : Nat) (wb : Int32) (wl : Int64) (wu : Int32) (wa : Int32) (fr : Int64) (tt : Int64) (sz : Nat) : Met l y_W_isHitBy w_W_isHitBy ({ frames := 1, cells := 0, slots := 0, locals := 20 }) (va_Pc [.ref wo, .long fr, .long tt] (gP D vwCl (tyv cI cL cW cZ) [(wo, .inr (3, [.int wb, .long wl, .int wu, .int wa]))] sz)) (va_Qi (fun (r : Int32) (u : Unit) => r = zHit wa wl wu fr tt) (fun u t => gB D vwCl (tyv cI cL cW cZ) (va_A [(wo, .inr (3, [.int wb, .long wl, .int wu, .int wa]))] sz) [(wo, .inr (3, [.int wb, .long wl, .int wu, .int wa]))] t) (va_A [(wo, .inr (3, [.int wb, .long wl, .int wu, .int wa]))] sz)) 0 0 (va_A [(wo, .inr (3, [.int wb, .long wl, .int wu, .int wa]))] sz) := by
  refine met_go (cc := prog_5_method_3_code) (maxL := 5) (ret := (some .boolean)) (QA := fun A => va_Qi (fun (r : Int32) (u : Unit) => r = zHit wa wl wu fr tt) (fun u t => gB D vwCl (tyv cI cL cW cZ) A [(wo, .inr (3, [.int wb, .long wl, .int wu, .int wa]))] t) A) (by decide) (Nat.le_of_ble_eq_true rfl) ?_
  intro p e s m below meth c A ls hx hb hr hml hT hN hown hlocks hin hl hP hK hD hA hS
  have hl : lv_has ls 5 [(0, .ref wo), (1, .long fr), (3, .long tt)] := hl
  refine lv_aload_n hx hb d_W_isHitBy_0 rfl (lv_at hl 0 rfl) ?_
  have hPc := hP.sub (ws' := [(wo, .inr (3, [.int wb, .long wl, .int wu, .int wa]))]) [0] rfl
  have hDc := hD.sub (ws' := [(wo, .inr (3, [.int wb, .long wl, .int wu, .int wa]))]) [0] (by decide) rfl
  refine gc_i (w1 := fun (u : Unit) => [(wo, .inr (3, [.int wb, .long wl, .int wu, .int wa]))]) (wc := [(wo, .inr (3, [.int wb, .long wl, .int wu, .int wa]))]) (wr := []) hP hD hS hA [0] [] rfl rfl (by decide) (by decide) (va_runV (As := []) (rest := []) ⟨hx, hb, hml, hown, hT⟩ (c_W_isset l D cI cL cW cZ wo wb wl wu wa s.heap.size) (cwV 0 hT (good_V k_272 k_273 k_274 k_5 k_275) rfl rfl rfl (by decide +kernel) ⟨Nat.le_of_ble_eq_true rfl, Nat.le_of_ble_eq_true rfl⟩) (pre_V hPc hDc hK hN (ci := 3) rfl rfl) rfl rfl hl.1 rfl (lv_room (Nat.le_of_ble_eq_true rfl)) d_W_isHitBy_1 ⟨(Nat.le_of_ble_eq_true rfl), (Nat.le_of_ble_eq_true rfl)⟩) (fun r u H locs hw hP hD hS => ?_)
  try dsimp only at hw
  have hP : va_P D vwCl [(wo, .inr (3, [.int wb, .long wl, .int wu, .int wa]))] H := hP
  have hD : va_D A [(wo, .inr (3, [.int wb, .long wl, .int wu, .int wa]))] := hD
  subst hw
  refine lv_if_ne (tgt := 9) hx hb d_W_isHitBy_4 (by decide) (fun c4 => ?_) (fun c4 => ?_)
  · refine lv_aload_n hx hb d_W_isHitBy_9 rfl (lv_at hl 0 rfl) ?_
    refine va_get (D := D) (ci := 3) (v := .int wu) (C := "OscillatorRow$Watch") (T := T_W) (N := 4) hx hb hT i_W hown hK hP 0 rfl rfl 2 (by decide) (hT _ k_78) (fun _ h9 => h9) rfl d_W_isHitBy_10 ?_
    refine lv_if_eq (tgt := 42) hx hb d_W_isHitBy_13 (by decide) (fun c13 => ?_) (fun c13 => ?_)
    · refine lv_lload_n hx hb d_W_isHitBy_42 rfl (lv_at hl 1 rfl) ?_
      refine lv_aload_n hx hb d_W_isHitBy_43 rfl (lv_at hl 0 rfl) ?_
      refine va_get (D := D) (ci := 3) (v := .long wl) (C := "OscillatorRow$Watch") (T := T_W) (N := 4) hx hb hT i_W hown hK hP 0 rfl rfl 1 (by decide) (hT _ k_76) (fun _ h9 => h9) rfl d_W_isHitBy_44 ?_
      refine W.lcmp hx hb d_W_isHitBy_47 ?_
      refine lv_if_le (tgt := 64) hx hb d_W_isHitBy_48 (by decide) (fun c48 => ?_) (fun c48 => ?_)
      · have c48 := lgt_le c48
        refine lv_iconst (v := 0) hx hb d_W_isHitBy_64 (by decide) ?_
        exact re_z (v := 0) () hx hb hr rfl hlocks (by rw [zHit, if_pos c4, if_pos c13, if_pos c48]) (hP.sub [0] rfl) hK (hD.sub [0] (by decide) rfl) hS d_W_isHitBy_65
      · have c48 := lgf_le c48
        refine lv_lload_n hx hb d_W_isHitBy_51 rfl (lv_at hl 2 rfl) ?_
        refine lv_aload_n hx hb d_W_isHitBy_52 rfl (lv_at hl 0 rfl) ?_
        refine va_get (D := D) (ci := 3) (v := .long wl) (C := "OscillatorRow$Watch") (T := T_W) (N := 4) hx hb hT i_W hown hK hP 0 rfl rfl 1 (by decide) (hT _ k_76) (fun _ h9 => h9) rfl d_W_isHitBy_53 ?_
        refine W.lcmp hx hb d_W_isHitBy_56 ?_
        refine lv_if_gt (tgt := 64) hx hb d_W_isHitBy_57 (by decide) (fun c57 => ?_) (fun c57 => ?_)
        · have c57 := lgt_gt c57
          refine lv_iconst (v := 0) hx hb d_W_isHitBy_64 (by decide) ?_
          exact re_z (v := 0) () hx hb hr rfl hlocks (by rw [zHit, if_pos c4, if_pos c13, if_neg c48, if_pos c57]) (hP.sub [0] rfl) hK (hD.sub [0] (by decide) rfl) hS d_W_isHitBy_65
        · have c57 := lgf_gt c57
          refine lv_iconst (v := 1) hx hb d_W_isHitBy_60 (by decide) ?_
          refine lv_goto (tgt := 65) hx hb d_W_isHitBy_61 (by decide) ?_
          exact re_z (v := 1) () hx hb hr rfl hlocks (by rw [zHit, if_pos c4, if_pos c13, if_neg c48, if_neg c57]) (hP.sub [0] rfl) hK (hD.sub [0] (by decide) rfl) hS d_W_isHitBy_65
    · refine lv_lload_n hx hb d_W_isHitBy_16 rfl (lv_at hl 1 rfl) ?_
      refine lv_aload_n hx hb d_W_isHitBy_17 rfl (lv_at hl 0 rfl) ?_
      refine va_get (D := D) (ci := 3) (v := .long wl) (C := "OscillatorRow$Watch") (T := T_W) (N := 4) hx hb hT i_W hown hK hP 0 rfl rfl 1 (by decide) (hT _ k_76) (fun _ h9 => h9) rfl d_W_isHitBy_18 ?_
      refine W.lcmp hx hb d_W_isHitBy_21 ?_
      refine lv_if_ge (tgt := 38) hx hb d_W_isHitBy_22 (by decide) (fun c22 => ?_) (fun c22 => ?_)
      · have c22 := lgt_ge c22
        refine lv_iconst (v := 0) hx hb d_W_isHitBy_38 (by decide) ?_
        refine lv_goto (tgt := 65) hx hb d_W_isHitBy_39 (by decide) ?_
        exact re_z (v := 0) () hx hb hr rfl hlocks (by rw [zHit, if_pos c4, if_neg c13, if_pos c22]) (hP.sub [0] rfl) hK (hD.sub [0] (by decide) rfl) hS d_W_isHitBy_65
      · have c22 := lgf_ge c22
        refine lv_lload_n hx hb d_W_isHitBy_25 rfl (lv_at hl 2 rfl) ?_
        refine lv_aload_n hx hb d_W_isHitBy_26 rfl (lv_at hl 0 rfl) ?_
        refine va_get (D := D) (ci := 3) (v := .long wl) (C := "OscillatorRow$Watch") (T := T_W) (N := 4) hx hb hT i_W hown hK hP 0 rfl rfl 1 (by decide) (hT _ k_76) (fun _ h9 => h9) rfl d_W_isHitBy_27 ?_
        refine W.lcmp hx hb d_W_isHitBy_30 ?_
        refine lv_if_lt (tgt := 38) hx hb d_W_isHitBy_31 (by decide) (fun c31 => ?_) (fun c31 => ?_)
        · have c31 := lgt_lt c31
          refine lv_iconst (v := 0) hx hb d_W_isHitBy_38 (by decide) ?_
          refine lv_goto (tgt := 65) hx hb d_W_isHitBy_39 (by decide) ?_
          exact re_z (v := 0) () hx hb hr rfl hlocks (by rw [zHit, if_pos c4, if_neg c13, if_neg c22, if_pos c31]) (hP.sub [0] rfl) hK (hD.sub [0] (by decide) rfl) hS d_W_isHitBy_65
        · have c31 := lgf_lt c31
          refine lv_iconst (v := 1) hx hb d_W_isHitBy_34 (by decide) ?_
          refine lv_goto (tgt := 65) hx hb d_W_isHitBy_35 (by decide) ?_
          exact re_z (v := 1) () hx hb hr rfl hlocks (by rw [zHit, if_pos c4, if_neg c13, if_neg c22, if_neg c31]) (hP.sub [0] rfl) hK (hD.sub [0] (by decide) rfl) hS d_W_isHitBy_65
  · refine lv_iconst (v := 0) hx hb d_W_isHitBy_7 (by decide) ?_
    exact re_z (v := 0) () hx hb hr rfl hlocks (by rw [zHit, if_neg (fun q => q c4)]) (hP.sub [0] rfl) hK (hD.sub [0] (by decide) rfl) hS d_W_isHitBy_8
set_option maxHeartbeats 4000000 in
set_option maxRecDepth 100000 in
theorem c_W_till (l : Launch) (D : va_G) (cI cL cW cZ : ClassId) (wo : Nat) (wb : Int32) (wl : Int64) (wu : Int32) (wa : Int32) (fr : Int64) (tt : Int64) (tk : Int32) (sz : Nat) : Met l y_W_ticksUntilLevel w_W_ticksUntilLevel ({ frames := 1, cells := 0, slots := 0, locals := 17 }) (va_Pc [.ref wo, .long fr, .long tt, .int tk] (gP D vwCl (tyv cI cL cW cZ) [(wo, .inr (3, [.int wb, .long wl, .int wu, .int wa]))] sz)) (va_Qi (fun (r : Int32) (u : Unit) => r = zTill wl fr tt tk) (fun u t => gB D vwCl (tyv cI cL cW cZ) (va_A [(wo, .inr (3, [.int wb, .long wl, .int wu, .int wa]))] sz) [(wo, .inr (3, [.int wb, .long wl, .int wu, .int wa]))] t) (va_A [(wo, .inr (3, [.int wb, .long wl, .int wu, .int wa]))] sz)) 0 0 (va_A [(wo, .inr (3, [.int wb, .long wl, .int wu, .int wa]))] sz) := by
  refine met_go (cc := prog_5_method_4_code) (maxL := 10) (ret := (some .int)) (QA := fun A => va_Qi (fun (r : Int32) (u : Unit) => r = zTill wl fr tt tk) (fun u t => gB D vwCl (tyv cI cL cW cZ) A [(wo, .inr (3, [.int wb, .long wl, .int wu, .int wa]))] t) A) (by decide) (Nat.le_of_ble_eq_true rfl) ?_
  intro p e s m below meth c A ls hx hb hr hml hT hN hown hlocks hin hl hP hK hD hA hS
  have hl : lv_has ls 10 [(0, .ref wo), (1, .long fr), (3, .long tt), (5, .int tk)] := hl
  refine lv_lload_n hx hb d_W_ticksUntilLevel_0 rfl (lv_at hl 2 rfl) ?_
  refine lv_lload_n hx hb d_W_ticksUntilLevel_1 rfl (lv_at hl 1 rfl) ?_
  refine lv_lsub hx hb d_W_ticksUntilLevel_2 ?_
  refine va_mabs_long hx hb (by rw [hml, hl.1]) hown (hT _ k_280) (hT _ k_253) (hT _ k_2) (hT _ k_254) (Nat.le_of_ble_eq_true rfl) (Nat.le_of_ble_eq_true rfl) (Nat.le_of_ble_eq_true rfl) (Nat.le_of_ble_eq_true rfl) d_W_ticksUntilLevel_3 ?_
  refine top_l (y := (zAbs (tt - fr))) rfl ?_
  refine lv_lstore (lv' := [(6, .long (zAbs (tt - fr))), (0, .ref wo), (1, .long fr), (3, .long tt), (5, .int tk)]) hx hb d_W_ticksUntilLevel_6 hl (by decide) rfl (fun ls hl => ?_)
  refine lv_lload hx hb d_W_ticksUntilLevel_8 (lv_at hl 0 rfl) ?_
  refine lv_lconst (v := 0) hx hb d_W_ticksUntilLevel_10 (by decide) ?_
  refine W.lcmp hx hb d_W_ticksUntilLevel_11 ?_
  refine lv_if_ne (tgt := 17) hx hb d_W_ticksUntilLevel_12 (by decide) (fun c12 => ?_) (fun c12 => ?_)
  · have c12 := lgt_ne c12
    refine lv_iload hx hb d_W_ticksUntilLevel_17 (lv_at hl 4 rfl) ?_
    refine lv_i2l hx hb d_W_ticksUntilLevel_19 rfl ?_
    refine lv_aload_n hx hb d_W_ticksUntilLevel_20 rfl (lv_at hl 1 rfl) ?_
    refine va_get (D := D) (ci := 3) (v := .long wl) (C := "OscillatorRow$Watch") (T := T_W) (N := 4) hx hb hT i_W hown hK hP 0 rfl rfl 1 (by decide) (hT _ k_76) (fun _ h9 => h9) rfl d_W_ticksUntilLevel_21 ?_
    refine lv_lload_n hx hb d_W_ticksUntilLevel_24 rfl (lv_at hl 2 rfl) ?_
    refine lv_lsub hx hb d_W_ticksUntilLevel_25 ?_
    refine va_mabs_long hx hb (by rw [hml, hl.1]) hown (hT _ k_280) (hT _ k_253) (hT _ k_2) (hT _ k_254) (Nat.le_of_ble_eq_true rfl) (Nat.le_of_ble_eq_true rfl) (Nat.le_of_ble_eq_true rfl) (Nat.le_of_ble_eq_true rfl) d_W_ticksUntilLevel_26 ?_
    refine top_l (y := (zAbs (wl - fr))) rfl ?_
    refine lv_lmul hx hb d_W_ticksUntilLevel_29 ?_
    refine lv_lstore (lv' := [(8, .long (tk.toInt64 * (zAbs (wl - fr)))), (6, .long (zAbs (tt - fr))), (0, .ref wo), (1, .long fr), (3, .long tt), (5, .int tk)]) hx hb d_W_ticksUntilLevel_30 hl (by decide) rfl (fun ls hl => ?_)
    refine lv_lload hx hb d_W_ticksUntilLevel_32 (lv_at hl 0 rfl) ?_
    refine lv_lload hx hb d_W_ticksUntilLevel_34 (lv_at hl 1 rfl) ?_
    refine lv_ladd hx hb d_W_ticksUntilLevel_36 ?_
    refine lv_lconst (v := 1) hx hb d_W_ticksUntilLevel_37 (by decide) ?_
    refine lv_lsub hx hb d_W_ticksUntilLevel_38 ?_
    refine lv_lload hx hb d_W_ticksUntilLevel_39 (lv_at hl 1 rfl) ?_
    refine lv_ldiv hx hb d_W_ticksUntilLevel_41 c12 ?_
    refine lv_l2i hx hb d_W_ticksUntilLevel_42 rfl ?_
    exact re_i (v := ((((tk.toInt64 * (zAbs (wl - fr))) + (zAbs (tt - fr))) - 1) / (zAbs (tt - fr))).toInt32) () hx hb hr hlocks (by rw [zTill, if_pos c12]) (hP.sub [0] rfl) hK (hD.sub [0] (by decide) rfl) hS d_W_ticksUntilLevel_43
  · have c12 := lgf_ne c12
    refine lv_iconst (v := 0) hx hb d_W_ticksUntilLevel_15 (by decide) ?_
    exact re_i (v := 0) () hx hb hr hlocks (by rw [zTill, if_neg (fun q => q c12)]) (hP.sub [0] rfl) hK (hD.sub [0] (by decide) rfl) hS d_W_ticksUntilLevel_16
set_option maxHeartbeats 4000000 in
set_option maxRecDepth 100000 in
theorem c_H_keeps (l : Launch) (D : va_G) (cI cL cW cZ : ClassId) (hi : Nat) (a1 : Nat) (a2 : Nat) (a3 : Nat) (ct : Nat) (f1 : Nat → Int32) (f2 : Nat → Int32) (f3 : Nat → Int32) (ia : Int32) (sz : Nat) : Met l y_H_keeps w_H_keeps ({ frames := 0, cells := 0, slots := 0, locals := 0 }) (va_Pc [.ref hi, .int ia] (gP D vwCl (tyv cI cL cW cZ) [(hi, .inr (0, [.ref a1, .ref a2, .ref a3, .int (nI ct)])), (a1, .inl (cI, 40, .inl f1)), (a2, .inl (cI, 40, .inl f2)), (a3, .inl (cI, 40, .inl f3))] sz)) (va_Qi (fun (r : Int32) (u : Unit) => r = zKeep ia (nI ct)) (fun u t => gB D vwCl (tyv cI cL cW cZ) (va_A [(hi, .inr (0, [.ref a1, .ref a2, .ref a3, .int (nI ct)])), (a1, .inl (cI, 40, .inl f1)), (a2, .inl (cI, 40, .inl f2)), (a3, .inl (cI, 40, .inl f3))] sz) [(hi, .inr (0, [.ref a1, .ref a2, .ref a3, .int (nI ct)])), (a1, .inl (cI, 40, .inl f1)), (a2, .inl (cI, 40, .inl f2)), (a3, .inl (cI, 40, .inl f3))] t) (va_A [(hi, .inr (0, [.ref a1, .ref a2, .ref a3, .int (nI ct)])), (a1, .inl (cI, 40, .inl f1)), (a2, .inl (cI, 40, .inl f2)), (a3, .inl (cI, 40, .inl f3))] sz)) 0 0 (va_A [(hi, .inr (0, [.ref a1, .ref a2, .ref a3, .int (nI ct)])), (a1, .inl (cI, 40, .inl f1)), (a2, .inl (cI, 40, .inl f2)), (a3, .inl (cI, 40, .inl f3))] sz) := by
  refine met_go (cc := prog_2_method_2_code) (maxL := 2) (ret := (some .boolean)) (QA := fun A => va_Qi (fun (r : Int32) (u : Unit) => r = zKeep ia (nI ct)) (fun u t => gB D vwCl (tyv cI cL cW cZ) A [(hi, .inr (0, [.ref a1, .ref a2, .ref a3, .int (nI ct)])), (a1, .inl (cI, 40, .inl f1)), (a2, .inl (cI, 40, .inl f2)), (a3, .inl (cI, 40, .inl f3))] t) A) (by decide) (Nat.le_of_ble_eq_true rfl) ?_
  intro p e s m below meth c A ls hx hb hr hml hT hN hown hlocks hin hl hP hK hD hA hS
  have hl : lv_has ls 2 [(0, .ref hi), (1, .int ia)] := hl
  refine lv_iload_n hx hb d_H_keeps_0 rfl (lv_at hl 1 rfl) ?_
  refine lv_if_lt (tgt := 22) hx hb d_H_keeps_1 (by decide) (fun c1 => ?_) (fun c1 => ?_)
  · refine lv_iconst (v := 0) hx hb d_H_keeps_22 (by decide) ?_
    exact re_z (v := 0) () hx hb hr rfl hlocks (by rw [zKeep, if_pos c1]) (hP.sub [0, 1, 2, 3] rfl) hK (hD.sub [0, 1, 2, 3] (by decide) rfl) hS d_H_keeps_23
  · refine lv_iload_n hx hb d_H_keeps_4 rfl (lv_at hl 1 rfl) ?_
    refine lv_bipush (v := 40) hx hb d_H_keeps_5 (by decide) ?_
    refine lv_icmp_ge (tgt := 22) hx hb d_H_keeps_7 (by decide) (fun c7 => ?_) (fun c7 => ?_)
    · refine lv_iconst (v := 0) hx hb d_H_keeps_22 (by decide) ?_
      exact re_z (v := 0) () hx hb hr rfl hlocks (by rw [zKeep, if_neg c1, if_pos c7]) (hP.sub [0, 1, 2, 3] rfl) hK (hD.sub [0, 1, 2, 3] (by decide) rfl) hS d_H_keeps_23
    · refine lv_iload_n hx hb d_H_keeps_10 rfl (lv_at hl 1 rfl) ?_
      refine lv_aload_n hx hb d_H_keeps_11 rfl (lv_at hl 0 rfl) ?_
      refine va_get (D := D) (ci := 0) (v := .int (nI ct)) (C := "OscillatorRow$Hits") (T := T_H) (N := 4) hx hb hT i_H hown hK hP 0 rfl rfl 3 (by decide) (hT _ k_103) (fun _ h9 => h9) rfl d_H_keeps_12 ?_
      refine lv_icmp_ge (tgt := 22) hx hb d_H_keeps_15 (by decide) (fun c15 => ?_) (fun c15 => ?_)
      · refine lv_iconst (v := 0) hx hb d_H_keeps_22 (by decide) ?_
        exact re_z (v := 0) () hx hb hr rfl hlocks (by rw [zKeep, if_neg c1, if_neg c7, if_pos c15]) (hP.sub [0, 1, 2, 3] rfl) hK (hD.sub [0, 1, 2, 3] (by decide) rfl) hS d_H_keeps_23
      · refine lv_iconst (v := 1) hx hb d_H_keeps_18 (by decide) ?_
        refine lv_goto (tgt := 23) hx hb d_H_keeps_19 (by decide) ?_
        exact re_z (v := 1) () hx hb hr rfl hlocks (by rw [zKeep, if_neg c1, if_neg c7, if_neg c15]) (hP.sub [0, 1, 2, 3] rfl) hK (hD.sub [0, 1, 2, 3] (by decide) rfl) hS d_H_keeps_23
set_option maxHeartbeats 4000000 in
set_option maxRecDepth 100000 in
theorem c_H_note (l : Launch) (D : va_G) (cI cL cW cZ : ClassId) (hi : Nat) (a1 : Nat) (a2 : Nat) (a3 : Nat) (ct : Nat) (f1 : Nat → Int32) (f2 : Nat → Int32) (f3 : Nat → Int32) (ia : Int32) (ib : Int32) (ic : Int32) (sz : Nat) (hc : ct < 2 ^ 30) : Met l y_H_note w_H_note ({ frames := 0, cells := 0, slots := 0, locals := 0 }) (va_Pc [.ref hi, .int ia, .int ib, .int ic] (gP D vwCl (tyv cI cL cW cZ) [(hi, .inr (0, [.ref a1, .ref a2, .ref a3, .int (nI ct)])), (a1, .inl (cI, 40, .inl f1)), (a2, .inl (cI, 40, .inl f2)), (a3, .inl (cI, 40, .inl f3))] sz)) (va_Qv (fun (u : Unit) => True) (fun u t => gB D vwCl (tyv cI cL cW cZ) (va_A [(hi, .inr (0, [.ref a1, .ref a2, .ref a3, .int (nI ct)])), (a1, .inl (cI, 40, .inl f1)), (a2, .inl (cI, 40, .inl f2)), (a3, .inl (cI, 40, .inl f3))] sz) [(hi, .inr (0, [.ref a1, .ref a2, .ref a3, .int (nI (ct + 1))])), (a1, .inl (cI, 40, .inl (zPut ct f1 ia))), (a2, .inl (cI, 40, .inl (zPut ct f2 ib))), (a3, .inl (cI, 40, .inl (zPut ct f3 ic)))] t) (va_A [(hi, .inr (0, [.ref a1, .ref a2, .ref a3, .int (nI ct)])), (a1, .inl (cI, 40, .inl f1)), (a2, .inl (cI, 40, .inl f2)), (a3, .inl (cI, 40, .inl f3))] sz)) 0 0 (va_A [(hi, .inr (0, [.ref a1, .ref a2, .ref a3, .int (nI ct)])), (a1, .inl (cI, 40, .inl f1)), (a2, .inl (cI, 40, .inl f2)), (a3, .inl (cI, 40, .inl f3))] sz) := by
  refine met_go (cc := prog_2_method_3_code) (maxL := 4) (ret := none) (QA := fun A => va_Qv (fun (u : Unit) => True) (fun u t => gB D vwCl (tyv cI cL cW cZ) A [(hi, .inr (0, [.ref a1, .ref a2, .ref a3, .int (nI (ct + 1))])), (a1, .inl (cI, 40, .inl (zPut ct f1 ia))), (a2, .inl (cI, 40, .inl (zPut ct f2 ib))), (a3, .inl (cI, 40, .inl (zPut ct f3 ic)))] t) A) (by decide) (Nat.le_of_ble_eq_true rfl) ?_
  intro p e s m below meth c A ls hx hb hr hml hT hN hown hlocks hin hl hP hK hD hA hS
  have hl : lv_has ls 4 [(0, .ref hi), (1, .int ia), (2, .int ib), (3, .int ic)] := hl
  refine lv_aload_n hx hb d_H_note_0 rfl (lv_at hl 0 rfl) ?_
  refine va_get (D := D) (ci := 0) (v := .int (nI ct)) (C := "OscillatorRow$Hits") (T := T_H) (N := 4) hx hb hT i_H hown hK hP 0 rfl rfl 3 (by decide) (hT _ k_103) (fun _ h9 => h9) rfl d_H_note_1 ?_
  refine lv_bipush (v := 40) hx hb d_H_note_4 (by decide) ?_
  refine lv_icmp_ge (tgt := 39) hx hb d_H_note_6 (by decide) (fun c6 => ?_) (fun c6 => ?_)
  · have c6 := nI_leM (a := 40) c6 (by omega) (by omega)
    refine lv_aload_n hx hb d_H_note_39 rfl (lv_at hl 0 rfl) ?_
    refine lv_dup hx hb d_H_note_40 rfl ?_
    refine va_get (D := D) (ci := 0) (v := .int (nI ct)) (C := "OscillatorRow$Hits") (T := T_H) (N := 4) hx hb hT i_H hown hK hP 0 rfl rfl 3 (by decide) (hT _ k_103) (fun _ h9 => h9) rfl d_H_note_41 ?_
    refine lv_iconst (v := 1) hx hb d_H_note_44 (by decide) ?_
    refine lv_iadd hx hb d_H_note_45 ?_
    refine top_i (y := (nI (ct + 1))) (nI_1 ct) ?_
    refine va_put (D := D) (ci := 0) (v := .int (nI (ct + 1))) (ty := (.int)) (C := "OscillatorRow$Hits") (T := T_H) (N := 4) hx hb hT i_H t_H t_H_ok n_H_ok hown hK hP hD hS 0 rfl rfl 3 (by decide) (hT _ k_103) (fun _ h9 => h9) rfl (by decide +kernel) rfl rfl (Nat.le_of_ble_eq_true rfl) d_H_note_46 (fun H locs hP hD hS => ?_)
    have hP : va_P D vwCl [(hi, .inr (0, [.ref a1, .ref a2, .ref a3, .int (nI (ct + 1))])), (a1, .inl (cI, 40, .inl f1)), (a2, .inl (cI, 40, .inl f2)), (a3, .inl (cI, 40, .inl f3))] H := hP
    have hD : va_D A [(hi, .inr (0, [.ref a1, .ref a2, .ref a3, .int (nI (ct + 1))])), (a1, .inl (cI, 40, .inl f1)), (a2, .inl (cI, 40, .inl f2)), (a3, .inl (cI, 40, .inl f3))] := hD
    have hP : va_P D vwCl [(hi, .inr (0, [.ref a1, .ref a2, .ref a3, .int (nI (ct + 1))])), (a1, .inl (cI, 40, .inl (zPut ct f1 ia))), (a2, .inl (cI, 40, .inl f2)), (a3, .inl (cI, 40, .inl f3))] H := by rw [zPut_ge (f := f1) (v := ia) c6]; exact hP
    have hD : va_D A [(hi, .inr (0, [.ref a1, .ref a2, .ref a3, .int (nI (ct + 1))])), (a1, .inl (cI, 40, .inl (zPut ct f1 ia))), (a2, .inl (cI, 40, .inl f2)), (a3, .inl (cI, 40, .inl f3))] := by rw [zPut_ge (f := f1) (v := ia) c6]; exact hD
    have hP : va_P D vwCl [(hi, .inr (0, [.ref a1, .ref a2, .ref a3, .int (nI (ct + 1))])), (a1, .inl (cI, 40, .inl (zPut ct f1 ia))), (a2, .inl (cI, 40, .inl (zPut ct f2 ib))), (a3, .inl (cI, 40, .inl f3))] H := by rw [zPut_ge (f := f2) (v := ib) c6]; exact hP
    have hD : va_D A [(hi, .inr (0, [.ref a1, .ref a2, .ref a3, .int (nI (ct + 1))])), (a1, .inl (cI, 40, .inl (zPut ct f1 ia))), (a2, .inl (cI, 40, .inl (zPut ct f2 ib))), (a3, .inl (cI, 40, .inl f3))] := by rw [zPut_ge (f := f2) (v := ib) c6]; exact hD
    have hP : va_P D vwCl [(hi, .inr (0, [.ref a1, .ref a2, .ref a3, .int (nI (ct + 1))])), (a1, .inl (cI, 40, .inl (zPut ct f1 ia))), (a2, .inl (cI, 40, .inl (zPut ct f2 ib))), (a3, .inl (cI, 40, .inl (zPut ct f3 ic)))] H := by rw [zPut_ge (f := f3) (v := ic) c6]; exact hP
    have hD : va_D A [(hi, .inr (0, [.ref a1, .ref a2, .ref a3, .int (nI (ct + 1))])), (a1, .inl (cI, 40, .inl (zPut ct f1 ia))), (a2, .inl (cI, 40, .inl (zPut ct f2 ib))), (a3, .inl (cI, 40, .inl (zPut ct f3 ic)))] := by rw [zPut_ge (f := f3) (v := ic) c6]; exact hD
    exact re_v () hx hb hr hlocks trivial (hP.sub [0, 1, 2, 3] rfl) hK (hD.sub [0, 1, 2, 3] (by decide) rfl) hS d_H_note_49
  · have c6 := nI_nleM (a := 40) c6 (by omega) (by omega)
    refine lv_aload_n hx hb d_H_note_9 rfl (lv_at hl 0 rfl) ?_
    refine va_get (D := D) (ci := 0) (v := .ref a1) (C := "OscillatorRow$Hits") (T := T_H) (N := 4) hx hb hT i_H hown hK hP 0 rfl rfl 0 (by decide) (hT _ k_97) (fun _ h9 => h9) rfl d_H_note_10 ?_
    refine lv_aload_n hx hb d_H_note_13 rfl (lv_at hl 0 rfl) ?_
    refine va_get (D := D) (ci := 0) (v := .int (nI ct)) (C := "OscillatorRow$Hits") (T := T_H) (N := 4) hx hb hT i_H hown hK hP 0 rfl rfl 3 (by decide) (hT _ k_103) (fun _ h9 => h9) rfl d_H_note_14 ?_
    refine lv_iload_n hx hb d_H_note_17 rfl (lv_at hl 1 rfl) ?_
    refine ra_iast (j := ct) hx hb hK hP hD hS 1 0 rfl rfl (by omega) (by omega) d_H_note_18 (fun H locs hP hD hS => ?_)
    have hP : va_P D vwCl [(hi, .inr (0, [.ref a1, .ref a2, .ref a3, .int (nI ct)])), (a1, .inl (cI, 40, .inl (upd f1 ct ia))), (a2, .inl (cI, 40, .inl f2)), (a3, .inl (cI, 40, .inl f3))] H := hP
    have hD : va_D A [(hi, .inr (0, [.ref a1, .ref a2, .ref a3, .int (nI ct)])), (a1, .inl (cI, 40, .inl (upd f1 ct ia))), (a2, .inl (cI, 40, .inl f2)), (a3, .inl (cI, 40, .inl f3))] := hD
    refine lv_aload_n hx hb d_H_note_19 rfl (lv_at hl 0 rfl) ?_
    refine va_get (D := D) (ci := 0) (v := .ref a2) (C := "OscillatorRow$Hits") (T := T_H) (N := 4) hx hb hT i_H hown hK hP 0 rfl rfl 1 (by decide) (hT _ k_99) (fun _ h9 => h9) rfl d_H_note_20 ?_
    refine lv_aload_n hx hb d_H_note_23 rfl (lv_at hl 0 rfl) ?_
    refine va_get (D := D) (ci := 0) (v := .int (nI ct)) (C := "OscillatorRow$Hits") (T := T_H) (N := 4) hx hb hT i_H hown hK hP 0 rfl rfl 3 (by decide) (hT _ k_103) (fun _ h9 => h9) rfl d_H_note_24 ?_
    refine lv_iload_n hx hb d_H_note_27 rfl (lv_at hl 2 rfl) ?_
    refine ra_iast (j := ct) hx hb hK hP hD hS 2 0 rfl rfl (by omega) (by omega) d_H_note_28 (fun H locs hP hD hS => ?_)
    have hP : va_P D vwCl [(hi, .inr (0, [.ref a1, .ref a2, .ref a3, .int (nI ct)])), (a1, .inl (cI, 40, .inl (upd f1 ct ia))), (a2, .inl (cI, 40, .inl (upd f2 ct ib))), (a3, .inl (cI, 40, .inl f3))] H := hP
    have hD : va_D A [(hi, .inr (0, [.ref a1, .ref a2, .ref a3, .int (nI ct)])), (a1, .inl (cI, 40, .inl (upd f1 ct ia))), (a2, .inl (cI, 40, .inl (upd f2 ct ib))), (a3, .inl (cI, 40, .inl f3))] := hD
    refine lv_aload_n hx hb d_H_note_29 rfl (lv_at hl 0 rfl) ?_
    refine va_get (D := D) (ci := 0) (v := .ref a3) (C := "OscillatorRow$Hits") (T := T_H) (N := 4) hx hb hT i_H hown hK hP 0 rfl rfl 2 (by decide) (hT _ k_101) (fun _ h9 => h9) rfl d_H_note_30 ?_
    refine lv_aload_n hx hb d_H_note_33 rfl (lv_at hl 0 rfl) ?_
    refine va_get (D := D) (ci := 0) (v := .int (nI ct)) (C := "OscillatorRow$Hits") (T := T_H) (N := 4) hx hb hT i_H hown hK hP 0 rfl rfl 3 (by decide) (hT _ k_103) (fun _ h9 => h9) rfl d_H_note_34 ?_
    refine lv_iload_n hx hb d_H_note_37 rfl (lv_at hl 3 rfl) ?_
    refine ra_iast (j := ct) hx hb hK hP hD hS 3 0 rfl rfl (by omega) (by omega) d_H_note_38 (fun H locs hP hD hS => ?_)
    have hP : va_P D vwCl [(hi, .inr (0, [.ref a1, .ref a2, .ref a3, .int (nI ct)])), (a1, .inl (cI, 40, .inl (upd f1 ct ia))), (a2, .inl (cI, 40, .inl (upd f2 ct ib))), (a3, .inl (cI, 40, .inl (upd f3 ct ic)))] H := hP
    have hD : va_D A [(hi, .inr (0, [.ref a1, .ref a2, .ref a3, .int (nI ct)])), (a1, .inl (cI, 40, .inl (upd f1 ct ia))), (a2, .inl (cI, 40, .inl (upd f2 ct ib))), (a3, .inl (cI, 40, .inl (upd f3 ct ic)))] := hD
    refine lv_aload_n hx hb d_H_note_39 rfl (lv_at hl 0 rfl) ?_
    refine lv_dup hx hb d_H_note_40 rfl ?_
    refine va_get (D := D) (ci := 0) (v := .int (nI ct)) (C := "OscillatorRow$Hits") (T := T_H) (N := 4) hx hb hT i_H hown hK hP 0 rfl rfl 3 (by decide) (hT _ k_103) (fun _ h9 => h9) rfl d_H_note_41 ?_
    refine lv_iconst (v := 1) hx hb d_H_note_44 (by decide) ?_
    refine lv_iadd hx hb d_H_note_45 ?_
    refine top_i (y := (nI (ct + 1))) (nI_1 ct) ?_
    refine va_put (D := D) (ci := 0) (v := .int (nI (ct + 1))) (ty := (.int)) (C := "OscillatorRow$Hits") (T := T_H) (N := 4) hx hb hT i_H t_H t_H_ok n_H_ok hown hK hP hD hS 0 rfl rfl 3 (by decide) (hT _ k_103) (fun _ h9 => h9) rfl (by decide +kernel) rfl rfl (Nat.le_of_ble_eq_true rfl) d_H_note_46 (fun H locs hP hD hS => ?_)
    have hP : va_P D vwCl [(hi, .inr (0, [.ref a1, .ref a2, .ref a3, .int (nI (ct + 1))])), (a1, .inl (cI, 40, .inl (upd f1 ct ia))), (a2, .inl (cI, 40, .inl (upd f2 ct ib))), (a3, .inl (cI, 40, .inl (upd f3 ct ic)))] H := hP
    have hD : va_D A [(hi, .inr (0, [.ref a1, .ref a2, .ref a3, .int (nI (ct + 1))])), (a1, .inl (cI, 40, .inl (upd f1 ct ia))), (a2, .inl (cI, 40, .inl (upd f2 ct ib))), (a3, .inl (cI, 40, .inl (upd f3 ct ic)))] := hD
    have hP : va_P D vwCl [(hi, .inr (0, [.ref a1, .ref a2, .ref a3, .int (nI (ct + 1))])), (a1, .inl (cI, 40, .inl (zPut ct f1 ia))), (a2, .inl (cI, 40, .inl (upd f2 ct ib))), (a3, .inl (cI, 40, .inl (upd f3 ct ic)))] H := by rw [zPut_lt (f := f1) (v := ia) c6]; exact hP
    have hD : va_D A [(hi, .inr (0, [.ref a1, .ref a2, .ref a3, .int (nI (ct + 1))])), (a1, .inl (cI, 40, .inl (zPut ct f1 ia))), (a2, .inl (cI, 40, .inl (upd f2 ct ib))), (a3, .inl (cI, 40, .inl (upd f3 ct ic)))] := by rw [zPut_lt (f := f1) (v := ia) c6]; exact hD
    have hP : va_P D vwCl [(hi, .inr (0, [.ref a1, .ref a2, .ref a3, .int (nI (ct + 1))])), (a1, .inl (cI, 40, .inl (zPut ct f1 ia))), (a2, .inl (cI, 40, .inl (zPut ct f2 ib))), (a3, .inl (cI, 40, .inl (upd f3 ct ic)))] H := by rw [zPut_lt (f := f2) (v := ib) c6]; exact hP
    have hD : va_D A [(hi, .inr (0, [.ref a1, .ref a2, .ref a3, .int (nI (ct + 1))])), (a1, .inl (cI, 40, .inl (zPut ct f1 ia))), (a2, .inl (cI, 40, .inl (zPut ct f2 ib))), (a3, .inl (cI, 40, .inl (upd f3 ct ic)))] := by rw [zPut_lt (f := f2) (v := ib) c6]; exact hD
    have hP : va_P D vwCl [(hi, .inr (0, [.ref a1, .ref a2, .ref a3, .int (nI (ct + 1))])), (a1, .inl (cI, 40, .inl (zPut ct f1 ia))), (a2, .inl (cI, 40, .inl (zPut ct f2 ib))), (a3, .inl (cI, 40, .inl (zPut ct f3 ic)))] H := by rw [zPut_lt (f := f3) (v := ic) c6]; exact hP
    have hD : va_D A [(hi, .inr (0, [.ref a1, .ref a2, .ref a3, .int (nI (ct + 1))])), (a1, .inl (cI, 40, .inl (zPut ct f1 ia))), (a2, .inl (cI, 40, .inl (zPut ct f2 ib))), (a3, .inl (cI, 40, .inl (zPut ct f3 ic)))] := by rw [zPut_lt (f := f3) (v := ic) c6]; exact hD
    exact re_v () hx hb hr hlocks trivial (hP.sub [0, 1, 2, 3] rfl) hK (hD.sub [0, 1, 2, 3] (by decide) rfl) hS d_H_note_49
set_option maxHeartbeats 4000000 in
set_option maxRecDepth 100000 in
theorem c_S_init (l : Launch) (D : va_G) (cI cL cW cZ : ClassId) (sp : Nat) (n : Nat) (sz : Nat) (hn : n ≤ 4) : Met l y_S_init w_S_init ({ frames := 1, cells := 4, slots := 16, locals := 12 }) (va_Pc [.ref sp, .int (nI n)] (gP D vwCl (tyv cI cL cW cZ) [(sp, .inr (2, [.int 0, .null, .null, .null, .null]))] sz)) (va_Qv (fun (u : Nat × Nat × Nat × Nat) => True) (fun u t => gB D vwCl (tyv cI cL cW cZ) (va_A [(sp, .inr (2, [.int 0, .null, .null, .null, .null]))] sz) [(sp, .inr (2, [.int (nI n), .ref u.1, .ref u.2.1, .ref u.2.2.1, .ref u.2.2.2])), (u.1, .inl (cI, n, .inl (fun _ => 0))), (u.2.1, .inl (cI, n, .inl (fun _ => 0))), (u.2.2.1, .inl (cI, n, .inl (fun _ => 0))), (u.2.2.2, .inl (cI, n, .inl (fun _ => 0)))] t) (va_A [(sp, .inr (2, [.int 0, .null, .null, .null, .null]))] sz)) 4 16 (va_A [(sp, .inr (2, [.int 0, .null, .null, .null, .null]))] sz) := by
  refine met_go (cc := prog_4_method_1_code) (maxL := 2) (ret := none) (QA := fun A => va_Qv (fun (u : Nat × Nat × Nat × Nat) => True) (fun u t => gB D vwCl (tyv cI cL cW cZ) A [(sp, .inr (2, [.int (nI n), .ref u.1, .ref u.2.1, .ref u.2.2.1, .ref u.2.2.2])), (u.1, .inl (cI, n, .inl (fun _ => 0))), (u.2.1, .inl (cI, n, .inl (fun _ => 0))), (u.2.2.1, .inl (cI, n, .inl (fun _ => 0))), (u.2.2.2, .inl (cI, n, .inl (fun _ => 0)))] t) A) (by decide) (Nat.le_of_ble_eq_true rfl) ?_
  intro p e s m below meth c A ls hx hb hr hml hT hN hown hlocks hin hl hP hK hD hA hS
  have hl : lv_has ls 2 [(0, .ref sp), (1, .int (nI n))] := hl
  refine lv_aload_n hx hb d_S_init_0 rfl (lv_at hl 0 rfl) ?_
  refine W.objInit hx hb hown (hT _ k_28) (hT _ k_15) (hT _ k_16) rfl (by rw [hml]; exact hl.1) rfl d_S_init_1 (Nat.le_of_ble_eq_true rfl) (Nat.le_of_ble_eq_true rfl) ?_
  refine W.eq (g2 := F0 m 4 ls []) rfl ?_
  refine lv_aload_n hx hb d_S_init_4 rfl (lv_at hl 0 rfl) ?_
  refine lv_iload_n hx hb d_S_init_5 rfl (lv_at hl 1 rfl) ?_
  refine va_putF (D := D) (ci := 2) (v := .int (nI n)) (ty := (.int)) (C := "OscillatorRow$Springs") (T := T_S) (N := 5) hx hb hT i_S t_S t_S_ok n_S_ok hown hK hP hD hS 0 rfl rfl 0 (by decide) (hT _ k_29) (fun _ h9 => h9) rfl hin rfl (by decide +kernel) rfl rfl (Nat.le_of_ble_eq_true rfl) d_S_init_6 (fun H locs hP hD hS => ?_)
  have hP : va_P D vwCl [(sp, .inr (2, [.int (nI n), .null, .null, .null, .null]))] H := hP
  have hD : va_D A [(sp, .inr (2, [.int (nI n), .null, .null, .null, .null]))] := hD
  refine lv_aload_n hx hb d_S_init_9 rfl (lv_at hl 0 rfl) ?_
  refine lv_iload_n hx hb d_S_init_10 rfl (lv_at hl 1 rfl) ?_
  refine va_newa (atype := .int) (a0 := (n, .inl (fun _ => 0))) (ty := .int) (N' := n) hx hb (hT _ k_49) rfl hK hP hD hS hA (fun _ => rfl) (nI_pos (by omega)) (nI_clamp (by omega)) (Nat.le_trans (Nat.mul_le_mul_right _ (show n ≤ 4 by omega)) (by decide)) (show 0 + 1 ≤ 4 by omega) (show 0 + n ≤ 16 by omega) d_S_init_11 (fun b1 cA H hK9 hP hD hS => ?_)
  obtain rfl : cI = cA := kk_one (i := 0) (j := 4) hK9 rfl rfl
  have hP : va_P D vwCl [(sp, .inr (2, [.int (nI n), .null, .null, .null, .null])), (b1, .inl (cI, n, .inl (fun _ => 0)))] H := hP
  have hD : va_D A [(sp, .inr (2, [.int (nI n), .null, .null, .null, .null])), (b1, .inl (cI, n, .inl (fun _ => 0)))] := hD
  refine W.widen (k := 1) (n := 4) (by omega) (by omega) ?_
  refine va_putF (D := D) (ci := 2) (v := .ref b1) (ty := (.array .int)) (C := "OscillatorRow$Springs") (T := T_S) (N := 5) hx hb hT i_S t_S t_S_ok n_S_ok hown hK hP hD hS 0 rfl rfl 1 (by decide) (hT _ k_30) (fun _ h9 => h9) rfl hin rfl (by decide +kernel) rfl rfl (Nat.le_of_ble_eq_true rfl) d_S_init_13 (fun H locs hP hD hS => ?_)
  have hP : va_P D vwCl [(sp, .inr (2, [.int (nI n), .ref b1, .null, .null, .null])), (b1, .inl (cI, n, .inl (fun _ => 0)))] H := hP
  have hD : va_D A [(sp, .inr (2, [.int (nI n), .ref b1, .null, .null, .null])), (b1, .inl (cI, n, .inl (fun _ => 0)))] := hD
  refine lv_aload_n hx hb d_S_init_16 rfl (lv_at hl 0 rfl) ?_
  refine lv_iload_n hx hb d_S_init_17 rfl (lv_at hl 1 rfl) ?_
  refine va_newa (atype := .int) (a0 := (n, .inl (fun _ => 0))) (ty := .int) (N' := n) hx hb (hT _ k_49) rfl hK hP hD hS hA (fun _ => rfl) (nI_pos (by omega)) (nI_clamp (by omega)) (Nat.le_trans (Nat.mul_le_mul_right _ (show n ≤ 4 by omega)) (by decide)) (show 1 + 1 ≤ 4 by omega) (show 4 + n ≤ 16 by omega) d_S_init_18 (fun b2 cA H hK9 hP hD hS => ?_)
  obtain rfl : cI = cA := kk_one (i := 0) (j := 4) hK9 rfl rfl
  have hP : va_P D vwCl [(sp, .inr (2, [.int (nI n), .ref b1, .null, .null, .null])), (b1, .inl (cI, n, .inl (fun _ => 0))), (b2, .inl (cI, n, .inl (fun _ => 0)))] H := hP
  have hD : va_D A [(sp, .inr (2, [.int (nI n), .ref b1, .null, .null, .null])), (b1, .inl (cI, n, .inl (fun _ => 0))), (b2, .inl (cI, n, .inl (fun _ => 0)))] := hD
  refine W.widen (k := 2) (n := 8) (by omega) (by omega) ?_
  refine va_putF (D := D) (ci := 2) (v := .ref b2) (ty := (.array .int)) (C := "OscillatorRow$Springs") (T := T_S) (N := 5) hx hb hT i_S t_S t_S_ok n_S_ok hown hK hP hD hS 0 rfl rfl 2 (by decide) (hT _ k_32) (fun _ h9 => h9) rfl hin rfl (by decide +kernel) rfl rfl (Nat.le_of_ble_eq_true rfl) d_S_init_20 (fun H locs hP hD hS => ?_)
  have hP : va_P D vwCl [(sp, .inr (2, [.int (nI n), .ref b1, .ref b2, .null, .null])), (b1, .inl (cI, n, .inl (fun _ => 0))), (b2, .inl (cI, n, .inl (fun _ => 0)))] H := hP
  have hD : va_D A [(sp, .inr (2, [.int (nI n), .ref b1, .ref b2, .null, .null])), (b1, .inl (cI, n, .inl (fun _ => 0))), (b2, .inl (cI, n, .inl (fun _ => 0)))] := hD
  refine lv_aload_n hx hb d_S_init_23 rfl (lv_at hl 0 rfl) ?_
  refine lv_iload_n hx hb d_S_init_24 rfl (lv_at hl 1 rfl) ?_
  refine va_newa (atype := .int) (a0 := (n, .inl (fun _ => 0))) (ty := .int) (N' := n) hx hb (hT _ k_49) rfl hK hP hD hS hA (fun _ => rfl) (nI_pos (by omega)) (nI_clamp (by omega)) (Nat.le_trans (Nat.mul_le_mul_right _ (show n ≤ 4 by omega)) (by decide)) (show 2 + 1 ≤ 4 by omega) (show 8 + n ≤ 16 by omega) d_S_init_25 (fun b3 cA H hK9 hP hD hS => ?_)
  obtain rfl : cI = cA := kk_one (i := 0) (j := 4) hK9 rfl rfl
  have hP : va_P D vwCl [(sp, .inr (2, [.int (nI n), .ref b1, .ref b2, .null, .null])), (b1, .inl (cI, n, .inl (fun _ => 0))), (b2, .inl (cI, n, .inl (fun _ => 0))), (b3, .inl (cI, n, .inl (fun _ => 0)))] H := hP
  have hD : va_D A [(sp, .inr (2, [.int (nI n), .ref b1, .ref b2, .null, .null])), (b1, .inl (cI, n, .inl (fun _ => 0))), (b2, .inl (cI, n, .inl (fun _ => 0))), (b3, .inl (cI, n, .inl (fun _ => 0)))] := hD
  refine W.widen (k := 3) (n := 12) (by omega) (by omega) ?_
  refine va_putF (D := D) (ci := 2) (v := .ref b3) (ty := (.array .int)) (C := "OscillatorRow$Springs") (T := T_S) (N := 5) hx hb hT i_S t_S t_S_ok n_S_ok hown hK hP hD hS 0 rfl rfl 3 (by decide) (hT _ k_34) (fun _ h9 => h9) rfl hin rfl (by decide +kernel) rfl rfl (Nat.le_of_ble_eq_true rfl) d_S_init_27 (fun H locs hP hD hS => ?_)
  have hP : va_P D vwCl [(sp, .inr (2, [.int (nI n), .ref b1, .ref b2, .ref b3, .null])), (b1, .inl (cI, n, .inl (fun _ => 0))), (b2, .inl (cI, n, .inl (fun _ => 0))), (b3, .inl (cI, n, .inl (fun _ => 0)))] H := hP
  have hD : va_D A [(sp, .inr (2, [.int (nI n), .ref b1, .ref b2, .ref b3, .null])), (b1, .inl (cI, n, .inl (fun _ => 0))), (b2, .inl (cI, n, .inl (fun _ => 0))), (b3, .inl (cI, n, .inl (fun _ => 0)))] := hD
  refine lv_aload_n hx hb d_S_init_30 rfl (lv_at hl 0 rfl) ?_
  refine lv_iload_n hx hb d_S_init_31 rfl (lv_at hl 1 rfl) ?_
  refine va_newa (atype := .int) (a0 := (n, .inl (fun _ => 0))) (ty := .int) (N' := n) hx hb (hT _ k_49) rfl hK hP hD hS hA (fun _ => rfl) (nI_pos (by omega)) (nI_clamp (by omega)) (Nat.le_trans (Nat.mul_le_mul_right _ (show n ≤ 4 by omega)) (by decide)) (show 3 + 1 ≤ 4 by omega) (show 12 + n ≤ 16 by omega) d_S_init_32 (fun b4 cA H hK9 hP hD hS => ?_)
  obtain rfl : cI = cA := kk_one (i := 0) (j := 4) hK9 rfl rfl
  have hP : va_P D vwCl [(sp, .inr (2, [.int (nI n), .ref b1, .ref b2, .ref b3, .null])), (b1, .inl (cI, n, .inl (fun _ => 0))), (b2, .inl (cI, n, .inl (fun _ => 0))), (b3, .inl (cI, n, .inl (fun _ => 0))), (b4, .inl (cI, n, .inl (fun _ => 0)))] H := hP
  have hD : va_D A [(sp, .inr (2, [.int (nI n), .ref b1, .ref b2, .ref b3, .null])), (b1, .inl (cI, n, .inl (fun _ => 0))), (b2, .inl (cI, n, .inl (fun _ => 0))), (b3, .inl (cI, n, .inl (fun _ => 0))), (b4, .inl (cI, n, .inl (fun _ => 0)))] := hD
  refine W.widen (k := 4) (n := 16) (by omega) (by omega) ?_
  refine va_putF (D := D) (ci := 2) (v := .ref b4) (ty := (.array .int)) (C := "OscillatorRow$Springs") (T := T_S) (N := 5) hx hb hT i_S t_S t_S_ok n_S_ok hown hK hP hD hS 0 rfl rfl 4 (by decide) (hT _ k_36) (fun _ h9 => h9) rfl hin rfl (by decide +kernel) rfl rfl (Nat.le_of_ble_eq_true rfl) d_S_init_34 (fun H locs hP hD hS => ?_)
  have hP : va_P D vwCl [(sp, .inr (2, [.int (nI n), .ref b1, .ref b2, .ref b3, .ref b4])), (b1, .inl (cI, n, .inl (fun _ => 0))), (b2, .inl (cI, n, .inl (fun _ => 0))), (b3, .inl (cI, n, .inl (fun _ => 0))), (b4, .inl (cI, n, .inl (fun _ => 0)))] H := hP
  have hD : va_D A [(sp, .inr (2, [.int (nI n), .ref b1, .ref b2, .ref b3, .ref b4])), (b1, .inl (cI, n, .inl (fun _ => 0))), (b2, .inl (cI, n, .inl (fun _ => 0))), (b3, .inl (cI, n, .inl (fun _ => 0))), (b4, .inl (cI, n, .inl (fun _ => 0)))] := hD
  refine W.widen (k := 4) (n := 16) (by omega) (by omega) ?_
  exact re_v (b1, b2, b3, b4) hx hb hr hlocks trivial (hP.sub [0, 1, 2, 3, 4] rfl) hK (hD.sub [0, 1, 2, 3, 4] (by decide) rfl) hS d_S_init_37
set_option maxHeartbeats 4000000 in
set_option maxRecDepth 100000 in
theorem c_M_init (l : Launch) (D : va_G) (cI cL cW cZ : ClassId) (mo : Nat) (n : Nat) (sz : Nat) (hn : n ≤ 4) : Met l y_M_init w_M_init ({ frames := 1, cells := 2, slots := 8, locals := 12 }) (va_Pc [.ref mo, .int (nI n)] (gP D vwCl (tyv cI cL cW cZ) [(mo, .inr (1, [.null, .null]))] sz)) (va_Qv (fun (u : Nat × Nat) => True) (fun u t => gB D vwCl (tyv cI cL cW cZ) (va_A [(mo, .inr (1, [.null, .null]))] sz) [(mo, .inr (1, [.ref u.1, .ref u.2])), (u.1, .inl (cL, n, .inr (.inl (fun _ => 0)))), (u.2, .inl (cL, n, .inr (.inl (fun _ => 0))))] t) (va_A [(mo, .inr (1, [.null, .null]))] sz)) 2 8 (va_A [(mo, .inr (1, [.null, .null]))] sz) := by
  refine met_go (cc := prog_3_method_1_code) (maxL := 2) (ret := none) (QA := fun A => va_Qv (fun (u : Nat × Nat) => True) (fun u t => gB D vwCl (tyv cI cL cW cZ) A [(mo, .inr (1, [.ref u.1, .ref u.2])), (u.1, .inl (cL, n, .inr (.inl (fun _ => 0)))), (u.2, .inl (cL, n, .inr (.inl (fun _ => 0))))] t) A) (by decide) (Nat.le_of_ble_eq_true rfl) ?_
  intro p e s m below meth c A ls hx hb hr hml hT hN hown hlocks hin hl hP hK hD hA hS
  have hl : lv_has ls 2 [(0, .ref mo), (1, .int (nI n))] := hl
  refine lv_aload_n hx hb d_M_init_0 rfl (lv_at hl 0 rfl) ?_
  refine W.objInit hx hb hown (hT _ k_55) (hT _ k_15) (hT _ k_16) rfl (by rw [hml]; exact hl.1) rfl d_M_init_1 (Nat.le_of_ble_eq_true rfl) (Nat.le_of_ble_eq_true rfl) ?_
  refine W.eq (g2 := F0 m 4 ls []) rfl ?_
  refine lv_aload_n hx hb d_M_init_4 rfl (lv_at hl 0 rfl) ?_
  refine lv_iload_n hx hb d_M_init_5 rfl (lv_at hl 1 rfl) ?_
  refine va_newa (atype := .long) (a0 := (n, .inr (.inl (fun _ => 0)))) (ty := .long) (N' := n) hx hb (hT _ k_67) rfl hK hP hD hS hA (fun _ => rfl) (nI_pos (by omega)) (nI_clamp (by omega)) (Nat.le_trans (Nat.mul_le_mul_right _ (show n ≤ 4 by omega)) (by decide)) (show 0 + 1 ≤ 2 by omega) (show 0 + n ≤ 8 by omega) d_M_init_6 (fun b1 cA H hK9 hP hD hS => ?_)
  obtain rfl : cL = cA := kk_one (i := 1) (j := 4) hK9 rfl rfl
  have hP : va_P D vwCl [(mo, .inr (1, [.null, .null])), (b1, .inl (cL, n, .inr (.inl (fun _ => 0))))] H := hP
  have hD : va_D A [(mo, .inr (1, [.null, .null])), (b1, .inl (cL, n, .inr (.inl (fun _ => 0))))] := hD
  refine W.widen (k := 1) (n := 4) (by omega) (by omega) ?_
  refine va_putF (D := D) (ci := 1) (v := .ref b1) (ty := (.array .long)) (C := "OscillatorRow$Motion") (T := T_M) (N := 2) hx hb hT i_M t_M t_M_ok n_M_ok hown hK hP hD hS 0 rfl rfl 0 (by decide) (hT _ k_56) (fun _ h9 => h9) rfl hin rfl (by decide +kernel) rfl rfl (Nat.le_of_ble_eq_true rfl) d_M_init_8 (fun H locs hP hD hS => ?_)
  have hP : va_P D vwCl [(mo, .inr (1, [.ref b1, .null])), (b1, .inl (cL, n, .inr (.inl (fun _ => 0))))] H := hP
  have hD : va_D A [(mo, .inr (1, [.ref b1, .null])), (b1, .inl (cL, n, .inr (.inl (fun _ => 0))))] := hD
  refine lv_aload_n hx hb d_M_init_11 rfl (lv_at hl 0 rfl) ?_
  refine lv_iload_n hx hb d_M_init_12 rfl (lv_at hl 1 rfl) ?_
  refine va_newa (atype := .long) (a0 := (n, .inr (.inl (fun _ => 0)))) (ty := .long) (N' := n) hx hb (hT _ k_67) rfl hK hP hD hS hA (fun _ => rfl) (nI_pos (by omega)) (nI_clamp (by omega)) (Nat.le_trans (Nat.mul_le_mul_right _ (show n ≤ 4 by omega)) (by decide)) (show 1 + 1 ≤ 2 by omega) (show 4 + n ≤ 8 by omega) d_M_init_13 (fun b2 cA H hK9 hP hD hS => ?_)
  obtain rfl : cL = cA := kk_one (i := 1) (j := 4) hK9 rfl rfl
  have hP : va_P D vwCl [(mo, .inr (1, [.ref b1, .null])), (b1, .inl (cL, n, .inr (.inl (fun _ => 0)))), (b2, .inl (cL, n, .inr (.inl (fun _ => 0))))] H := hP
  have hD : va_D A [(mo, .inr (1, [.ref b1, .null])), (b1, .inl (cL, n, .inr (.inl (fun _ => 0)))), (b2, .inl (cL, n, .inr (.inl (fun _ => 0))))] := hD
  refine W.widen (k := 2) (n := 8) (by omega) (by omega) ?_
  refine va_putF (D := D) (ci := 1) (v := .ref b2) (ty := (.array .long)) (C := "OscillatorRow$Motion") (T := T_M) (N := 2) hx hb hT i_M t_M t_M_ok n_M_ok hown hK hP hD hS 0 rfl rfl 1 (by decide) (hT _ k_59) (fun _ h9 => h9) rfl hin rfl (by decide +kernel) rfl rfl (Nat.le_of_ble_eq_true rfl) d_M_init_15 (fun H locs hP hD hS => ?_)
  have hP : va_P D vwCl [(mo, .inr (1, [.ref b1, .ref b2])), (b1, .inl (cL, n, .inr (.inl (fun _ => 0)))), (b2, .inl (cL, n, .inr (.inl (fun _ => 0))))] H := hP
  have hD : va_D A [(mo, .inr (1, [.ref b1, .ref b2])), (b1, .inl (cL, n, .inr (.inl (fun _ => 0)))), (b2, .inl (cL, n, .inr (.inl (fun _ => 0))))] := hD
  refine W.widen (k := 2) (n := 8) (by omega) (by omega) ?_
  exact re_v (b1, b2) hx hb hr hlocks trivial (hP.sub [0, 1, 2] rfl) hK (hD.sub [0, 1, 2] (by decide) rfl) hS d_M_init_18
set_option maxHeartbeats 4000000 in
set_option maxRecDepth 100000 in
theorem c_W_init (l : Launch) (D : va_G) (cI cL cW cZ : ClassId) (wo : Nat) (sz : Nat) : Met l y_W_init w_W_init ({ frames := 1, cells := 0, slots := 0, locals := 12 }) (va_Pc [.ref wo] (gP D vwCl (tyv cI cL cW cZ) [(wo, .inr (3, [.int 0, .long 0, .int 0, .int 0]))] sz)) (va_Qv (fun (u : Unit) => True) (fun u t => gB D vwCl (tyv cI cL cW cZ) (va_A [(wo, .inr (3, [.int 0, .long 0, .int 0, .int 0]))] sz) [(wo, .inr (3, [.int 0, .long 0, .int 0, .int (-1)]))] t) (va_A [(wo, .inr (3, [.int 0, .long 0, .int 0, .int 0]))] sz)) 0 0 (va_A [(wo, .inr (3, [.int 0, .long 0, .int 0, .int 0]))] sz) := by
  refine met_go (cc := prog_5_method_1_code) (maxL := 1) (ret := none) (QA := fun A => va_Qv (fun (u : Unit) => True) (fun u t => gB D vwCl (tyv cI cL cW cZ) A [(wo, .inr (3, [.int 0, .long 0, .int 0, .int (-1)]))] t) A) (by decide) (Nat.le_of_ble_eq_true rfl) ?_
  intro p e s m below meth c A ls hx hb hr hml hT hN hown hlocks hin hl hP hK hD hA hS
  have hl : lv_has ls 1 [(0, .ref wo)] := hl
  refine lv_aload_n hx hb d_W_init_0 rfl (lv_at hl 0 rfl) ?_
  refine W.objInit hx hb hown (hT _ k_74) (hT _ k_15) (hT _ k_16) rfl (by rw [hml]; exact hl.1) rfl d_W_init_1 (Nat.le_of_ble_eq_true rfl) (Nat.le_of_ble_eq_true rfl) ?_
  refine W.eq (g2 := F0 m 4 ls []) rfl ?_
  refine lv_aload_n hx hb d_W_init_4 rfl (lv_at hl 0 rfl) ?_
  refine lv_iconst (v := (-1)) hx hb d_W_init_5 (by decide) ?_
  refine va_put (D := D) (ci := 3) (v := .int (-1)) (ty := (.int)) (C := "OscillatorRow$Watch") (T := T_W) (N := 4) hx hb hT i_W t_W t_W_ok n_W_ok hown hK hP hD hS 0 rfl rfl 3 (by decide) (hT _ k_80) (fun _ h9 => h9) rfl (by decide +kernel) rfl rfl (Nat.le_of_ble_eq_true rfl) d_W_init_6 (fun H locs hP hD hS => ?_)
  have hP : va_P D vwCl [(wo, .inr (3, [.int 0, .long 0, .int 0, .int (-1)]))] H := hP
  have hD : va_D A [(wo, .inr (3, [.int 0, .long 0, .int 0, .int (-1)]))] := hD
  exact re_v () hx hb hr hlocks trivial (hP.sub [0] rfl) hK (hD.sub [0] (by decide) rfl) hS d_W_init_9
set_option maxHeartbeats 4000000 in
set_option maxRecDepth 100000 in
theorem c_H_init (l : Launch) (D : va_G) (cI cL cW cZ : ClassId) (hi : Nat) (sz : Nat) : Met l y_H_init w_H_init ({ frames := 1, cells := 3, slots := 120, locals := 12 }) (va_Pc [.ref hi] (gP D vwCl (tyv cI cL cW cZ) [(hi, .inr (0, [.null, .null, .null, .int 0]))] sz)) (va_Qv (fun (u : Nat × Nat × Nat) => True) (fun u t => gB D vwCl (tyv cI cL cW cZ) (va_A [(hi, .inr (0, [.null, .null, .null, .int 0]))] sz) [(hi, .inr (0, [.ref u.1, .ref u.2.1, .ref u.2.2, .int 0])), (u.1, .inl (cI, 40, .inl (fun _ => 0))), (u.2.1, .inl (cI, 40, .inl (fun _ => 0))), (u.2.2, .inl (cI, 40, .inl (fun _ => 0)))] t) (va_A [(hi, .inr (0, [.null, .null, .null, .int 0]))] sz)) 3 120 (va_A [(hi, .inr (0, [.null, .null, .null, .int 0]))] sz) := by
  refine met_go (cc := prog_2_method_1_code) (maxL := 1) (ret := none) (QA := fun A => va_Qv (fun (u : Nat × Nat × Nat) => True) (fun u t => gB D vwCl (tyv cI cL cW cZ) A [(hi, .inr (0, [.ref u.1, .ref u.2.1, .ref u.2.2, .int 0])), (u.1, .inl (cI, 40, .inl (fun _ => 0))), (u.2.1, .inl (cI, 40, .inl (fun _ => 0))), (u.2.2, .inl (cI, 40, .inl (fun _ => 0)))] t) A) (by decide) (Nat.le_of_ble_eq_true rfl) ?_
  intro p e s m below meth c A ls hx hb hr hml hT hN hown hlocks hin hl hP hK hD hA hS
  have hl : lv_has ls 1 [(0, .ref hi)] := hl
  refine lv_aload_n hx hb d_H_init_0 rfl (lv_at hl 0 rfl) ?_
  refine W.objInit hx hb hown (hT _ k_96) (hT _ k_15) (hT _ k_16) rfl (by rw [hml]; exact hl.1) rfl d_H_init_1 (Nat.le_of_ble_eq_true rfl) (Nat.le_of_ble_eq_true rfl) ?_
  refine W.eq (g2 := F0 m 4 ls []) rfl ?_
  refine lv_aload_n hx hb d_H_init_4 rfl (lv_at hl 0 rfl) ?_
  refine lv_bipush (v := 40) hx hb d_H_init_5 (by decide) ?_
  refine va_newa (atype := .int) (a0 := (40, .inl (fun _ => 0))) (ty := .int) (N' := 40) hx hb (hT _ k_49) rfl hK hP hD hS hA (fun _ => rfl) (by decide) rfl (by decide) (show 0 + 1 ≤ 3 by omega) (show 0 + 40 ≤ 120 by omega) d_H_init_7 (fun b1 cA H hK9 hP hD hS => ?_)
  obtain rfl : cI = cA := kk_one (i := 0) (j := 4) hK9 rfl rfl
  have hP : va_P D vwCl [(hi, .inr (0, [.null, .null, .null, .int 0])), (b1, .inl (cI, 40, .inl (fun _ => 0)))] H := hP
  have hD : va_D A [(hi, .inr (0, [.null, .null, .null, .int 0])), (b1, .inl (cI, 40, .inl (fun _ => 0)))] := hD
  refine W.widen (k := 1) (n := 40) (by omega) (by omega) ?_
  refine va_putF (D := D) (ci := 0) (v := .ref b1) (ty := (.array .int)) (C := "OscillatorRow$Hits") (T := T_H) (N := 4) hx hb hT i_H t_H t_H_ok n_H_ok hown hK hP hD hS 0 rfl rfl 0 (by decide) (hT _ k_97) (fun _ h9 => h9) rfl hin rfl (by decide +kernel) rfl rfl (Nat.le_of_ble_eq_true rfl) d_H_init_9 (fun H locs hP hD hS => ?_)
  have hP : va_P D vwCl [(hi, .inr (0, [.ref b1, .null, .null, .int 0])), (b1, .inl (cI, 40, .inl (fun _ => 0)))] H := hP
  have hD : va_D A [(hi, .inr (0, [.ref b1, .null, .null, .int 0])), (b1, .inl (cI, 40, .inl (fun _ => 0)))] := hD
  refine lv_aload_n hx hb d_H_init_12 rfl (lv_at hl 0 rfl) ?_
  refine lv_bipush (v := 40) hx hb d_H_init_13 (by decide) ?_
  refine va_newa (atype := .int) (a0 := (40, .inl (fun _ => 0))) (ty := .int) (N' := 40) hx hb (hT _ k_49) rfl hK hP hD hS hA (fun _ => rfl) (by decide) rfl (by decide) (show 1 + 1 ≤ 3 by omega) (show 40 + 40 ≤ 120 by omega) d_H_init_15 (fun b2 cA H hK9 hP hD hS => ?_)
  obtain rfl : cI = cA := kk_one (i := 0) (j := 4) hK9 rfl rfl
  have hP : va_P D vwCl [(hi, .inr (0, [.ref b1, .null, .null, .int 0])), (b1, .inl (cI, 40, .inl (fun _ => 0))), (b2, .inl (cI, 40, .inl (fun _ => 0)))] H := hP
  have hD : va_D A [(hi, .inr (0, [.ref b1, .null, .null, .int 0])), (b1, .inl (cI, 40, .inl (fun _ => 0))), (b2, .inl (cI, 40, .inl (fun _ => 0)))] := hD
  refine W.widen (k := 2) (n := 80) (by omega) (by omega) ?_
  refine va_putF (D := D) (ci := 0) (v := .ref b2) (ty := (.array .int)) (C := "OscillatorRow$Hits") (T := T_H) (N := 4) hx hb hT i_H t_H t_H_ok n_H_ok hown hK hP hD hS 0 rfl rfl 1 (by decide) (hT _ k_99) (fun _ h9 => h9) rfl hin rfl (by decide +kernel) rfl rfl (Nat.le_of_ble_eq_true rfl) d_H_init_17 (fun H locs hP hD hS => ?_)
  have hP : va_P D vwCl [(hi, .inr (0, [.ref b1, .ref b2, .null, .int 0])), (b1, .inl (cI, 40, .inl (fun _ => 0))), (b2, .inl (cI, 40, .inl (fun _ => 0)))] H := hP
  have hD : va_D A [(hi, .inr (0, [.ref b1, .ref b2, .null, .int 0])), (b1, .inl (cI, 40, .inl (fun _ => 0))), (b2, .inl (cI, 40, .inl (fun _ => 0)))] := hD
  refine lv_aload_n hx hb d_H_init_20 rfl (lv_at hl 0 rfl) ?_
  refine lv_bipush (v := 40) hx hb d_H_init_21 (by decide) ?_
  refine va_newa (atype := .int) (a0 := (40, .inl (fun _ => 0))) (ty := .int) (N' := 40) hx hb (hT _ k_49) rfl hK hP hD hS hA (fun _ => rfl) (by decide) rfl (by decide) (show 2 + 1 ≤ 3 by omega) (show 80 + 40 ≤ 120 by omega) d_H_init_23 (fun b3 cA H hK9 hP hD hS => ?_)
  obtain rfl : cI = cA := kk_one (i := 0) (j := 4) hK9 rfl rfl
  have hP : va_P D vwCl [(hi, .inr (0, [.ref b1, .ref b2, .null, .int 0])), (b1, .inl (cI, 40, .inl (fun _ => 0))), (b2, .inl (cI, 40, .inl (fun _ => 0))), (b3, .inl (cI, 40, .inl (fun _ => 0)))] H := hP
  have hD : va_D A [(hi, .inr (0, [.ref b1, .ref b2, .null, .int 0])), (b1, .inl (cI, 40, .inl (fun _ => 0))), (b2, .inl (cI, 40, .inl (fun _ => 0))), (b3, .inl (cI, 40, .inl (fun _ => 0)))] := hD
  refine W.widen (k := 3) (n := 120) (by omega) (by omega) ?_
  refine va_putF (D := D) (ci := 0) (v := .ref b3) (ty := (.array .int)) (C := "OscillatorRow$Hits") (T := T_H) (N := 4) hx hb hT i_H t_H t_H_ok n_H_ok hown hK hP hD hS 0 rfl rfl 2 (by decide) (hT _ k_101) (fun _ h9 => h9) rfl hin rfl (by decide +kernel) rfl rfl (Nat.le_of_ble_eq_true rfl) d_H_init_25 (fun H locs hP hD hS => ?_)
  have hP : va_P D vwCl [(hi, .inr (0, [.ref b1, .ref b2, .ref b3, .int 0])), (b1, .inl (cI, 40, .inl (fun _ => 0))), (b2, .inl (cI, 40, .inl (fun _ => 0))), (b3, .inl (cI, 40, .inl (fun _ => 0)))] H := hP
  have hD : va_D A [(hi, .inr (0, [.ref b1, .ref b2, .ref b3, .int 0])), (b1, .inl (cI, 40, .inl (fun _ => 0))), (b2, .inl (cI, 40, .inl (fun _ => 0))), (b3, .inl (cI, 40, .inl (fun _ => 0)))] := hD
  refine W.widen (k := 3) (n := 120) (by omega) (by omega) ?_
  exact re_v (b1, b2, b3) hx hb hr hlocks trivial (hP.sub [0, 1, 2, 3] rfl) hK (hD.sub [0, 1, 2, 3] (by decide) rfl) hS d_H_init_28
end
section
theorem d_R_init_0 : decode prog_1_method_1_code 0 = .ok (.aload_n 0, 1) := by decide +kernel
theorem d_R_init_1 : decode prog_1_method_1_code 1 = .ok (.invokespecial 1, 3) := by decide +kernel
theorem d_R_init_4 : decode prog_1_method_1_code 4 = .ok (.aload_n 0, 1) := by decide +kernel
theorem d_R_init_5 : decode prog_1_method_1_code 5 = .ok (.iconst 1, 1) := by decide +kernel
theorem d_R_init_6 : decode prog_1_method_1_code 6 = .ok (.iconst 4, 1) := by decide +kernel
theorem d_R_init_7 : decode prog_1_method_1_code 7 = .ok (.iload_n 1, 1) := by decide +kernel
theorem d_R_init_8 : decode prog_1_method_1_code 8 = .ok (.invokestatic 9, 3) := by decide +kernel
theorem d_R_init_11 : decode prog_1_method_1_code 11 = .ok (.invokestatic 15, 3) := by decide +kernel
theorem d_R_init_14 : decode prog_1_method_1_code 14 = .ok (.putfield 18, 3) := by decide +kernel
theorem d_R_init_17 : decode prog_1_method_1_code 17 = .ok (.aload_n 0, 1) := by decide +kernel
theorem d_R_init_18 : decode prog_1_method_1_code 18 = .ok (.new 22, 3) := by decide +kernel
theorem d_R_init_21 : decode prog_1_method_1_code 21 = .ok (.dup, 1) := by decide +kernel
theorem d_R_init_22 : decode prog_1_method_1_code 22 = .ok (.aload_n 0, 1) := by decide +kernel
theorem d_R_init_23 : decode prog_1_method_1_code 23 = .ok (.getfield 18, 3) := by decide +kernel
theorem d_R_init_26 : decode prog_1_method_1_code 26 = .ok (.invokespecial 24, 3) := by decide +kernel
theorem d_R_init_29 : decode prog_1_method_1_code 29 = .ok (.putfield 27, 3) := by decide +kernel
theorem d_R_init_32 : decode prog_1_method_1_code 32 = .ok (.aload_n 0, 1) := by decide +kernel
theorem d_R_init_33 : decode prog_1_method_1_code 33 = .ok (.new 31, 3) := by decide +kernel
theorem d_R_init_36 : decode prog_1_method_1_code 36 = .ok (.dup, 1) := by decide +kernel
theorem d_R_init_37 : decode prog_1_method_1_code 37 = .ok (.aload_n 0, 1) := by decide +kernel
theorem d_R_init_38 : decode prog_1_method_1_code 38 = .ok (.getfield 18, 3) := by decide +kernel
theorem d_R_init_41 : decode prog_1_method_1_code 41 = .ok (.invokespecial 33, 3) := by decide +kernel
theorem d_R_init_44 : decode prog_1_method_1_code 44 = .ok (.putfield 34, 3) := by decide +kernel
theorem d_R_init_47 : decode prog_1_method_1_code 47 = .ok (.aload_n 0, 1) := by decide +kernel
theorem d_R_init_48 : decode prog_1_method_1_code 48 = .ok (.new 31, 3) := by decide +kernel
theorem d_R_init_51 : decode prog_1_method_1_code 51 = .ok (.dup, 1) := by decide +kernel
theorem d_R_init_52 : decode prog_1_method_1_code 52 = .ok (.aload_n 0, 1) := by decide +kernel
theorem d_R_init_53 : decode prog_1_method_1_code 53 = .ok (.getfield 18, 3) := by decide +kernel
theorem d_R_init_56 : decode prog_1_method_1_code 56 = .ok (.invokespecial 33, 3) := by decide +kernel
theorem d_R_init_59 : decode prog_1_method_1_code 59 = .ok (.putfield 38, 3) := by decide +kernel
theorem d_R_init_62 : decode prog_1_method_1_code 62 = .ok (.aload_n 0, 1) := by decide +kernel
theorem d_R_init_63 : decode prog_1_method_1_code 63 = .ok (.new 31, 3) := by decide +kernel
theorem d_R_init_66 : decode prog_1_method_1_code 66 = .ok (.dup, 1) := by decide +kernel
theorem d_R_init_67 : decode prog_1_method_1_code 67 = .ok (.aload_n 0, 1) := by decide +kernel
theorem d_R_init_68 : decode prog_1_method_1_code 68 = .ok (.getfield 18, 3) := by decide +kernel
theorem d_R_init_71 : decode prog_1_method_1_code 71 = .ok (.invokespecial 33, 3) := by decide +kernel
theorem d_R_init_74 : decode prog_1_method_1_code 74 = .ok (.putfield 41, 3) := by decide +kernel
theorem d_R_init_77 : decode prog_1_method_1_code 77 = .ok (.aload_n 0, 1) := by decide +kernel
theorem d_R_init_78 : decode prog_1_method_1_code 78 = .ok (.new 31, 3) := by decide +kernel
theorem d_R_init_81 : decode prog_1_method_1_code 81 = .ok (.dup, 1) := by decide +kernel
theorem d_R_init_82 : decode prog_1_method_1_code 82 = .ok (.aload_n 0, 1) := by decide +kernel
theorem d_R_init_83 : decode prog_1_method_1_code 83 = .ok (.getfield 18, 3) := by decide +kernel
theorem d_R_init_86 : decode prog_1_method_1_code 86 = .ok (.invokespecial 33, 3) := by decide +kernel
theorem d_R_init_89 : decode prog_1_method_1_code 89 = .ok (.putfield 44, 3) := by decide +kernel
theorem d_R_init_92 : decode prog_1_method_1_code 92 = .ok (.aload_n 0, 1) := by decide +kernel
theorem d_R_init_93 : decode prog_1_method_1_code 93 = .ok (.iconst 4, 1) := by decide +kernel
theorem d_R_init_94 : decode prog_1_method_1_code 94 = .ok (.anewarray 47, 3) := by decide +kernel
theorem d_R_init_97 : decode prog_1_method_1_code 97 = .ok (.putfield 49, 3) := by decide +kernel
theorem d_R_init_100 : decode prog_1_method_1_code 100 = .ok (.iconst 0, 1) := by decide +kernel
theorem d_R_init_101 : decode prog_1_method_1_code 101 = .ok (.istore_n 2, 1) := by decide +kernel
theorem d_R_init_102 : decode prog_1_method_1_code 102 = .ok (.iload_n 2, 1) := by decide +kernel
theorem d_R_init_103 : decode prog_1_method_1_code 103 = .ok (.iconst 4, 1) := by decide +kernel
theorem d_R_init_104 : decode prog_1_method_1_code 104 = .ok (.if_icmp .ge 22, 3) := by decide +kernel
theorem d_R_init_107 : decode prog_1_method_1_code 107 = .ok (.aload_n 0, 1) := by decide +kernel
theorem d_R_init_108 : decode prog_1_method_1_code 108 = .ok (.getfield 49, 3) := by decide +kernel
theorem d_R_init_111 : decode prog_1_method_1_code 111 = .ok (.iload_n 2, 1) := by decide +kernel
theorem d_R_init_112 : decode prog_1_method_1_code 112 = .ok (.new 47, 3) := by decide +kernel
theorem d_R_init_115 : decode prog_1_method_1_code 115 = .ok (.dup, 1) := by decide +kernel
theorem d_R_init_116 : decode prog_1_method_1_code 116 = .ok (.invokespecial 53, 3) := by decide +kernel
theorem d_R_init_119 : decode prog_1_method_1_code 119 = .ok (.aastore, 1) := by decide +kernel
theorem d_R_init_120 : decode prog_1_method_1_code 120 = .ok (.iinc 2 1, 3) := by decide +kernel
theorem d_R_init_123 : decode prog_1_method_1_code 123 = .ok (.goto (-21), 3) := by decide +kernel
theorem d_R_init_126 : decode prog_1_method_1_code 126 = .ok (.aload_n 0, 1) := by decide +kernel
theorem d_R_init_127 : decode prog_1_method_1_code 127 = .ok (.new 54, 3) := by decide +kernel
theorem d_R_init_130 : decode prog_1_method_1_code 130 = .ok (.dup, 1) := by decide +kernel
theorem d_R_init_131 : decode prog_1_method_1_code 131 = .ok (.invokespecial 56, 3) := by decide +kernel
theorem d_R_init_134 : decode prog_1_method_1_code 134 = .ok (.putfield 57, 3) := by decide +kernel
theorem d_R_init_137 : decode prog_1_method_1_code 137 = .ok (.aload_n 0, 1) := by decide +kernel
theorem d_R_init_138 : decode prog_1_method_1_code 138 = .ok (.bipush 16, 2) := by decide +kernel
theorem d_R_init_140 : decode prog_1_method_1_code 140 = .ok (.putfield 61, 3) := by decide +kernel
theorem d_R_init_143 : decode prog_1_method_1_code 143 = .ok (.return_, 1) := by decide +kernel
theorem d_R_body_0 : decode prog_1_method_2_code 0 = .ok (.aload_n 0, 1) := by decide +kernel
theorem d_R_body_1 : decode prog_1_method_2_code 1 = .ok (.iload_n 1, 1) := by decide +kernel
theorem d_R_body_2 : decode prog_1_method_2_code 2 = .ok (.invokevirtual 64, 3) := by decide +kernel
theorem d_R_body_5 : decode prog_1_method_2_code 5 = .ok (.ifCond .eq 17, 3) := by decide +kernel
theorem d_R_body_8 : decode prog_1_method_2_code 8 = .ok (.iload_n 2, 1) := by decide +kernel
theorem d_R_body_9 : decode prog_1_method_2_code 9 = .ok (.invokestatic 68, 3) := by decide +kernel
theorem d_R_body_12 : decode prog_1_method_2_code 12 = .ok (.ifCond .eq 10, 3) := by decide +kernel
theorem d_R_body_15 : decode prog_1_method_2_code 15 = .ok (.iload_n 3, 1) := by decide +kernel
theorem d_R_body_16 : decode prog_1_method_2_code 16 = .ok (.invokestatic 68, 3) := by decide +kernel
theorem d_R_body_19 : decode prog_1_method_2_code 19 = .ok (.ifCond .ne 5, 3) := by decide +kernel
theorem d_R_body_22 : decode prog_1_method_2_code 22 = .ok (.iconst (-1), 1) := by decide +kernel
theorem d_R_body_23 : decode prog_1_method_2_code 23 = .ok (.ireturn, 1) := by decide +kernel
theorem d_R_body_24 : decode prog_1_method_2_code 24 = .ok (.aload_n 0, 1) := by decide +kernel
theorem d_R_body_25 : decode prog_1_method_2_code 25 = .ok (.getfield 27, 3) := by decide +kernel
theorem d_R_body_28 : decode prog_1_method_2_code 28 = .ok (.getfield 71, 3) := by decide +kernel
theorem d_R_body_31 : decode prog_1_method_2_code 31 = .ok (.iload_n 1, 1) := by decide +kernel
theorem d_R_body_32 : decode prog_1_method_2_code 32 = .ok (.iload_n 2, 1) := by decide +kernel
theorem d_R_body_33 : decode prog_1_method_2_code 33 = .ok (.iastore, 1) := by decide +kernel
theorem d_R_body_34 : decode prog_1_method_2_code 34 = .ok (.aload_n 0, 1) := by decide +kernel
theorem d_R_body_35 : decode prog_1_method_2_code 35 = .ok (.getfield 27, 3) := by decide +kernel
theorem d_R_body_38 : decode prog_1_method_2_code 38 = .ok (.getfield 75, 3) := by decide +kernel
theorem d_R_body_41 : decode prog_1_method_2_code 41 = .ok (.iload_n 1, 1) := by decide +kernel
theorem d_R_body_42 : decode prog_1_method_2_code 42 = .ok (.iload_n 3, 1) := by decide +kernel
theorem d_R_body_43 : decode prog_1_method_2_code 43 = .ok (.iastore, 1) := by decide +kernel
theorem d_R_body_44 : decode prog_1_method_2_code 44 = .ok (.iconst 0, 1) := by decide +kernel
theorem d_R_body_45 : decode prog_1_method_2_code 45 = .ok (.ireturn, 1) := by decide +kernel
theorem d_R_isBody_0 : decode prog_1_method_15_code 0 = .ok (.iload_n 1, 1) := by decide +kernel
theorem d_R_isBody_1 : decode prog_1_method_15_code 1 = .ok (.ifCond .lt 15, 3) := by decide +kernel
theorem d_R_isBody_4 : decode prog_1_method_15_code 4 = .ok (.iload_n 1, 1) := by decide +kernel
theorem d_R_isBody_5 : decode prog_1_method_15_code 5 = .ok (.aload_n 0, 1) := by decide +kernel
theorem d_R_isBody_6 : decode prog_1_method_15_code 6 = .ok (.getfield 18, 3) := by decide +kernel
theorem d_R_isBody_9 : decode prog_1_method_15_code 9 = .ok (.if_icmp .ge 7, 3) := by decide +kernel
theorem d_R_isBody_12 : decode prog_1_method_15_code 12 = .ok (.iconst 1, 1) := by decide +kernel
theorem d_R_isBody_13 : decode prog_1_method_15_code 13 = .ok (.goto 4, 3) := by decide +kernel
theorem d_R_isBody_16 : decode prog_1_method_15_code 16 = .ok (.iconst 0, 1) := by decide +kernel
theorem d_R_isBody_17 : decode prog_1_method_15_code 17 = .ok (.ireturn, 1) := by decide +kernel
theorem d_R_isSixteenths_0 : decode prog_1_method_16_code 0 = .ok (.iload_n 0, 1) := by decide +kernel
theorem d_R_isSixteenths_1 : decode prog_1_method_16_code 1 = .ok (.ifCond .lt 13, 3) := by decide +kernel
theorem d_R_isSixteenths_4 : decode prog_1_method_16_code 4 = .ok (.iload_n 0, 1) := by decide +kernel
theorem d_R_isSixteenths_5 : decode prog_1_method_16_code 5 = .ok (.bipush 64, 2) := by decide +kernel
theorem d_R_isSixteenths_7 : decode prog_1_method_16_code 7 = .ok (.if_icmp .gt 7, 3) := by decide +kernel
theorem d_R_isSixteenths_10 : decode prog_1_method_16_code 10 = .ok (.iconst 1, 1) := by decide +kernel
theorem d_R_isSixteenths_11 : decode prog_1_method_16_code 11 = .ok (.goto 4, 3) := by decide +kernel
theorem d_R_isSixteenths_14 : decode prog_1_method_16_code 14 = .ok (.iconst 0, 1) := by decide +kernel
theorem d_R_isSixteenths_15 : decode prog_1_method_16_code 15 = .ok (.ireturn, 1) := by decide +kernel
theorem d_R_link_0 : decode prog_1_method_3_code 0 = .ok (.aload_n 0, 1) := by decide +kernel
theorem d_R_link_1 : decode prog_1_method_3_code 1 = .ok (.iload_n 1, 1) := by decide +kernel
theorem d_R_link_2 : decode prog_1_method_3_code 2 = .ok (.invokevirtual 64, 3) := by decide +kernel
theorem d_R_link_5 : decode prog_1_method_3_code 5 = .ok (.ifCond .eq 20, 3) := by decide +kernel
theorem d_R_link_8 : decode prog_1_method_3_code 8 = .ok (.iload_n 1, 1) := by decide +kernel
theorem d_R_link_9 : decode prog_1_method_3_code 9 = .ok (.aload_n 0, 1) := by decide +kernel
theorem d_R_link_10 : decode prog_1_method_3_code 10 = .ok (.getfield 18, 3) := by decide +kernel
theorem d_R_link_13 : decode prog_1_method_3_code 13 = .ok (.iconst 1, 1) := by decide +kernel
theorem d_R_link_14 : decode prog_1_method_3_code 14 = .ok (.isub, 1) := by decide +kernel
theorem d_R_link_15 : decode prog_1_method_3_code 15 = .ok (.if_icmp .eq 10, 3) := by decide +kernel
theorem d_R_link_18 : decode prog_1_method_3_code 18 = .ok (.iload_n 2, 1) := by decide +kernel
theorem d_R_link_19 : decode prog_1_method_3_code 19 = .ok (.invokestatic 68, 3) := by decide +kernel
theorem d_R_link_22 : decode prog_1_method_3_code 22 = .ok (.ifCond .ne 5, 3) := by decide +kernel
theorem d_R_link_25 : decode prog_1_method_3_code 25 = .ok (.iconst (-1), 1) := by decide +kernel
theorem d_R_link_26 : decode prog_1_method_3_code 26 = .ok (.ireturn, 1) := by decide +kernel
theorem d_R_link_27 : decode prog_1_method_3_code 27 = .ok (.aload_n 0, 1) := by decide +kernel
theorem d_R_link_28 : decode prog_1_method_3_code 28 = .ok (.getfield 27, 3) := by decide +kernel
theorem d_R_link_31 : decode prog_1_method_3_code 31 = .ok (.getfield 78, 3) := by decide +kernel
theorem d_R_link_34 : decode prog_1_method_3_code 34 = .ok (.iload_n 1, 1) := by decide +kernel
theorem d_R_link_35 : decode prog_1_method_3_code 35 = .ok (.iload_n 2, 1) := by decide +kernel
theorem d_R_link_36 : decode prog_1_method_3_code 36 = .ok (.iastore, 1) := by decide +kernel
theorem d_R_link_37 : decode prog_1_method_3_code 37 = .ok (.iconst 0, 1) := by decide +kernel
theorem d_R_link_38 : decode prog_1_method_3_code 38 = .ok (.ireturn, 1) := by decide +kernel
theorem d_R_set_0 : decode prog_1_method_4_code 0 = .ok (.aload_n 0, 1) := by decide +kernel
theorem d_R_set_1 : decode prog_1_method_4_code 1 = .ok (.iload_n 1, 1) := by decide +kernel
theorem d_R_set_2 : decode prog_1_method_4_code 2 = .ok (.invokevirtual 64, 3) := by decide +kernel
theorem d_R_set_5 : decode prog_1_method_4_code 5 = .ok (.ifCond .eq 17, 3) := by decide +kernel
theorem d_R_set_8 : decode prog_1_method_4_code 8 = .ok (.iload_n 2, 1) := by decide +kernel
theorem d_R_set_9 : decode prog_1_method_4_code 9 = .ok (.invokestatic 81, 3) := by decide +kernel
theorem d_R_set_12 : decode prog_1_method_4_code 12 = .ok (.ifCond .eq 10, 3) := by decide +kernel
theorem d_R_set_15 : decode prog_1_method_4_code 15 = .ok (.iload_n 3, 1) := by decide +kernel
theorem d_R_set_16 : decode prog_1_method_4_code 16 = .ok (.invokestatic 81, 3) := by decide +kernel
theorem d_R_set_19 : decode prog_1_method_4_code 19 = .ok (.ifCond .ne 5, 3) := by decide +kernel
theorem d_R_set_22 : decode prog_1_method_4_code 22 = .ok (.iconst (-1), 1) := by decide +kernel
theorem d_R_set_23 : decode prog_1_method_4_code 23 = .ok (.ireturn, 1) := by decide +kernel
theorem d_R_set_24 : decode prog_1_method_4_code 24 = .ok (.aload_n 0, 1) := by decide +kernel
theorem d_R_set_25 : decode prog_1_method_4_code 25 = .ok (.getfield 34, 3) := by decide +kernel
theorem d_R_set_28 : decode prog_1_method_4_code 28 = .ok (.getfield 84, 3) := by decide +kernel
theorem d_R_set_31 : decode prog_1_method_4_code 31 = .ok (.iload_n 1, 1) := by decide +kernel
theorem d_R_set_32 : decode prog_1_method_4_code 32 = .ok (.iload_n 2, 1) := by decide +kernel
theorem d_R_set_33 : decode prog_1_method_4_code 33 = .ok (.i2l, 1) := by decide +kernel
theorem d_R_set_34 : decode prog_1_method_4_code 34 = .ok (.lastore, 1) := by decide +kernel
theorem d_R_set_35 : decode prog_1_method_4_code 35 = .ok (.aload_n 0, 1) := by decide +kernel
theorem d_R_set_36 : decode prog_1_method_4_code 36 = .ok (.getfield 34, 3) := by decide +kernel
theorem d_R_set_39 : decode prog_1_method_4_code 39 = .ok (.getfield 88, 3) := by decide +kernel
theorem d_R_set_42 : decode prog_1_method_4_code 42 = .ok (.iload_n 1, 1) := by decide +kernel
theorem d_R_set_43 : decode prog_1_method_4_code 43 = .ok (.iload_n 3, 1) := by decide +kernel
theorem d_R_set_44 : decode prog_1_method_4_code 44 = .ok (.i2l, 1) := by decide +kernel
theorem d_R_set_45 : decode prog_1_method_4_code 45 = .ok (.lastore, 1) := by decide +kernel
theorem d_R_set_46 : decode prog_1_method_4_code 46 = .ok (.iconst 0, 1) := by decide +kernel
theorem d_R_set_47 : decode prog_1_method_4_code 47 = .ok (.ireturn, 1) := by decide +kernel
theorem d_R_isUnits_0 : decode prog_1_method_17_code 0 = .ok (.iload_n 0, 1) := by decide +kernel
theorem d_R_isUnits_1 : decode prog_1_method_17_code 1 = .ok (.ldc 170, 2) := by decide +kernel
theorem d_R_isUnits_3 : decode prog_1_method_17_code 3 = .ok (.if_icmp .lt 13, 3) := by decide +kernel
theorem d_R_isUnits_6 : decode prog_1_method_17_code 6 = .ok (.iload_n 0, 1) := by decide +kernel
theorem d_R_isUnits_7 : decode prog_1_method_17_code 7 = .ok (.ldc 171, 2) := by decide +kernel
theorem d_R_isUnits_9 : decode prog_1_method_17_code 9 = .ok (.if_icmp .gt 7, 3) := by decide +kernel
theorem d_R_isUnits_12 : decode prog_1_method_17_code 12 = .ok (.iconst 1, 1) := by decide +kernel
theorem d_R_isUnits_13 : decode prog_1_method_17_code 13 = .ok (.goto 4, 3) := by decide +kernel
theorem d_R_isUnits_16 : decode prog_1_method_17_code 16 = .ok (.iconst 0, 1) := by decide +kernel
theorem d_R_isUnits_17 : decode prog_1_method_17_code 17 = .ok (.ireturn, 1) := by decide +kernel
theorem d_R_force_0 : decode prog_1_method_5_code 0 = .ok (.aload_n 0, 1) := by decide +kernel
theorem d_R_force_1 : decode prog_1_method_5_code 1 = .ok (.iload_n 1, 1) := by decide +kernel
theorem d_R_force_2 : decode prog_1_method_5_code 2 = .ok (.invokevirtual 64, 3) := by decide +kernel
theorem d_R_force_5 : decode prog_1_method_5_code 5 = .ok (.ifCond .eq 10, 3) := by decide +kernel
theorem d_R_force_8 : decode prog_1_method_5_code 8 = .ok (.iload_n 2, 1) := by decide +kernel
theorem d_R_force_9 : decode prog_1_method_5_code 9 = .ok (.invokestatic 81, 3) := by decide +kernel
theorem d_R_force_12 : decode prog_1_method_5_code 12 = .ok (.ifCond .ne 5, 3) := by decide +kernel
theorem d_R_force_15 : decode prog_1_method_5_code 15 = .ok (.iconst (-1), 1) := by decide +kernel
theorem d_R_force_16 : decode prog_1_method_5_code 16 = .ok (.ireturn, 1) := by decide +kernel
theorem d_R_force_17 : decode prog_1_method_5_code 17 = .ok (.aload_n 0, 1) := by decide +kernel
theorem d_R_force_18 : decode prog_1_method_5_code 18 = .ok (.getfield 27, 3) := by decide +kernel
theorem d_R_force_21 : decode prog_1_method_5_code 21 = .ok (.getfield 91, 3) := by decide +kernel
theorem d_R_force_24 : decode prog_1_method_5_code 24 = .ok (.iload_n 1, 1) := by decide +kernel
theorem d_R_force_25 : decode prog_1_method_5_code 25 = .ok (.iload_n 2, 1) := by decide +kernel
theorem d_R_force_26 : decode prog_1_method_5_code 26 = .ok (.iastore, 1) := by decide +kernel
theorem d_R_force_27 : decode prog_1_method_5_code 27 = .ok (.iconst 0, 1) := by decide +kernel
theorem d_R_force_28 : decode prog_1_method_5_code 28 = .ok (.ireturn, 1) := by decide +kernel
theorem d_R_tolerance_0 : decode prog_1_method_6_code 0 = .ok (.iload_n 1, 1) := by decide +kernel
theorem d_R_tolerance_1 : decode prog_1_method_6_code 1 = .ok (.ifCond .lt 9, 3) := by decide +kernel
theorem d_R_tolerance_4 : decode prog_1_method_6_code 4 = .ok (.iload_n 1, 1) := by decide +kernel
theorem d_R_tolerance_5 : decode prog_1_method_6_code 5 = .ok (.ldc 94, 2) := by decide +kernel
theorem d_R_tolerance_7 : decode prog_1_method_6_code 7 = .ok (.if_icmp .le 5, 3) := by decide +kernel
theorem d_R_tolerance_10 : decode prog_1_method_6_code 10 = .ok (.iconst (-1), 1) := by decide +kernel
theorem d_R_tolerance_11 : decode prog_1_method_6_code 11 = .ok (.ireturn, 1) := by decide +kernel
theorem d_R_tolerance_12 : decode prog_1_method_6_code 12 = .ok (.aload_n 0, 1) := by decide +kernel
theorem d_R_tolerance_13 : decode prog_1_method_6_code 13 = .ok (.iload_n 1, 1) := by decide +kernel
theorem d_R_tolerance_14 : decode prog_1_method_6_code 14 = .ok (.putfield 61, 3) := by decide +kernel
theorem d_R_tolerance_17 : decode prog_1_method_6_code 17 = .ok (.iconst 0, 1) := by decide +kernel
theorem d_R_tolerance_18 : decode prog_1_method_6_code 18 = .ok (.ireturn, 1) := by decide +kernel
theorem d_R_watch_0 : decode prog_1_method_7_code 0 = .ok (.iload_n 1, 1) := by decide +kernel
theorem d_R_watch_1 : decode prog_1_method_7_code 1 = .ok (.ifCond .lt 23, 3) := by decide +kernel
theorem d_R_watch_4 : decode prog_1_method_7_code 4 = .ok (.iload_n 1, 1) := by decide +kernel
theorem d_R_watch_5 : decode prog_1_method_7_code 5 = .ok (.iconst 4, 1) := by decide +kernel
theorem d_R_watch_6 : decode prog_1_method_7_code 6 = .ok (.if_icmp .ge 18, 3) := by decide +kernel
theorem d_R_watch_9 : decode prog_1_method_7_code 9 = .ok (.aload_n 0, 1) := by decide +kernel
theorem d_R_watch_10 : decode prog_1_method_7_code 10 = .ok (.iload_n 2, 1) := by decide +kernel
theorem d_R_watch_11 : decode prog_1_method_7_code 11 = .ok (.invokevirtual 64, 3) := by decide +kernel
theorem d_R_watch_14 : decode prog_1_method_7_code 14 = .ok (.ifCond .eq 10, 3) := by decide +kernel
theorem d_R_watch_17 : decode prog_1_method_7_code 17 = .ok (.iload_n 3, 1) := by decide +kernel
theorem d_R_watch_18 : decode prog_1_method_7_code 18 = .ok (.invokestatic 81, 3) := by decide +kernel
theorem d_R_watch_21 : decode prog_1_method_7_code 21 = .ok (.ifCond .ne 5, 3) := by decide +kernel
theorem d_R_watch_24 : decode prog_1_method_7_code 24 = .ok (.iconst (-1), 1) := by decide +kernel
theorem d_R_watch_25 : decode prog_1_method_7_code 25 = .ok (.ireturn, 1) := by decide +kernel
theorem d_R_watch_26 : decode prog_1_method_7_code 26 = .ok (.iload 5, 2) := by decide +kernel
theorem d_R_watch_28 : decode prog_1_method_7_code 28 = .ok (.iconst (-1), 1) := by decide +kernel
theorem d_R_watch_29 : decode prog_1_method_7_code 29 = .ok (.if_icmp .lt 9, 3) := by decide +kernel
theorem d_R_watch_32 : decode prog_1_method_7_code 32 = .ok (.iload 5, 2) := by decide +kernel
theorem d_R_watch_34 : decode prog_1_method_7_code 34 = .ok (.iconst 2, 1) := by decide +kernel
theorem d_R_watch_35 : decode prog_1_method_7_code 35 = .ok (.if_icmp .le 5, 3) := by decide +kernel
theorem d_R_watch_38 : decode prog_1_method_7_code 38 = .ok (.iconst (-1), 1) := by decide +kernel
theorem d_R_watch_39 : decode prog_1_method_7_code 39 = .ok (.ireturn, 1) := by decide +kernel
theorem d_R_watch_40 : decode prog_1_method_7_code 40 = .ok (.aload_n 0, 1) := by decide +kernel
theorem d_R_watch_41 : decode prog_1_method_7_code 41 = .ok (.getfield 49, 3) := by decide +kernel
theorem d_R_watch_44 : decode prog_1_method_7_code 44 = .ok (.iload_n 1, 1) := by decide +kernel
theorem d_R_watch_45 : decode prog_1_method_7_code 45 = .ok (.aaload, 1) := by decide +kernel
theorem d_R_watch_46 : decode prog_1_method_7_code 46 = .ok (.astore 6, 2) := by decide +kernel
theorem d_R_watch_48 : decode prog_1_method_7_code 48 = .ok (.aload 6, 2) := by decide +kernel
theorem d_R_watch_50 : decode prog_1_method_7_code 50 = .ok (.iload_n 2, 1) := by decide +kernel
theorem d_R_watch_51 : decode prog_1_method_7_code 51 = .ok (.putfield 95, 3) := by decide +kernel
theorem d_R_watch_54 : decode prog_1_method_7_code 54 = .ok (.aload 6, 2) := by decide +kernel
theorem d_R_watch_56 : decode prog_1_method_7_code 56 = .ok (.iload_n 3, 1) := by decide +kernel
theorem d_R_watch_57 : decode prog_1_method_7_code 57 = .ok (.i2l, 1) := by decide +kernel
theorem d_R_watch_58 : decode prog_1_method_7_code 58 = .ok (.putfield 98, 3) := by decide +kernel
theorem d_R_watch_61 : decode prog_1_method_7_code 61 = .ok (.aload 6, 2) := by decide +kernel
theorem d_R_watch_63 : decode prog_1_method_7_code 63 = .ok (.iload 4, 2) := by decide +kernel
theorem d_R_watch_65 : decode prog_1_method_7_code 65 = .ok (.putfield 102, 3) := by decide +kernel
theorem d_R_watch_68 : decode prog_1_method_7_code 68 = .ok (.aload 6, 2) := by decide +kernel
theorem d_R_watch_70 : decode prog_1_method_7_code 70 = .ok (.iload 5, 2) := by decide +kernel
theorem d_R_watch_72 : decode prog_1_method_7_code 72 = .ok (.putfield 106, 3) := by decide +kernel
theorem d_R_watch_75 : decode prog_1_method_7_code 75 = .ok (.iconst 0, 1) := by decide +kernel
theorem d_R_watch_76 : decode prog_1_method_7_code 76 = .ok (.ireturn, 1) := by decide +kernel
theorem d_R_advance_0 : decode prog_1_method_8_code 0 = .ok (.iload_n 1, 1) := by decide +kernel
theorem d_R_advance_1 : decode prog_1_method_8_code 1 = .ok (.iconst 1, 1) := by decide +kernel
theorem d_R_advance_2 : decode prog_1_method_8_code 2 = .ok (.if_icmp .lt 10, 3) := by decide +kernel
theorem d_R_advance_5 : decode prog_1_method_8_code 5 = .ok (.iload_n 1, 1) := by decide +kernel
theorem d_R_advance_6 : decode prog_1_method_8_code 6 = .ok (.sipush 2048, 3) := by decide +kernel
theorem d_R_advance_9 : decode prog_1_method_8_code 9 = .ok (.if_icmp .le 5, 3) := by decide +kernel
theorem d_R_advance_12 : decode prog_1_method_8_code 12 = .ok (.iconst (-1), 1) := by decide +kernel
theorem d_R_advance_13 : decode prog_1_method_8_code 13 = .ok (.ireturn, 1) := by decide +kernel
theorem d_R_advance_14 : decode prog_1_method_8_code 14 = .ok (.iconst 0, 1) := by decide +kernel
theorem d_R_advance_15 : decode prog_1_method_8_code 15 = .ok (.istore_n 2, 1) := by decide +kernel
theorem d_R_advance_16 : decode prog_1_method_8_code 16 = .ok (.iconst 0, 1) := by decide +kernel
theorem d_R_advance_17 : decode prog_1_method_8_code 17 = .ok (.istore_n 3, 1) := by decide +kernel
theorem d_R_advance_18 : decode prog_1_method_8_code 18 = .ok (.iconst 0, 1) := by decide +kernel
theorem d_R_advance_19 : decode prog_1_method_8_code 19 = .ok (.istore 4, 2) := by decide +kernel
theorem d_R_advance_21 : decode prog_1_method_8_code 21 = .ok (.iload 4, 2) := by decide +kernel
theorem d_R_advance_23 : decode prog_1_method_8_code 23 = .ok (.iload_n 1, 1) := by decide +kernel
theorem d_R_advance_24 : decode prog_1_method_8_code 24 = .ok (.if_icmp .ge 72, 3) := by decide +kernel
theorem d_R_advance_27 : decode prog_1_method_8_code 27 = .ok (.iload_n 2, 1) := by decide +kernel
theorem d_R_advance_28 : decode prog_1_method_8_code 28 = .ok (.iload_n 1, 1) := by decide +kernel
theorem d_R_advance_29 : decode prog_1_method_8_code 29 = .ok (.if_icmp .ge 67, 3) := by decide +kernel
theorem d_R_advance_32 : decode prog_1_method_8_code 32 = .ok (.iload_n 3, 1) := by decide +kernel
theorem d_R_advance_33 : decode prog_1_method_8_code 33 = .ok (.ifCond .ne 63, 3) := by decide +kernel
theorem d_R_advance_36 : decode prog_1_method_8_code 36 = .ok (.aload_n 0, 1) := by decide +kernel
theorem d_R_advance_37 : decode prog_1_method_8_code 37 = .ok (.iload_n 1, 1) := by decide +kernel
theorem d_R_advance_38 : decode prog_1_method_8_code 38 = .ok (.iload_n 2, 1) := by decide +kernel
theorem d_R_advance_39 : decode prog_1_method_8_code 39 = .ok (.isub, 1) := by decide +kernel
theorem d_R_advance_40 : decode prog_1_method_8_code 40 = .ok (.invokevirtual 109, 3) := by decide +kernel
theorem d_R_advance_43 : decode prog_1_method_8_code 43 = .ok (.aload_n 0, 1) := by decide +kernel
theorem d_R_advance_44 : decode prog_1_method_8_code 44 = .ok (.invokevirtual 112, 3) := by decide +kernel
theorem d_R_advance_47 : decode prog_1_method_8_code 47 = .ok (.lstore 5, 2) := by decide +kernel
theorem d_R_advance_49 : decode prog_1_method_8_code 49 = .ok (.lload 5, 2) := by decide +kernel
theorem d_R_advance_51 : decode prog_1_method_8_code 51 = .ok (.ldc2_w 116, 3) := by decide +kernel
theorem d_R_advance_54 : decode prog_1_method_8_code 54 = .ok (.lcmp, 1) := by decide +kernel
theorem d_R_advance_55 : decode prog_1_method_8_code 55 = .ok (.ifCond .ne 6, 3) := by decide +kernel
theorem d_R_advance_58 : decode prog_1_method_8_code 58 = .ok (.bipush (-2), 2) := by decide +kernel
theorem d_R_advance_60 : decode prog_1_method_8_code 60 = .ok (.ireturn, 1) := by decide +kernel
theorem d_R_advance_61 : decode prog_1_method_8_code 61 = .ok (.aload_n 0, 1) := by decide +kernel
theorem d_R_advance_62 : decode prog_1_method_8_code 62 = .ok (.getfield 118, 3) := by decide +kernel
theorem d_R_advance_65 : decode prog_1_method_8_code 65 = .ok (.invokestatic 121, 3) := by decide +kernel
theorem d_R_advance_68 : decode prog_1_method_8_code 68 = .ok (.istore 7, 2) := by decide +kernel
theorem d_R_advance_70 : decode prog_1_method_8_code 70 = .ok (.aload_n 0, 1) := by decide +kernel
theorem d_R_advance_71 : decode prog_1_method_8_code 71 = .ok (.iload 7, 2) := by decide +kernel
theorem d_R_advance_73 : decode prog_1_method_8_code 73 = .ok (.lload 5, 2) := by decide +kernel
theorem d_R_advance_75 : decode prog_1_method_8_code 75 = .ok (.invokevirtual 125, 3) := by decide +kernel
theorem d_R_advance_78 : decode prog_1_method_8_code 78 = .ok (.aload_n 0, 1) := by decide +kernel
theorem d_R_advance_79 : decode prog_1_method_8_code 79 = .ok (.iload 7, 2) := by decide +kernel
theorem d_R_advance_81 : decode prog_1_method_8_code 81 = .ok (.invokevirtual 129, 3) := by decide +kernel
theorem d_R_advance_84 : decode prog_1_method_8_code 84 = .ok (.istore_n 3, 1) := by decide +kernel
theorem d_R_advance_85 : decode prog_1_method_8_code 85 = .ok (.iload_n 2, 1) := by decide +kernel
theorem d_R_advance_86 : decode prog_1_method_8_code 86 = .ok (.iload 7, 2) := by decide +kernel
theorem d_R_advance_88 : decode prog_1_method_8_code 88 = .ok (.iadd, 1) := by decide +kernel
theorem d_R_advance_89 : decode prog_1_method_8_code 89 = .ok (.istore_n 2, 1) := by decide +kernel
theorem d_R_advance_90 : decode prog_1_method_8_code 90 = .ok (.iinc 4 1, 3) := by decide +kernel
theorem d_R_advance_93 : decode prog_1_method_8_code 93 = .ok (.goto (-72), 3) := by decide +kernel
theorem d_R_advance_96 : decode prog_1_method_8_code 96 = .ok (.iload_n 2, 1) := by decide +kernel
theorem d_R_advance_97 : decode prog_1_method_8_code 97 = .ok (.ireturn, 1) := by decide +kernel
theorem d_R_fitFineness_0 : decode prog_1_method_20_code 0 = .ok (.aload_n 0, 1) := by decide +kernel
theorem d_R_fitFineness_1 : decode prog_1_method_20_code 1 = .ok (.getfield 118, 3) := by decide +kernel
theorem d_R_fitFineness_4 : decode prog_1_method_20_code 4 = .ok (.bipush 8, 2) := by decide +kernel
theorem d_R_fitFineness_6 : decode prog_1_method_20_code 6 = .ok (.if_icmp .ge 31, 3) := by decide +kernel
theorem d_R_fitFineness_9 : decode prog_1_method_20_code 9 = .ok (.aload_n 0, 1) := by decide +kernel
theorem d_R_fitFineness_10 : decode prog_1_method_20_code 10 = .ok (.aload_n 0, 1) := by decide +kernel
theorem d_R_fitFineness_11 : decode prog_1_method_20_code 11 = .ok (.getfield 118, 3) := by decide +kernel
theorem d_R_fitFineness_14 : decode prog_1_method_20_code 14 = .ok (.invokestatic 121, 3) := by decide +kernel
theorem d_R_fitFineness_17 : decode prog_1_method_20_code 17 = .ok (.iload_n 1, 1) := by decide +kernel
theorem d_R_fitFineness_18 : decode prog_1_method_20_code 18 = .ok (.invokevirtual 176, 3) := by decide +kernel
theorem d_R_fitFineness_21 : decode prog_1_method_20_code 21 = .ok (.ifCond .ne 16, 3) := by decide +kernel
theorem d_R_fitFineness_24 : decode prog_1_method_20_code 24 = .ok (.aload_n 0, 1) := by decide +kernel
theorem d_R_fitFineness_25 : decode prog_1_method_20_code 25 = .ok (.dup, 1) := by decide +kernel
theorem d_R_fitFineness_26 : decode prog_1_method_20_code 26 = .ok (.getfield 118, 3) := by decide +kernel
theorem d_R_fitFineness_29 : decode prog_1_method_20_code 29 = .ok (.iconst 1, 1) := by decide +kernel
theorem d_R_fitFineness_30 : decode prog_1_method_20_code 30 = .ok (.iadd, 1) := by decide +kernel
theorem d_R_fitFineness_31 : decode prog_1_method_20_code 31 = .ok (.putfield 118, 3) := by decide +kernel
theorem d_R_fitFineness_34 : decode prog_1_method_20_code 34 = .ok (.goto (-34), 3) := by decide +kernel
theorem d_R_fitFineness_37 : decode prog_1_method_20_code 37 = .ok (.return_, 1) := by decide +kernel
theorem d_R_ticksOf_0 : decode prog_1_method_19_code 0 = .ok (.sipush 256, 3) := by decide +kernel
theorem d_R_ticksOf_3 : decode prog_1_method_19_code 3 = .ok (.iload_n 0, 1) := by decide +kernel
theorem d_R_ticksOf_4 : decode prog_1_method_19_code 4 = .ok (.ishr, 1) := by decide +kernel
theorem d_R_ticksOf_5 : decode prog_1_method_19_code 5 = .ok (.ireturn, 1) := by decide +kernel
theorem d_R_fits_0 : decode prog_1_method_21_code 0 = .ok (.iload_n 1, 1) := by decide +kernel
theorem d_R_fits_1 : decode prog_1_method_21_code 1 = .ok (.iload_n 2, 1) := by decide +kernel
theorem d_R_fits_2 : decode prog_1_method_21_code 2 = .ok (.if_icmp .gt 18, 3) := by decide +kernel
theorem d_R_fits_5 : decode prog_1_method_21_code 5 = .ok (.aload_n 0, 1) := by decide +kernel
theorem d_R_fits_6 : decode prog_1_method_21_code 6 = .ok (.getfield 154, 3) := by decide +kernel
theorem d_R_fits_9 : decode prog_1_method_21_code 9 = .ok (.iload_n 1, 1) := by decide +kernel
theorem d_R_fits_10 : decode prog_1_method_21_code 10 = .ok (.iconst 1, 1) := by decide +kernel
theorem d_R_fits_11 : decode prog_1_method_21_code 11 = .ok (.isub, 1) := by decide +kernel
theorem d_R_fits_12 : decode prog_1_method_21_code 12 = .ok (.iand, 1) := by decide +kernel
theorem d_R_fits_13 : decode prog_1_method_21_code 13 = .ok (.ifCond .ne 7, 3) := by decide +kernel
theorem d_R_fits_16 : decode prog_1_method_21_code 16 = .ok (.iconst 1, 1) := by decide +kernel
theorem d_R_fits_17 : decode prog_1_method_21_code 17 = .ok (.goto 4, 3) := by decide +kernel
theorem d_R_fits_20 : decode prog_1_method_21_code 20 = .ok (.iconst 0, 1) := by decide +kernel
theorem d_R_fits_21 : decode prog_1_method_21_code 21 = .ok (.ireturn, 1) := by decide +kernel
theorem d_R_tryUntilGood_0 : decode prog_1_method_22_code 0 = .ok (.aload_n 0, 1) := by decide +kernel
theorem d_R_tryUntilGood_1 : decode prog_1_method_22_code 1 = .ok (.invokevirtual 180, 3) := by decide +kernel
theorem d_R_tryUntilGood_4 : decode prog_1_method_22_code 4 = .ok (.lstore_n 1, 1) := by decide +kernel
theorem d_R_tryUntilGood_5 : decode prog_1_method_22_code 5 = .ok (.lload_n 1, 1) := by decide +kernel
theorem d_R_tryUntilGood_6 : decode prog_1_method_22_code 6 = .ok (.aload_n 0, 1) := by decide +kernel
theorem d_R_tryUntilGood_7 : decode prog_1_method_22_code 7 = .ok (.getfield 61, 3) := by decide +kernel
theorem d_R_tryUntilGood_10 : decode prog_1_method_22_code 10 = .ok (.i2l, 1) := by decide +kernel
theorem d_R_tryUntilGood_11 : decode prog_1_method_22_code 11 = .ok (.lcmp, 1) := by decide +kernel
theorem d_R_tryUntilGood_12 : decode prog_1_method_22_code 12 = .ok (.ifCond .le 40, 3) := by decide +kernel
theorem d_R_tryUntilGood_15 : decode prog_1_method_22_code 15 = .ok (.aload_n 0, 1) := by decide +kernel
theorem d_R_tryUntilGood_16 : decode prog_1_method_22_code 16 = .ok (.getfield 118, 3) := by decide +kernel
theorem d_R_tryUntilGood_19 : decode prog_1_method_22_code 19 = .ok (.bipush 8, 2) := by decide +kernel
theorem d_R_tryUntilGood_21 : decode prog_1_method_22_code 21 = .ok (.if_icmp .ge 31, 3) := by decide +kernel
theorem d_R_tryUntilGood_24 : decode prog_1_method_22_code 24 = .ok (.aload_n 0, 1) := by decide +kernel
theorem d_R_tryUntilGood_25 : decode prog_1_method_22_code 25 = .ok (.dup, 1) := by decide +kernel
theorem d_R_tryUntilGood_26 : decode prog_1_method_22_code 26 = .ok (.getfield 118, 3) := by decide +kernel
theorem d_R_tryUntilGood_29 : decode prog_1_method_22_code 29 = .ok (.iconst 1, 1) := by decide +kernel
theorem d_R_tryUntilGood_30 : decode prog_1_method_22_code 30 = .ok (.iadd, 1) := by decide +kernel
theorem d_R_tryUntilGood_31 : decode prog_1_method_22_code 31 = .ok (.putfield 118, 3) := by decide +kernel
theorem d_R_tryUntilGood_34 : decode prog_1_method_22_code 34 = .ok (.aload_n 0, 1) := by decide +kernel
theorem d_R_tryUntilGood_35 : decode prog_1_method_22_code 35 = .ok (.dup, 1) := by decide +kernel
theorem d_R_tryUntilGood_36 : decode prog_1_method_22_code 36 = .ok (.getfield 160, 3) := by decide +kernel
theorem d_R_tryUntilGood_39 : decode prog_1_method_22_code 39 = .ok (.iconst 1, 1) := by decide +kernel
theorem d_R_tryUntilGood_40 : decode prog_1_method_22_code 40 = .ok (.iadd, 1) := by decide +kernel
theorem d_R_tryUntilGood_41 : decode prog_1_method_22_code 41 = .ok (.putfield 160, 3) := by decide +kernel
theorem d_R_tryUntilGood_44 : decode prog_1_method_22_code 44 = .ok (.aload_n 0, 1) := by decide +kernel
theorem d_R_tryUntilGood_45 : decode prog_1_method_22_code 45 = .ok (.invokevirtual 180, 3) := by decide +kernel
theorem d_R_tryUntilGood_48 : decode prog_1_method_22_code 48 = .ok (.lstore_n 1, 1) := by decide +kernel
theorem d_R_tryUntilGood_49 : decode prog_1_method_22_code 49 = .ok (.goto (-44), 3) := by decide +kernel
theorem d_R_tryUntilGood_52 : decode prog_1_method_22_code 52 = .ok (.lload_n 1, 1) := by decide +kernel
theorem d_R_tryUntilGood_53 : decode prog_1_method_22_code 53 = .ok (.lreturn, 1) := by decide +kernel
theorem d_R_errorOfTry_0 : decode prog_1_method_23_code 0 = .ok (.aload_n 0, 1) := by decide +kernel
theorem d_R_errorOfTry_1 : decode prog_1_method_23_code 1 = .ok (.getfield 41, 3) := by decide +kernel
theorem d_R_errorOfTry_4 : decode prog_1_method_23_code 4 = .ok (.aload_n 0, 1) := by decide +kernel
theorem d_R_errorOfTry_5 : decode prog_1_method_23_code 5 = .ok (.getfield 34, 3) := by decide +kernel
theorem d_R_errorOfTry_8 : decode prog_1_method_23_code 8 = .ok (.invokevirtual 183, 3) := by decide +kernel
theorem d_R_errorOfTry_11 : decode prog_1_method_23_code 11 = .ok (.aload_n 0, 1) := by decide +kernel
theorem d_R_errorOfTry_12 : decode prog_1_method_23_code 12 = .ok (.getfield 44, 3) := by decide +kernel
theorem d_R_errorOfTry_15 : decode prog_1_method_23_code 15 = .ok (.aload_n 0, 1) := by decide +kernel
theorem d_R_errorOfTry_16 : decode prog_1_method_23_code 16 = .ok (.getfield 34, 3) := by decide +kernel
theorem d_R_errorOfTry_19 : decode prog_1_method_23_code 19 = .ok (.invokevirtual 183, 3) := by decide +kernel
theorem d_R_errorOfTry_22 : decode prog_1_method_23_code 22 = .ok (.aload_n 0, 1) := by decide +kernel
theorem d_R_errorOfTry_23 : decode prog_1_method_23_code 23 = .ok (.getfield 27, 3) := by decide +kernel
theorem d_R_errorOfTry_26 : decode prog_1_method_23_code 26 = .ok (.aload_n 0, 1) := by decide +kernel
theorem d_R_errorOfTry_27 : decode prog_1_method_23_code 27 = .ok (.getfield 41, 3) := by decide +kernel
theorem d_R_errorOfTry_30 : decode prog_1_method_23_code 30 = .ok (.aload_n 0, 1) := by decide +kernel
theorem d_R_errorOfTry_31 : decode prog_1_method_23_code 31 = .ok (.getfield 118, 3) := by decide +kernel
theorem d_R_errorOfTry_34 : decode prog_1_method_23_code 34 = .ok (.invokevirtual 187, 3) := by decide +kernel
theorem d_R_errorOfTry_37 : decode prog_1_method_23_code 37 = .ok (.ifCond .eq 47, 3) := by decide +kernel
theorem d_R_errorOfTry_40 : decode prog_1_method_23_code 40 = .ok (.aload_n 0, 1) := by decide +kernel
theorem d_R_errorOfTry_41 : decode prog_1_method_23_code 41 = .ok (.getfield 27, 3) := by decide +kernel
theorem d_R_errorOfTry_44 : decode prog_1_method_23_code 44 = .ok (.aload_n 0, 1) := by decide +kernel
theorem d_R_errorOfTry_45 : decode prog_1_method_23_code 45 = .ok (.getfield 44, 3) := by decide +kernel
theorem d_R_errorOfTry_48 : decode prog_1_method_23_code 48 = .ok (.aload_n 0, 1) := by decide +kernel
theorem d_R_errorOfTry_49 : decode prog_1_method_23_code 49 = .ok (.getfield 118, 3) := by decide +kernel
theorem d_R_errorOfTry_52 : decode prog_1_method_23_code 52 = .ok (.iconst 1, 1) := by decide +kernel
theorem d_R_errorOfTry_53 : decode prog_1_method_23_code 53 = .ok (.iadd, 1) := by decide +kernel
theorem d_R_errorOfTry_54 : decode prog_1_method_23_code 54 = .ok (.invokevirtual 187, 3) := by decide +kernel
theorem d_R_errorOfTry_57 : decode prog_1_method_23_code 57 = .ok (.ifCond .eq 27, 3) := by decide +kernel
theorem d_R_errorOfTry_60 : decode prog_1_method_23_code 60 = .ok (.aload_n 0, 1) := by decide +kernel
theorem d_R_errorOfTry_61 : decode prog_1_method_23_code 61 = .ok (.getfield 27, 3) := by decide +kernel
theorem d_R_errorOfTry_64 : decode prog_1_method_23_code 64 = .ok (.aload_n 0, 1) := by decide +kernel
theorem d_R_errorOfTry_65 : decode prog_1_method_23_code 65 = .ok (.getfield 44, 3) := by decide +kernel
theorem d_R_errorOfTry_68 : decode prog_1_method_23_code 68 = .ok (.aload_n 0, 1) := by decide +kernel
theorem d_R_errorOfTry_69 : decode prog_1_method_23_code 69 = .ok (.getfield 118, 3) := by decide +kernel
theorem d_R_errorOfTry_72 : decode prog_1_method_23_code 72 = .ok (.iconst 1, 1) := by decide +kernel
theorem d_R_errorOfTry_73 : decode prog_1_method_23_code 73 = .ok (.iadd, 1) := by decide +kernel
theorem d_R_errorOfTry_74 : decode prog_1_method_23_code 74 = .ok (.invokevirtual 187, 3) := by decide +kernel
theorem d_R_errorOfTry_77 : decode prog_1_method_23_code 77 = .ok (.ifCond .eq 7, 3) := by decide +kernel
theorem d_R_errorOfTry_80 : decode prog_1_method_23_code 80 = .ok (.iconst 1, 1) := by decide +kernel
theorem d_R_errorOfTry_81 : decode prog_1_method_23_code 81 = .ok (.goto 4, 3) := by decide +kernel
theorem d_R_errorOfTry_84 : decode prog_1_method_23_code 84 = .ok (.iconst 0, 1) := by decide +kernel
theorem d_R_errorOfTry_85 : decode prog_1_method_23_code 85 = .ok (.istore_n 1, 1) := by decide +kernel
theorem d_R_errorOfTry_86 : decode prog_1_method_23_code 86 = .ok (.iload_n 1, 1) := by decide +kernel
theorem d_R_errorOfTry_87 : decode prog_1_method_23_code 87 = .ok (.ifCond .eq 17, 3) := by decide +kernel
theorem d_R_errorOfTry_90 : decode prog_1_method_23_code 90 = .ok (.aload_n 0, 1) := by decide +kernel
theorem d_R_errorOfTry_91 : decode prog_1_method_23_code 91 = .ok (.getfield 41, 3) := by decide +kernel
theorem d_R_errorOfTry_94 : decode prog_1_method_23_code 94 = .ok (.aload_n 0, 1) := by decide +kernel
theorem d_R_errorOfTry_95 : decode prog_1_method_23_code 95 = .ok (.getfield 44, 3) := by decide +kernel
theorem d_R_errorOfTry_98 : decode prog_1_method_23_code 98 = .ok (.invokevirtual 191, 3) := by decide +kernel
theorem d_R_errorOfTry_101 : decode prog_1_method_23_code 101 = .ok (.goto 6, 3) := by decide +kernel
theorem d_R_errorOfTry_104 : decode prog_1_method_23_code 104 = .ok (.ldc2_w 116, 3) := by decide +kernel
theorem d_R_errorOfTry_107 : decode prog_1_method_23_code 107 = .ok (.lreturn, 1) := by decide +kernel
theorem d_R_takeStride_0 : decode prog_1_method_24_code 0 = .ok (.aload_n 0, 1) := by decide +kernel
theorem d_R_takeStride_1 : decode prog_1_method_24_code 1 = .ok (.getfield 38, 3) := by decide +kernel
theorem d_R_takeStride_4 : decode prog_1_method_24_code 4 = .ok (.aload_n 0, 1) := by decide +kernel
theorem d_R_takeStride_5 : decode prog_1_method_24_code 5 = .ok (.getfield 34, 3) := by decide +kernel
theorem d_R_takeStride_8 : decode prog_1_method_24_code 8 = .ok (.invokevirtual 183, 3) := by decide +kernel
theorem d_R_takeStride_11 : decode prog_1_method_24_code 11 = .ok (.aload_n 0, 1) := by decide +kernel
theorem d_R_takeStride_12 : decode prog_1_method_24_code 12 = .ok (.getfield 34, 3) := by decide +kernel
theorem d_R_takeStride_15 : decode prog_1_method_24_code 15 = .ok (.aload_n 0, 1) := by decide +kernel
theorem d_R_takeStride_16 : decode prog_1_method_24_code 16 = .ok (.getfield 44, 3) := by decide +kernel
theorem d_R_takeStride_19 : decode prog_1_method_24_code 19 = .ok (.invokevirtual 183, 3) := by decide +kernel
theorem d_R_takeStride_22 : decode prog_1_method_24_code 22 = .ok (.aload_n 0, 1) := by decide +kernel
theorem d_R_takeStride_23 : decode prog_1_method_24_code 23 = .ok (.dup, 1) := by decide +kernel
theorem d_R_takeStride_24 : decode prog_1_method_24_code 24 = .ok (.getfield 154, 3) := by decide +kernel
theorem d_R_takeStride_27 : decode prog_1_method_24_code 27 = .ok (.iload_n 1, 1) := by decide +kernel
theorem d_R_takeStride_28 : decode prog_1_method_24_code 28 = .ok (.iadd, 1) := by decide +kernel
theorem d_R_takeStride_29 : decode prog_1_method_24_code 29 = .ok (.putfield 154, 3) := by decide +kernel
theorem d_R_takeStride_32 : decode prog_1_method_24_code 32 = .ok (.aload_n 0, 1) := by decide +kernel
theorem d_R_takeStride_33 : decode prog_1_method_24_code 33 = .ok (.dup, 1) := by decide +kernel
theorem d_R_takeStride_34 : decode prog_1_method_24_code 34 = .ok (.getfield 157, 3) := by decide +kernel
theorem d_R_takeStride_37 : decode prog_1_method_24_code 37 = .ok (.iconst 1, 1) := by decide +kernel
theorem d_R_takeStride_38 : decode prog_1_method_24_code 38 = .ok (.iadd, 1) := by decide +kernel
theorem d_R_takeStride_39 : decode prog_1_method_24_code 39 = .ok (.putfield 157, 3) := by decide +kernel
theorem d_R_takeStride_42 : decode prog_1_method_24_code 42 = .ok (.aload_n 0, 1) := by decide +kernel
theorem d_R_takeStride_43 : decode prog_1_method_24_code 43 = .ok (.lload_n 2, 1) := by decide +kernel
theorem d_R_takeStride_44 : decode prog_1_method_24_code 44 = .ok (.putfield 163, 3) := by decide +kernel
theorem d_R_takeStride_47 : decode prog_1_method_24_code 47 = .ok (.aload_n 0, 1) := by decide +kernel
theorem d_R_takeStride_48 : decode prog_1_method_24_code 48 = .ok (.getfield 118, 3) := by decide +kernel
theorem d_R_takeStride_51 : decode prog_1_method_24_code 51 = .ok (.ifCond .le 27, 3) := by decide +kernel
theorem d_R_takeStride_54 : decode prog_1_method_24_code 54 = .ok (.lload_n 2, 1) := by decide +kernel
theorem d_R_takeStride_55 : decode prog_1_method_24_code 55 = .ok (.ldc2_w 195, 3) := by decide +kernel
theorem d_R_takeStride_58 : decode prog_1_method_24_code 58 = .ok (.lmul, 1) := by decide +kernel
theorem d_R_takeStride_59 : decode prog_1_method_24_code 59 = .ok (.aload_n 0, 1) := by decide +kernel
theorem d_R_takeStride_60 : decode prog_1_method_24_code 60 = .ok (.getfield 61, 3) := by decide +kernel
theorem d_R_takeStride_63 : decode prog_1_method_24_code 63 = .ok (.i2l, 1) := by decide +kernel
theorem d_R_takeStride_64 : decode prog_1_method_24_code 64 = .ok (.lcmp, 1) := by decide +kernel
theorem d_R_takeStride_65 : decode prog_1_method_24_code 65 = .ok (.ifCond .gt 13, 3) := by decide +kernel
theorem d_R_takeStride_68 : decode prog_1_method_24_code 68 = .ok (.aload_n 0, 1) := by decide +kernel
theorem d_R_takeStride_69 : decode prog_1_method_24_code 69 = .ok (.dup, 1) := by decide +kernel
theorem d_R_takeStride_70 : decode prog_1_method_24_code 70 = .ok (.getfield 118, 3) := by decide +kernel
theorem d_R_takeStride_73 : decode prog_1_method_24_code 73 = .ok (.iconst 1, 1) := by decide +kernel
theorem d_R_takeStride_74 : decode prog_1_method_24_code 74 = .ok (.isub, 1) := by decide +kernel
theorem d_R_takeStride_75 : decode prog_1_method_24_code 75 = .ok (.putfield 118, 3) := by decide +kernel
theorem d_R_takeStride_78 : decode prog_1_method_24_code 78 = .ok (.return_, 1) := by decide +kernel
theorem d_R_lookAtWatches_0 : decode prog_1_method_25_code 0 = .ok (.iconst 0, 1) := by decide +kernel
theorem d_R_lookAtWatches_1 : decode prog_1_method_25_code 1 = .ok (.istore_n 2, 1) := by decide +kernel
theorem d_R_lookAtWatches_2 : decode prog_1_method_25_code 2 = .ok (.iconst 0, 1) := by decide +kernel
theorem d_R_lookAtWatches_3 : decode prog_1_method_25_code 3 = .ok (.istore_n 3, 1) := by decide +kernel
theorem d_R_lookAtWatches_4 : decode prog_1_method_25_code 4 = .ok (.iload_n 3, 1) := by decide +kernel
theorem d_R_lookAtWatches_5 : decode prog_1_method_25_code 5 = .ok (.iconst 4, 1) := by decide +kernel
theorem d_R_lookAtWatches_6 : decode prog_1_method_25_code 6 = .ok (.if_icmp .ge 160, 3) := by decide +kernel
theorem d_R_lookAtWatches_9 : decode prog_1_method_25_code 9 = .ok (.aload_n 0, 1) := by decide +kernel
theorem d_R_lookAtWatches_10 : decode prog_1_method_25_code 10 = .ok (.getfield 49, 3) := by decide +kernel
theorem d_R_lookAtWatches_13 : decode prog_1_method_25_code 13 = .ok (.iload_n 3, 1) := by decide +kernel
theorem d_R_lookAtWatches_14 : decode prog_1_method_25_code 14 = .ok (.aaload, 1) := by decide +kernel
theorem d_R_lookAtWatches_15 : decode prog_1_method_25_code 15 = .ok (.astore 4, 2) := by decide +kernel
theorem d_R_lookAtWatches_17 : decode prog_1_method_25_code 17 = .ok (.aload 4, 2) := by decide +kernel
theorem d_R_lookAtWatches_19 : decode prog_1_method_25_code 19 = .ok (.getfield 95, 3) := by decide +kernel
theorem d_R_lookAtWatches_22 : decode prog_1_method_25_code 22 = .ok (.istore 5, 2) := by decide +kernel
theorem d_R_lookAtWatches_24 : decode prog_1_method_25_code 24 = .ok (.aload 4, 2) := by decide +kernel
theorem d_R_lookAtWatches_26 : decode prog_1_method_25_code 26 = .ok (.aload_n 0, 1) := by decide +kernel
theorem d_R_lookAtWatches_27 : decode prog_1_method_25_code 27 = .ok (.getfield 38, 3) := by decide +kernel
theorem d_R_lookAtWatches_30 : decode prog_1_method_25_code 30 = .ok (.getfield 84, 3) := by decide +kernel
theorem d_R_lookAtWatches_33 : decode prog_1_method_25_code 33 = .ok (.iload 5, 2) := by decide +kernel
theorem d_R_lookAtWatches_35 : decode prog_1_method_25_code 35 = .ok (.laload, 1) := by decide +kernel
theorem d_R_lookAtWatches_36 : decode prog_1_method_25_code 36 = .ok (.aload_n 0, 1) := by decide +kernel
theorem d_R_lookAtWatches_37 : decode prog_1_method_25_code 37 = .ok (.getfield 34, 3) := by decide +kernel
theorem d_R_lookAtWatches_40 : decode prog_1_method_25_code 40 = .ok (.getfield 84, 3) := by decide +kernel
theorem d_R_lookAtWatches_43 : decode prog_1_method_25_code 43 = .ok (.iload 5, 2) := by decide +kernel
theorem d_R_lookAtWatches_45 : decode prog_1_method_25_code 45 = .ok (.laload, 1) := by decide +kernel
theorem d_R_lookAtWatches_46 : decode prog_1_method_25_code 46 = .ok (.invokevirtual 197, 3) := by decide +kernel
theorem d_R_lookAtWatches_49 : decode prog_1_method_25_code 49 = .ok (.ifCond .ne 6, 3) := by decide +kernel
theorem d_R_lookAtWatches_52 : decode prog_1_method_25_code 52 = .ok (.goto 108, 3) := by decide +kernel
theorem d_R_lookAtWatches_55 : decode prog_1_method_25_code 55 = .ok (.aload 4, 2) := by decide +kernel
theorem d_R_lookAtWatches_57 : decode prog_1_method_25_code 57 = .ok (.aload_n 0, 1) := by decide +kernel
theorem d_R_lookAtWatches_58 : decode prog_1_method_25_code 58 = .ok (.getfield 38, 3) := by decide +kernel
theorem d_R_lookAtWatches_61 : decode prog_1_method_25_code 61 = .ok (.getfield 84, 3) := by decide +kernel
theorem d_R_lookAtWatches_64 : decode prog_1_method_25_code 64 = .ok (.iload 5, 2) := by decide +kernel
theorem d_R_lookAtWatches_66 : decode prog_1_method_25_code 66 = .ok (.laload, 1) := by decide +kernel
theorem d_R_lookAtWatches_67 : decode prog_1_method_25_code 67 = .ok (.aload_n 0, 1) := by decide +kernel
theorem d_R_lookAtWatches_68 : decode prog_1_method_25_code 68 = .ok (.getfield 34, 3) := by decide +kernel
theorem d_R_lookAtWatches_71 : decode prog_1_method_25_code 71 = .ok (.getfield 84, 3) := by decide +kernel
theorem d_R_lookAtWatches_74 : decode prog_1_method_25_code 74 = .ok (.iload 5, 2) := by decide +kernel
theorem d_R_lookAtWatches_76 : decode prog_1_method_25_code 76 = .ok (.laload, 1) := by decide +kernel
theorem d_R_lookAtWatches_77 : decode prog_1_method_25_code 77 = .ok (.iload_n 1, 1) := by decide +kernel
theorem d_R_lookAtWatches_78 : decode prog_1_method_25_code 78 = .ok (.invokevirtual 201, 3) := by decide +kernel
theorem d_R_lookAtWatches_81 : decode prog_1_method_25_code 81 = .ok (.istore 6, 2) := by decide +kernel
theorem d_R_lookAtWatches_83 : decode prog_1_method_25_code 83 = .ok (.aload_n 0, 1) := by decide +kernel
theorem d_R_lookAtWatches_84 : decode prog_1_method_25_code 84 = .ok (.getfield 57, 3) := by decide +kernel
theorem d_R_lookAtWatches_87 : decode prog_1_method_25_code 87 = .ok (.iload_n 3, 1) := by decide +kernel
theorem d_R_lookAtWatches_88 : decode prog_1_method_25_code 88 = .ok (.aload_n 0, 1) := by decide +kernel
theorem d_R_lookAtWatches_89 : decode prog_1_method_25_code 89 = .ok (.getfield 154, 3) := by decide +kernel
theorem d_R_lookAtWatches_92 : decode prog_1_method_25_code 92 = .ok (.iload_n 1, 1) := by decide +kernel
theorem d_R_lookAtWatches_93 : decode prog_1_method_25_code 93 = .ok (.isub, 1) := by decide +kernel
theorem d_R_lookAtWatches_94 : decode prog_1_method_25_code 94 = .ok (.iload 6, 2) := by decide +kernel
theorem d_R_lookAtWatches_96 : decode prog_1_method_25_code 96 = .ok (.iadd, 1) := by decide +kernel
theorem d_R_lookAtWatches_97 : decode prog_1_method_25_code 97 = .ok (.aload_n 0, 1) := by decide +kernel
theorem d_R_lookAtWatches_98 : decode prog_1_method_25_code 98 = .ok (.getfield 34, 3) := by decide +kernel
theorem d_R_lookAtWatches_101 : decode prog_1_method_25_code 101 = .ok (.getfield 88, 3) := by decide +kernel
theorem d_R_lookAtWatches_104 : decode prog_1_method_25_code 104 = .ok (.iload 5, 2) := by decide +kernel
theorem d_R_lookAtWatches_106 : decode prog_1_method_25_code 106 = .ok (.laload, 1) := by decide +kernel
theorem d_R_lookAtWatches_107 : decode prog_1_method_25_code 107 = .ok (.l2i, 1) := by decide +kernel
theorem d_R_lookAtWatches_108 : decode prog_1_method_25_code 108 = .ok (.invokevirtual 205, 3) := by decide +kernel
theorem d_R_lookAtWatches_111 : decode prog_1_method_25_code 111 = .ok (.aload 4, 2) := by decide +kernel
theorem d_R_lookAtWatches_113 : decode prog_1_method_25_code 113 = .ok (.getfield 106, 3) := by decide +kernel
theorem d_R_lookAtWatches_116 : decode prog_1_method_25_code 116 = .ok (.iconst 1, 1) := by decide +kernel
theorem d_R_lookAtWatches_117 : decode prog_1_method_25_code 117 = .ok (.if_icmp .ne 24, 3) := by decide +kernel
theorem d_R_lookAtWatches_120 : decode prog_1_method_25_code 120 = .ok (.aload_n 0, 1) := by decide +kernel
theorem d_R_lookAtWatches_121 : decode prog_1_method_25_code 121 = .ok (.getfield 34, 3) := by decide +kernel
theorem d_R_lookAtWatches_124 : decode prog_1_method_25_code 124 = .ok (.getfield 88, 3) := by decide +kernel
theorem d_R_lookAtWatches_127 : decode prog_1_method_25_code 127 = .ok (.iload 5, 2) := by decide +kernel
theorem d_R_lookAtWatches_129 : decode prog_1_method_25_code 129 = .ok (.aload_n 0, 1) := by decide +kernel
theorem d_R_lookAtWatches_130 : decode prog_1_method_25_code 130 = .ok (.getfield 34, 3) := by decide +kernel
theorem d_R_lookAtWatches_133 : decode prog_1_method_25_code 133 = .ok (.getfield 88, 3) := by decide +kernel
theorem d_R_lookAtWatches_136 : decode prog_1_method_25_code 136 = .ok (.iload 5, 2) := by decide +kernel
theorem d_R_lookAtWatches_138 : decode prog_1_method_25_code 138 = .ok (.laload, 1) := by decide +kernel
theorem d_R_lookAtWatches_139 : decode prog_1_method_25_code 139 = .ok (.lneg, 1) := by decide +kernel
theorem d_R_lookAtWatches_140 : decode prog_1_method_25_code 140 = .ok (.lastore, 1) := by decide +kernel
theorem d_R_lookAtWatches_141 : decode prog_1_method_25_code 141 = .ok (.iload_n 2, 1) := by decide +kernel
theorem d_R_lookAtWatches_142 : decode prog_1_method_25_code 142 = .ok (.ifCond .ne 12, 3) := by decide +kernel
theorem d_R_lookAtWatches_145 : decode prog_1_method_25_code 145 = .ok (.aload 4, 2) := by decide +kernel
theorem d_R_lookAtWatches_147 : decode prog_1_method_25_code 147 = .ok (.getfield 106, 3) := by decide +kernel
theorem d_R_lookAtWatches_150 : decode prog_1_method_25_code 150 = .ok (.iconst 2, 1) := by decide +kernel
theorem d_R_lookAtWatches_151 : decode prog_1_method_25_code 151 = .ok (.if_icmp .ne 7, 3) := by decide +kernel
theorem d_R_lookAtWatches_154 : decode prog_1_method_25_code 154 = .ok (.iconst 1, 1) := by decide +kernel
theorem d_R_lookAtWatches_155 : decode prog_1_method_25_code 155 = .ok (.goto 4, 3) := by decide +kernel
theorem d_R_lookAtWatches_158 : decode prog_1_method_25_code 158 = .ok (.iconst 0, 1) := by decide +kernel
theorem d_R_lookAtWatches_159 : decode prog_1_method_25_code 159 = .ok (.istore_n 2, 1) := by decide +kernel
theorem d_R_lookAtWatches_160 : decode prog_1_method_25_code 160 = .ok (.iinc 3 1, 3) := by decide +kernel
theorem d_R_lookAtWatches_163 : decode prog_1_method_25_code 163 = .ok (.goto (-159), 3) := by decide +kernel
theorem d_R_lookAtWatches_166 : decode prog_1_method_25_code 166 = .ok (.iload_n 2, 1) := by decide +kernel
theorem d_R_lookAtWatches_167 : decode prog_1_method_25_code 167 = .ok (.ireturn, 1) := by decide +kernel
theorem d_R_place_0 : decode prog_1_method_9_code 0 = .ok (.aload_n 0, 1) := by decide +kernel
theorem d_R_place_1 : decode prog_1_method_9_code 1 = .ok (.iload_n 1, 1) := by decide +kernel
theorem d_R_place_2 : decode prog_1_method_9_code 2 = .ok (.invokevirtual 64, 3) := by decide +kernel
theorem d_R_place_5 : decode prog_1_method_9_code 5 = .ok (.ifCond .eq 16, 3) := by decide +kernel
theorem d_R_place_8 : decode prog_1_method_9_code 8 = .ok (.aload_n 0, 1) := by decide +kernel
theorem d_R_place_9 : decode prog_1_method_9_code 9 = .ok (.getfield 34, 3) := by decide +kernel
theorem d_R_place_12 : decode prog_1_method_9_code 12 = .ok (.getfield 84, 3) := by decide +kernel
theorem d_R_place_15 : decode prog_1_method_9_code 15 = .ok (.iload_n 1, 1) := by decide +kernel
theorem d_R_place_16 : decode prog_1_method_9_code 16 = .ok (.laload, 1) := by decide +kernel
theorem d_R_place_17 : decode prog_1_method_9_code 17 = .ok (.l2i, 1) := by decide +kernel
theorem d_R_place_18 : decode prog_1_method_9_code 18 = .ok (.goto 4, 3) := by decide +kernel
theorem d_R_place_21 : decode prog_1_method_9_code 21 = .ok (.iconst (-1), 1) := by decide +kernel
theorem d_R_place_22 : decode prog_1_method_9_code 22 = .ok (.ireturn, 1) := by decide +kernel
theorem d_R_speed_0 : decode prog_1_method_10_code 0 = .ok (.aload_n 0, 1) := by decide +kernel
theorem d_R_speed_1 : decode prog_1_method_10_code 1 = .ok (.iload_n 1, 1) := by decide +kernel
theorem d_R_speed_2 : decode prog_1_method_10_code 2 = .ok (.invokevirtual 64, 3) := by decide +kernel
theorem d_R_speed_5 : decode prog_1_method_10_code 5 = .ok (.ifCond .eq 16, 3) := by decide +kernel
theorem d_R_speed_8 : decode prog_1_method_10_code 8 = .ok (.aload_n 0, 1) := by decide +kernel
theorem d_R_speed_9 : decode prog_1_method_10_code 9 = .ok (.getfield 34, 3) := by decide +kernel
theorem d_R_speed_12 : decode prog_1_method_10_code 12 = .ok (.getfield 88, 3) := by decide +kernel
theorem d_R_speed_15 : decode prog_1_method_10_code 15 = .ok (.iload_n 1, 1) := by decide +kernel
theorem d_R_speed_16 : decode prog_1_method_10_code 16 = .ok (.laload, 1) := by decide +kernel
theorem d_R_speed_17 : decode prog_1_method_10_code 17 = .ok (.l2i, 1) := by decide +kernel
theorem d_R_speed_18 : decode prog_1_method_10_code 18 = .ok (.goto 4, 3) := by decide +kernel
theorem d_R_speed_21 : decode prog_1_method_10_code 21 = .ok (.iconst (-1), 1) := by decide +kernel
theorem d_R_speed_22 : decode prog_1_method_10_code 22 = .ok (.ireturn, 1) := by decide +kernel
theorem d_R_push_0 : decode prog_1_method_11_code 0 = .ok (.aload_n 0, 1) := by decide +kernel
theorem d_R_push_1 : decode prog_1_method_11_code 1 = .ok (.iload_n 1, 1) := by decide +kernel
theorem d_R_push_2 : decode prog_1_method_11_code 2 = .ok (.invokevirtual 64, 3) := by decide +kernel
theorem d_R_push_5 : decode prog_1_method_11_code 5 = .ok (.ifCond .eq 18, 3) := by decide +kernel
theorem d_R_push_8 : decode prog_1_method_11_code 8 = .ok (.aload_n 0, 1) := by decide +kernel
theorem d_R_push_9 : decode prog_1_method_11_code 9 = .ok (.getfield 27, 3) := by decide +kernel
theorem d_R_push_12 : decode prog_1_method_11_code 12 = .ok (.iload_n 1, 1) := by decide +kernel
theorem d_R_push_13 : decode prog_1_method_11_code 13 = .ok (.aload_n 0, 1) := by decide +kernel
theorem d_R_push_14 : decode prog_1_method_11_code 14 = .ok (.getfield 34, 3) := by decide +kernel
theorem d_R_push_17 : decode prog_1_method_11_code 17 = .ok (.invokevirtual 132, 3) := by decide +kernel
theorem d_R_push_20 : decode prog_1_method_11_code 20 = .ok (.goto 6, 3) := by decide +kernel
theorem d_R_push_23 : decode prog_1_method_11_code 23 = .ok (.ldc2_w 136, 3) := by decide +kernel
theorem d_R_push_26 : decode prog_1_method_11_code 26 = .ok (.lreturn, 1) := by decide +kernel
theorem d_R_hit_0 : decode prog_1_method_12_code 0 = .ok (.aload_n 0, 1) := by decide +kernel
theorem d_R_hit_1 : decode prog_1_method_12_code 1 = .ok (.getfield 57, 3) := by decide +kernel
theorem d_R_hit_4 : decode prog_1_method_12_code 4 = .ok (.iload_n 1, 1) := by decide +kernel
theorem d_R_hit_5 : decode prog_1_method_12_code 5 = .ok (.invokevirtual 138, 3) := by decide +kernel
theorem d_R_hit_8 : decode prog_1_method_12_code 8 = .ok (.ifCond .ne 6, 3) := by decide +kernel
theorem d_R_hit_11 : decode prog_1_method_12_code 11 = .ok (.ldc 141, 2) := by decide +kernel
theorem d_R_hit_13 : decode prog_1_method_12_code 13 = .ok (.ireturn, 1) := by decide +kernel
theorem d_R_hit_14 : decode prog_1_method_12_code 14 = .ok (.iload_n 2, 1) := by decide +kernel
theorem d_R_hit_15 : decode prog_1_method_12_code 15 = .ok (.tableswitch 55 0 2 #[25, 35, 45], 25) := by decide +kernel
theorem d_R_hit_40 : decode prog_1_method_12_code 40 = .ok (.aload_n 0, 1) := by decide +kernel
theorem d_R_hit_41 : decode prog_1_method_12_code 41 = .ok (.getfield 57, 3) := by decide +kernel
theorem d_R_hit_44 : decode prog_1_method_12_code 44 = .ok (.getfield 142, 3) := by decide +kernel
theorem d_R_hit_47 : decode prog_1_method_12_code 47 = .ok (.iload_n 1, 1) := by decide +kernel
theorem d_R_hit_48 : decode prog_1_method_12_code 48 = .ok (.iaload, 1) := by decide +kernel
theorem d_R_hit_49 : decode prog_1_method_12_code 49 = .ok (.ireturn, 1) := by decide +kernel
theorem d_R_hit_50 : decode prog_1_method_12_code 50 = .ok (.aload_n 0, 1) := by decide +kernel
theorem d_R_hit_51 : decode prog_1_method_12_code 51 = .ok (.getfield 57, 3) := by decide +kernel
theorem d_R_hit_54 : decode prog_1_method_12_code 54 = .ok (.getfield 145, 3) := by decide +kernel
theorem d_R_hit_57 : decode prog_1_method_12_code 57 = .ok (.iload_n 1, 1) := by decide +kernel
theorem d_R_hit_58 : decode prog_1_method_12_code 58 = .ok (.iaload, 1) := by decide +kernel
theorem d_R_hit_59 : decode prog_1_method_12_code 59 = .ok (.ireturn, 1) := by decide +kernel
theorem d_R_hit_60 : decode prog_1_method_12_code 60 = .ok (.aload_n 0, 1) := by decide +kernel
theorem d_R_hit_61 : decode prog_1_method_12_code 61 = .ok (.getfield 57, 3) := by decide +kernel
theorem d_R_hit_64 : decode prog_1_method_12_code 64 = .ok (.getfield 148, 3) := by decide +kernel
theorem d_R_hit_67 : decode prog_1_method_12_code 67 = .ok (.iload_n 1, 1) := by decide +kernel
theorem d_R_hit_68 : decode prog_1_method_12_code 68 = .ok (.iaload, 1) := by decide +kernel
theorem d_R_hit_69 : decode prog_1_method_12_code 69 = .ok (.ireturn, 1) := by decide +kernel
theorem d_R_hit_70 : decode prog_1_method_12_code 70 = .ok (.ldc 141, 2) := by decide +kernel
theorem d_R_hit_72 : decode prog_1_method_12_code 72 = .ok (.ireturn, 1) := by decide +kernel
theorem d_R_clear_0 : decode prog_1_method_13_code 0 = .ok (.aload_n 0, 1) := by decide +kernel
theorem d_R_clear_1 : decode prog_1_method_13_code 1 = .ok (.getfield 57, 3) := by decide +kernel
theorem d_R_clear_4 : decode prog_1_method_13_code 4 = .ok (.getfield 151, 3) := by decide +kernel
theorem d_R_clear_7 : decode prog_1_method_13_code 7 = .ok (.istore_n 1, 1) := by decide +kernel
theorem d_R_clear_8 : decode prog_1_method_13_code 8 = .ok (.aload_n 0, 1) := by decide +kernel
theorem d_R_clear_9 : decode prog_1_method_13_code 9 = .ok (.getfield 57, 3) := by decide +kernel
theorem d_R_clear_12 : decode prog_1_method_13_code 12 = .ok (.iconst 0, 1) := by decide +kernel
theorem d_R_clear_13 : decode prog_1_method_13_code 13 = .ok (.putfield 151, 3) := by decide +kernel
theorem d_R_clear_16 : decode prog_1_method_13_code 16 = .ok (.iload_n 1, 1) := by decide +kernel
theorem d_R_clear_17 : decode prog_1_method_13_code 17 = .ok (.ireturn, 1) := by decide +kernel
theorem d_R_count_0 : decode prog_1_method_14_code 0 = .ok (.iload_n 1, 1) := by decide +kernel
theorem d_R_count_1 : decode prog_1_method_14_code 1 = .ok (.tableswitch 91 0 7 #[47, 52, 57, 62, 67, 75, 81, 86], 47) := by decide +kernel
theorem d_R_count_48 : decode prog_1_method_14_code 48 = .ok (.aload_n 0, 1) := by decide +kernel
theorem d_R_count_49 : decode prog_1_method_14_code 49 = .ok (.getfield 154, 3) := by decide +kernel
theorem d_R_count_52 : decode prog_1_method_14_code 52 = .ok (.ireturn, 1) := by decide +kernel
theorem d_R_count_53 : decode prog_1_method_14_code 53 = .ok (.aload_n 0, 1) := by decide +kernel
theorem d_R_count_54 : decode prog_1_method_14_code 54 = .ok (.getfield 118, 3) := by decide +kernel
theorem d_R_count_57 : decode prog_1_method_14_code 57 = .ok (.ireturn, 1) := by decide +kernel
theorem d_R_count_58 : decode prog_1_method_14_code 58 = .ok (.aload_n 0, 1) := by decide +kernel
theorem d_R_count_59 : decode prog_1_method_14_code 59 = .ok (.getfield 157, 3) := by decide +kernel
theorem d_R_count_62 : decode prog_1_method_14_code 62 = .ok (.ireturn, 1) := by decide +kernel
theorem d_R_count_63 : decode prog_1_method_14_code 63 = .ok (.aload_n 0, 1) := by decide +kernel
theorem d_R_count_64 : decode prog_1_method_14_code 64 = .ok (.getfield 160, 3) := by decide +kernel
theorem d_R_count_67 : decode prog_1_method_14_code 67 = .ok (.ireturn, 1) := by decide +kernel
theorem d_R_count_68 : decode prog_1_method_14_code 68 = .ok (.aload_n 0, 1) := by decide +kernel
theorem d_R_count_69 : decode prog_1_method_14_code 69 = .ok (.getfield 57, 3) := by decide +kernel
theorem d_R_count_72 : decode prog_1_method_14_code 72 = .ok (.getfield 151, 3) := by decide +kernel
theorem d_R_count_75 : decode prog_1_method_14_code 75 = .ok (.ireturn, 1) := by decide +kernel
theorem d_R_count_76 : decode prog_1_method_14_code 76 = .ok (.aload_n 0, 1) := by decide +kernel
theorem d_R_count_77 : decode prog_1_method_14_code 77 = .ok (.getfield 163, 3) := by decide +kernel
theorem d_R_count_80 : decode prog_1_method_14_code 80 = .ok (.l2i, 1) := by decide +kernel
theorem d_R_count_81 : decode prog_1_method_14_code 81 = .ok (.ireturn, 1) := by decide +kernel
theorem d_R_count_82 : decode prog_1_method_14_code 82 = .ok (.aload_n 0, 1) := by decide +kernel
theorem d_R_count_83 : decode prog_1_method_14_code 83 = .ok (.getfield 18, 3) := by decide +kernel
theorem d_R_count_86 : decode prog_1_method_14_code 86 = .ok (.ireturn, 1) := by decide +kernel
theorem d_R_count_87 : decode prog_1_method_14_code 87 = .ok (.aload_n 0, 1) := by decide +kernel
theorem d_R_count_88 : decode prog_1_method_14_code 88 = .ok (.invokevirtual 166, 3) := by decide +kernel
theorem d_R_count_91 : decode prog_1_method_14_code 91 = .ok (.ireturn, 1) := by decide +kernel
theorem d_R_count_92 : decode prog_1_method_14_code 92 = .ok (.iconst (-1), 1) := by decide +kernel
theorem d_R_count_93 : decode prog_1_method_14_code 93 = .ok (.ireturn, 1) := by decide +kernel
theorem d_R_watchesSet_0 : decode prog_1_method_18_code 0 = .ok (.iconst 0, 1) := by decide +kernel
theorem d_R_watchesSet_1 : decode prog_1_method_18_code 1 = .ok (.istore_n 1, 1) := by decide +kernel
theorem d_R_watchesSet_2 : decode prog_1_method_18_code 2 = .ok (.iconst 0, 1) := by decide +kernel
theorem d_R_watchesSet_3 : decode prog_1_method_18_code 3 = .ok (.istore_n 2, 1) := by decide +kernel
theorem d_R_watchesSet_4 : decode prog_1_method_18_code 4 = .ok (.iload_n 2, 1) := by decide +kernel
theorem d_R_watchesSet_5 : decode prog_1_method_18_code 5 = .ok (.iconst 4, 1) := by decide +kernel
theorem d_R_watchesSet_6 : decode prog_1_method_18_code 6 = .ok (.if_icmp .ge 24, 3) := by decide +kernel
theorem d_R_watchesSet_9 : decode prog_1_method_18_code 9 = .ok (.aload_n 0, 1) := by decide +kernel
theorem d_R_watchesSet_10 : decode prog_1_method_18_code 10 = .ok (.getfield 49, 3) := by decide +kernel
theorem d_R_watchesSet_13 : decode prog_1_method_18_code 13 = .ok (.iload_n 2, 1) := by decide +kernel
theorem d_R_watchesSet_14 : decode prog_1_method_18_code 14 = .ok (.aaload, 1) := by decide +kernel
theorem d_R_watchesSet_15 : decode prog_1_method_18_code 15 = .ok (.invokevirtual 172, 3) := by decide +kernel
theorem d_R_watchesSet_18 : decode prog_1_method_18_code 18 = .ok (.ifCond .eq 6, 3) := by decide +kernel
theorem d_R_watchesSet_21 : decode prog_1_method_18_code 21 = .ok (.iinc 1 1, 3) := by decide +kernel
theorem d_R_watchesSet_24 : decode prog_1_method_18_code 24 = .ok (.iinc 2 1, 3) := by decide +kernel
theorem d_R_watchesSet_27 : decode prog_1_method_18_code 27 = .ok (.goto (-23), 3) := by decide +kernel
theorem d_R_watchesSet_30 : decode prog_1_method_18_code 30 = .ok (.iload_n 1, 1) := by decide +kernel
theorem d_R_watchesSet_31 : decode prog_1_method_18_code 31 = .ok (.ireturn, 1) := by decide +kernel
end
section
set_option maxHeartbeats 4000000 in
set_option maxRecDepth 100000 in
theorem c_R_six (l : Launch) (D : va_G) (cI cL cW cZ : ClassId) (ia : Int32) (sz : Nat) : Met l y_R_isSixteenths w_R_isSixteenths ({ frames := 0, cells := 0, slots := 0, locals := 0 }) (va_Pc [.int ia] (gP D vwCl (tyv cI cL cW cZ) [] sz)) (va_Qi (fun (r : Int32) (u : Unit) => r = zSix ia) (fun u t => gB D vwCl (tyv cI cL cW cZ) (va_A [] sz) [] t) (va_A [] sz)) 0 0 (va_A [] sz) := by
  refine met_go (cc := prog_1_method_16_code) (maxL := 1) (ret := (some .boolean)) (QA := fun A => va_Qi (fun (r : Int32) (u : Unit) => r = zSix ia) (fun u t => gB D vwCl (tyv cI cL cW cZ) A [] t) A) (by decide) (Nat.le_of_ble_eq_true rfl) ?_
  intro p e s m below meth c A ls hx hb hr hml hT hN hown hlocks hin hl hP hK hD hA hS
  have hl : lv_has ls 1 [(0, .int ia)] := hl
  refine lv_iload_n hx hb d_R_isSixteenths_0 rfl (lv_at hl 0 rfl) ?_
  refine lv_if_lt (tgt := 14) hx hb d_R_isSixteenths_1 (by decide) (fun c1 => ?_) (fun c1 => ?_)
  · refine lv_iconst (v := 0) hx hb d_R_isSixteenths_14 (by decide) ?_
    exact re_z (v := 0) () hx hb hr rfl hlocks (by rw [zSix, if_pos c1]) (hP.sub [] rfl) hK (hD.sub [] (by decide) rfl) hS d_R_isSixteenths_15
  · refine lv_iload_n hx hb d_R_isSixteenths_4 rfl (lv_at hl 0 rfl) ?_
    refine lv_bipush (v := 64) hx hb d_R_isSixteenths_5 (by decide) ?_
    refine lv_icmp_gt (tgt := 14) hx hb d_R_isSixteenths_7 (by decide) (fun c7 => ?_) (fun c7 => ?_)
    · refine lv_iconst (v := 0) hx hb d_R_isSixteenths_14 (by decide) ?_
      exact re_z (v := 0) () hx hb hr rfl hlocks (by rw [zSix, if_neg c1, if_pos c7]) (hP.sub [] rfl) hK (hD.sub [] (by decide) rfl) hS d_R_isSixteenths_15
    · refine lv_iconst (v := 1) hx hb d_R_isSixteenths_10 (by decide) ?_
      refine lv_goto (tgt := 15) hx hb d_R_isSixteenths_11 (by decide) ?_
      exact re_z (v := 1) () hx hb hr rfl hlocks (by rw [zSix, if_neg c1, if_neg c7]) (hP.sub [] rfl) hK (hD.sub [] (by decide) rfl) hS d_R_isSixteenths_15
set_option maxHeartbeats 4000000 in
set_option maxRecDepth 100000 in
theorem c_R_uni (l : Launch) (D : va_G) (cI cL cW cZ : ClassId) (ia : Int32) (sz : Nat) : Met l y_R_isUnits w_R_isUnits ({ frames := 0, cells := 0, slots := 0, locals := 0 }) (va_Pc [.int ia] (gP D vwCl (tyv cI cL cW cZ) [] sz)) (va_Qi (fun (r : Int32) (u : Unit) => r = zUni ia) (fun u t => gB D vwCl (tyv cI cL cW cZ) (va_A [] sz) [] t) (va_A [] sz)) 0 0 (va_A [] sz) := by
  refine met_go (cc := prog_1_method_17_code) (maxL := 1) (ret := (some .boolean)) (QA := fun A => va_Qi (fun (r : Int32) (u : Unit) => r = zUni ia) (fun u t => gB D vwCl (tyv cI cL cW cZ) A [] t) A) (by decide) (Nat.le_of_ble_eq_true rfl) ?_
  intro p e s m below meth c A ls hx hb hr hml hT hN hown hlocks hin hl hP hK hD hA hS
  have hl : lv_has ls 1 [(0, .int ia)] := hl
  refine lv_iload_n hx hb d_R_isUnits_0 rfl (lv_at hl 0 rfl) ?_
  refine lv_ldc (v := (-1000000000)) hx hb hown (hT _ k_179) d_R_isUnits_1 ?_
  refine lv_icmp_lt (tgt := 16) hx hb d_R_isUnits_3 (by decide) (fun c3 => ?_) (fun c3 => ?_)
  · refine lv_iconst (v := 0) hx hb d_R_isUnits_16 (by decide) ?_
    exact re_z (v := 0) () hx hb hr rfl hlocks (by rw [zUni, if_pos c3]) (hP.sub [] rfl) hK (hD.sub [] (by decide) rfl) hS d_R_isUnits_17
  · refine lv_iload_n hx hb d_R_isUnits_6 rfl (lv_at hl 0 rfl) ?_
    refine lv_ldc (v := 1000000000) hx hb hown (hT _ k_180) d_R_isUnits_7 ?_
    refine lv_icmp_gt (tgt := 16) hx hb d_R_isUnits_9 (by decide) (fun c9 => ?_) (fun c9 => ?_)
    · refine lv_iconst (v := 0) hx hb d_R_isUnits_16 (by decide) ?_
      exact re_z (v := 0) () hx hb hr rfl hlocks (by rw [zUni, if_neg c3, if_pos c9]) (hP.sub [] rfl) hK (hD.sub [] (by decide) rfl) hS d_R_isUnits_17
    · refine lv_iconst (v := 1) hx hb d_R_isUnits_12 (by decide) ?_
      refine lv_goto (tgt := 17) hx hb d_R_isUnits_13 (by decide) ?_
      exact re_z (v := 1) () hx hb hr rfl hlocks (by rw [zUni, if_neg c3, if_neg c9]) (hP.sub [] rfl) hK (hD.sub [] (by decide) rfl) hS d_R_isUnits_17
set_option maxHeartbeats 4000000 in
set_option maxRecDepth 100000 in
theorem c_R_ticks (l : Launch) (D : va_G) (cI cL cW cZ : ClassId) (ia : Int32) (sz : Nat) : Met l y_R_ticksOf w_R_ticksOf ({ frames := 0, cells := 0, slots := 0, locals := 0 }) (va_Pc [.int ia] (gP D vwCl (tyv cI cL cW cZ) [] sz)) (va_Qi (fun (r : Int32) (u : Unit) => r = 256 >>> (ia &&& 31)) (fun u t => gB D vwCl (tyv cI cL cW cZ) (va_A [] sz) [] t) (va_A [] sz)) 0 0 (va_A [] sz) := by
  refine met_go (cc := prog_1_method_19_code) (maxL := 1) (ret := (some .int)) (QA := fun A => va_Qi (fun (r : Int32) (u : Unit) => r = 256 >>> (ia &&& 31)) (fun u t => gB D vwCl (tyv cI cL cW cZ) A [] t) A) (by decide) (Nat.le_of_ble_eq_true rfl) ?_
  intro p e s m below meth c A ls hx hb hr hml hT hN hown hlocks hin hl hP hK hD hA hS
  have hl : lv_has ls 1 [(0, .int ia)] := hl
  refine lv_sipush (v := 256) hx hb d_R_ticksOf_0 (by decide) ?_
  refine lv_iload_n hx hb d_R_ticksOf_3 rfl (lv_at hl 0 rfl) ?_
  refine lv_ishr hx hb d_R_ticksOf_4 ?_
  exact re_i (v := 256 >>> (ia &&& 31)) () hx hb hr hlocks rfl (hP.sub [] rfl) hK (hD.sub [] (by decide) rfl) hS d_R_ticksOf_5
set_option maxHeartbeats 4000000 in
set_option maxRecDepth 100000 in
theorem c_R_isbody (l : Launch) (D : va_G) (cI cL cW cZ : ClassId) (o : Nat) (n : Nat) (sp : Nat) (m0 : Nat) (m1 : Nat) (m2 : Nat) (m3 : Nat) (wt : Nat) (hi : Nat) (tol : Nat) (tm : Nat) (fs : Nat) (sd : Nat) (rj : Nat) (er : Int64) (ia : Int32) (sz : Nat) : Met l y_R_isBody w_R_isBody ({ frames := 0, cells := 0, slots := 0, locals := 0 }) (va_Pc [.ref o, .int ia] (gP D vwCl (tyv cI cL cW cZ) [(o, .inr (4, [.int (nI n), .ref sp, .ref m0, .ref m1, .ref m2, .ref m3, .ref wt, .ref hi, .int (nI tol), .int (nI tm), .int (nI fs), .int (nI sd), .int (nI rj), .long er]))] sz)) (va_Qi (fun (r : Int32) (u : Unit) => r = zBody ia (nI n)) (fun u t => gB D vwCl (tyv cI cL cW cZ) (va_A [(o, .inr (4, [.int (nI n), .ref sp, .ref m0, .ref m1, .ref m2, .ref m3, .ref wt, .ref hi, .int (nI tol), .int (nI tm), .int (nI fs), .int (nI sd), .int (nI rj), .long er]))] sz) [(o, .inr (4, [.int (nI n), .ref sp, .ref m0, .ref m1, .ref m2, .ref m3, .ref wt, .ref hi, .int (nI tol), .int (nI tm), .int (nI fs), .int (nI sd), .int (nI rj), .long er]))] t) (va_A [(o, .inr (4, [.int (nI n), .ref sp, .ref m0, .ref m1, .ref m2, .ref m3, .ref wt, .ref hi, .int (nI tol), .int (nI tm), .int (nI fs), .int (nI sd), .int (nI rj), .long er]))] sz)) 0 0 (va_A [(o, .inr (4, [.int (nI n), .ref sp, .ref m0, .ref m1, .ref m2, .ref m3, .ref wt, .ref hi, .int (nI tol), .int (nI tm), .int (nI fs), .int (nI sd), .int (nI rj), .long er]))] sz) := by
  refine met_go (cc := prog_1_method_15_code) (maxL := 2) (ret := (some .boolean)) (QA := fun A => va_Qi (fun (r : Int32) (u : Unit) => r = zBody ia (nI n)) (fun u t => gB D vwCl (tyv cI cL cW cZ) A [(o, .inr (4, [.int (nI n), .ref sp, .ref m0, .ref m1, .ref m2, .ref m3, .ref wt, .ref hi, .int (nI tol), .int (nI tm), .int (nI fs), .int (nI sd), .int (nI rj), .long er]))] t) A) (by decide) (Nat.le_of_ble_eq_true rfl) ?_
  intro p e s m below meth c A ls hx hb hr hml hT hN hown hlocks hin hl hP hK hD hA hS
  have hl : lv_has ls 2 [(0, .ref o), (1, .int ia)] := hl
  refine lv_iload_n hx hb d_R_isBody_0 rfl (lv_at hl 1 rfl) ?_
  refine lv_if_lt (tgt := 16) hx hb d_R_isBody_1 (by decide) (fun c1 => ?_) (fun c1 => ?_)
  · refine lv_iconst (v := 0) hx hb d_R_isBody_16 (by decide) ?_
    exact re_z (v := 0) () hx hb hr rfl hlocks (by rw [zBody, if_pos c1]) (hP.sub [0] rfl) hK (hD.sub [0] (by decide) rfl) hS d_R_isBody_17
  · refine lv_iload_n hx hb d_R_isBody_4 rfl (lv_at hl 1 rfl) ?_
    refine lv_aload_n hx hb d_R_isBody_5 rfl (lv_at hl 0 rfl) ?_
    refine va_get (D := D) (ci := 4) (v := .int (nI n)) (C := "OscillatorRow") (T := T_R) (N := 14) hx hb hT i_R hown hK hP 0 rfl rfl 0 (by decide) (hT _ k_114) (fun _ h9 => h9) rfl d_R_isBody_6 ?_
    refine lv_icmp_ge (tgt := 16) hx hb d_R_isBody_9 (by decide) (fun c9 => ?_) (fun c9 => ?_)
    · refine lv_iconst (v := 0) hx hb d_R_isBody_16 (by decide) ?_
      exact re_z (v := 0) () hx hb hr rfl hlocks (by rw [zBody, if_neg c1, if_pos c9]) (hP.sub [0] rfl) hK (hD.sub [0] (by decide) rfl) hS d_R_isBody_17
    · refine lv_iconst (v := 1) hx hb d_R_isBody_12 (by decide) ?_
      refine lv_goto (tgt := 17) hx hb d_R_isBody_13 (by decide) ?_
      exact re_z (v := 1) () hx hb hr rfl hlocks (by rw [zBody, if_neg c1, if_neg c9]) (hP.sub [0] rfl) hK (hD.sub [0] (by decide) rfl) hS d_R_isBody_17
set_option maxHeartbeats 4000000 in
set_option maxRecDepth 100000 in
theorem c_R_body (l : Launch) (D : va_G) (cI cL cW cZ : ClassId) (o : Nat) (n : Nat) (sp : Nat) (m0 : Nat) (m1 : Nat) (m2 : Nat) (m3 : Nat) (wt : Nat) (hi : Nat) (tol : Nat) (tm : Nat) (fs : Nat) (sd : Nat) (rj : Nat) (er : Int64) (ak : Nat) (ac : Nat) (aq : Nat) (af : Nat) (zk : Nat → Int32) (zc : Nat → Int32) (zq : Nat → Int32) (zf : Nat → Int32) (ia : Int32) (ib : Int32) (ic : Int32) (sz : Nat) (hn : n ≤ 4) : Met l y_R_body w_R_body ({ frames := 1, cells := 0, slots := 0, locals := 21 }) (va_Pc [.ref o, .int ia, .int ib, .int ic] (gP D vwCl (tyv cI cL cW cZ) [(o, .inr (4, [.int (nI n), .ref sp, .ref m0, .ref m1, .ref m2, .ref m3, .ref wt, .ref hi, .int (nI tol), .int (nI tm), .int (nI fs), .int (nI sd), .int (nI rj), .long er])), (sp, .inr (2, [.int (nI n), .ref ak, .ref ac, .ref aq, .ref af])), (ak, .inl (cI, n, .inl zk)), (ac, .inl (cI, n, .inl zc)), (aq, .inl (cI, n, .inl zq)), (af, .inl (cI, n, .inl zf))] sz)) (va_Qi (fun (r : Int32) (u : (Nat → Int32) × (Nat → Int32)) => (r, u.1, u.2) = zCbody n ia ib ic zk zc) (fun u t => gB D vwCl (tyv cI cL cW cZ) (va_A [(o, .inr (4, [.int (nI n), .ref sp, .ref m0, .ref m1, .ref m2, .ref m3, .ref wt, .ref hi, .int (nI tol), .int (nI tm), .int (nI fs), .int (nI sd), .int (nI rj), .long er])), (sp, .inr (2, [.int (nI n), .ref ak, .ref ac, .ref aq, .ref af])), (ak, .inl (cI, n, .inl zk)), (ac, .inl (cI, n, .inl zc)), (aq, .inl (cI, n, .inl zq)), (af, .inl (cI, n, .inl zf))] sz) [(o, .inr (4, [.int (nI n), .ref sp, .ref m0, .ref m1, .ref m2, .ref m3, .ref wt, .ref hi, .int (nI tol), .int (nI tm), .int (nI fs), .int (nI sd), .int (nI rj), .long er])), (sp, .inr (2, [.int (nI n), .ref ak, .ref ac, .ref aq, .ref af])), (ak, .inl (cI, n, .inl u.1)), (ac, .inl (cI, n, .inl u.2)), (aq, .inl (cI, n, .inl zq)), (af, .inl (cI, n, .inl zf))] t) (va_A [(o, .inr (4, [.int (nI n), .ref sp, .ref m0, .ref m1, .ref m2, .ref m3, .ref wt, .ref hi, .int (nI tol), .int (nI tm), .int (nI fs), .int (nI sd), .int (nI rj), .long er])), (sp, .inr (2, [.int (nI n), .ref ak, .ref ac, .ref aq, .ref af])), (ak, .inl (cI, n, .inl zk)), (ac, .inl (cI, n, .inl zc)), (aq, .inl (cI, n, .inl zq)), (af, .inl (cI, n, .inl zf))] sz)) 0 0 (va_A [(o, .inr (4, [.int (nI n), .ref sp, .ref m0, .ref m1, .ref m2, .ref m3, .ref wt, .ref hi, .int (nI tol), .int (nI tm), .int (nI fs), .int (nI sd), .int (nI rj), .long er])), (sp, .inr (2, [.int (nI n), .ref ak, .ref ac, .ref aq, .ref af])), (ak, .inl (cI, n, .inl zk)), (ac, .inl (cI, n, .inl zc)), (aq, .inl (cI, n, .inl zq)), (af, .inl (cI, n, .inl zf))] sz) := by
  refine met_go (cc := prog_1_method_2_code) (maxL := 4) (ret := (some .int)) (QA := fun A => va_Qi (fun (r : Int32) (u : (Nat → Int32) × (Nat → Int32)) => (r, u.1, u.2) = zCbody n ia ib ic zk zc) (fun u t => gB D vwCl (tyv cI cL cW cZ) A [(o, .inr (4, [.int (nI n), .ref sp, .ref m0, .ref m1, .ref m2, .ref m3, .ref wt, .ref hi, .int (nI tol), .int (nI tm), .int (nI fs), .int (nI sd), .int (nI rj), .long er])), (sp, .inr (2, [.int (nI n), .ref ak, .ref ac, .ref aq, .ref af])), (ak, .inl (cI, n, .inl u.1)), (ac, .inl (cI, n, .inl u.2)), (aq, .inl (cI, n, .inl zq)), (af, .inl (cI, n, .inl zf))] t) A) (by decide) (Nat.le_of_ble_eq_true rfl) ?_
  intro p e s m below meth c A ls hx hb hr hml hT hN hown hlocks hin hl hP hK hD hA hS
  have hl : lv_has ls 4 [(0, .ref o), (1, .int ia), (2, .int ib), (3, .int ic)] := hl
  refine lv_aload_n hx hb d_R_body_0 rfl (lv_at hl 0 rfl) ?_
  refine lv_iload_n hx hb d_R_body_1 rfl (lv_at hl 1 rfl) ?_
  have hPc := hP.sub (ws' := [(o, .inr (4, [.int (nI n), .ref sp, .ref m0, .ref m1, .ref m2, .ref m3, .ref wt, .ref hi, .int (nI tol), .int (nI tm), .int (nI fs), .int (nI sd), .int (nI rj), .long er]))]) [0] rfl
  have hDc := hD.sub (ws' := [(o, .inr (4, [.int (nI n), .ref sp, .ref m0, .ref m1, .ref m2, .ref m3, .ref wt, .ref hi, .int (nI tol), .int (nI tm), .int (nI fs), .int (nI sd), .int (nI rj), .long er]))]) [0] (by decide) rfl
  refine gc_i (w1 := fun (u : Unit) => [(o, .inr (4, [.int (nI n), .ref sp, .ref m0, .ref m1, .ref m2, .ref m3, .ref wt, .ref hi, .int (nI tol), .int (nI tm), .int (nI fs), .int (nI sd), .int (nI rj), .long er]))]) (wc := [(o, .inr (4, [.int (nI n), .ref sp, .ref m0, .ref m1, .ref m2, .ref m3, .ref wt, .ref hi, .int (nI tol), .int (nI tm), .int (nI fs), .int (nI sd), .int (nI rj), .long er]))]) (wr := [(sp, .inr (2, [.int (nI n), .ref ak, .ref ac, .ref aq, .ref af])), (ak, .inl (cI, n, .inl zk)), (ac, .inl (cI, n, .inl zc)), (aq, .inl (cI, n, .inl zq)), (af, .inl (cI, n, .inl zf))]) hP hD hS hA [0] [1, 2, 3, 4, 5] rfl rfl (by decide) (by decide) (va_runV (As := [.int ia]) (rest := []) ⟨hx, hb, hml, hown, hT⟩ (c_R_isbody l D cI cL cW cZ o n sp m0 m1 m2 m3 wt hi tol tm fs sd rj er ia s.heap.size) (cwV 1 hT (good_V k_161 k_163 p_0 k_1 k_164) rfl rfl rfl (by decide +kernel) ⟨Nat.le_of_ble_eq_true rfl, Nat.le_of_ble_eq_true rfl⟩) (pre_V hPc hDc hK hN (ci := 4) rfl rfl) rfl rfl hl.1 rfl (lv_room (Nat.le_of_ble_eq_true rfl)) d_R_body_2 ⟨(Nat.le_of_ble_eq_true rfl), (Nat.le_of_ble_eq_true rfl)⟩) (fun r u H locs hw hP hD hS => ?_)
  try dsimp only at hw
  have hP : va_P D vwCl [(sp, .inr (2, [.int (nI n), .ref ak, .ref ac, .ref aq, .ref af])), (ak, .inl (cI, n, .inl zk)), (ac, .inl (cI, n, .inl zc)), (aq, .inl (cI, n, .inl zq)), (af, .inl (cI, n, .inl zf)), (o, .inr (4, [.int (nI n), .ref sp, .ref m0, .ref m1, .ref m2, .ref m3, .ref wt, .ref hi, .int (nI tol), .int (nI tm), .int (nI fs), .int (nI sd), .int (nI rj), .long er]))] H := hP
  have hD : va_D A [(sp, .inr (2, [.int (nI n), .ref ak, .ref ac, .ref aq, .ref af])), (ak, .inl (cI, n, .inl zk)), (ac, .inl (cI, n, .inl zc)), (aq, .inl (cI, n, .inl zq)), (af, .inl (cI, n, .inl zf)), (o, .inr (4, [.int (nI n), .ref sp, .ref m0, .ref m1, .ref m2, .ref m3, .ref wt, .ref hi, .int (nI tol), .int (nI tm), .int (nI fs), .int (nI sd), .int (nI rj), .long er]))] := hD
  subst hw
  refine lv_if_eq (tgt := 22) hx hb d_R_body_5 (by decide) (fun c5 => ?_) (fun c5 => ?_)
  · refine lv_iconst (v := (-1)) hx hb d_R_body_22 (by decide) ?_
    exact re_i (v := (-1)) (zk, zc) hx hb hr hlocks (by rw [zCbody, if_pos c5] <;> rw [nI_clamp (by omega)]) (hP.sub [5, 0, 1, 2, 3, 4] rfl) hK (hD.sub [5, 0, 1, 2, 3, 4] (by decide) rfl) hS d_R_body_23
  · refine lv_iload_n hx hb d_R_body_8 rfl (lv_at hl 2 rfl) ?_
    have hPc := hP.sub (ws' := []) [] rfl
    have hDc := hD.sub (ws' := []) [] (by decide) rfl
    refine gc_i (w1 := fun (u : Unit) => []) (wc := []) (wr := [(sp, .inr (2, [.int (nI n), .ref ak, .ref ac, .ref aq, .ref af])), (ak, .inl (cI, n, .inl zk)), (ac, .inl (cI, n, .inl zc)), (aq, .inl (cI, n, .inl zq)), (af, .inl (cI, n, .inl zf)), (o, .inr (4, [.int (nI n), .ref sp, .ref m0, .ref m1, .ref m2, .ref m3, .ref wt, .ref hi, .int (nI tol), .int (nI tm), .int (nI fs), .int (nI sd), .int (nI rj), .long er]))]) hP hD hS hA [] [0, 1, 2, 3, 4, 5] rfl rfl (by decide) (by decide) (va_runS (As := [.int ib]) (rest := []) ⟨hx, hb, hml, hown, hT⟩ (c_R_six l D cI cL cW cZ ib H.size) (cwS 1 hT (good_S k_165 k_166 k_1 k_167) rfl rfl rfl (by decide +kernel) ⟨Nat.le_of_ble_eq_true rfl, Nat.le_of_ble_eq_true rfl⟩) (pre_S hPc hDc hK hN) rfl rfl hl.1 rfl (lv_room (Nat.le_of_ble_eq_true rfl)) d_R_body_9 ⟨(Nat.le_of_ble_eq_true rfl), (Nat.le_of_ble_eq_true rfl)⟩) (fun r u H locs hw hP hD hS => ?_)
    try dsimp only at hw
    have hP : va_P D vwCl [(sp, .inr (2, [.int (nI n), .ref ak, .ref ac, .ref aq, .ref af])), (ak, .inl (cI, n, .inl zk)), (ac, .inl (cI, n, .inl zc)), (aq, .inl (cI, n, .inl zq)), (af, .inl (cI, n, .inl zf)), (o, .inr (4, [.int (nI n), .ref sp, .ref m0, .ref m1, .ref m2, .ref m3, .ref wt, .ref hi, .int (nI tol), .int (nI tm), .int (nI fs), .int (nI sd), .int (nI rj), .long er]))] H := hP
    have hD : va_D A [(sp, .inr (2, [.int (nI n), .ref ak, .ref ac, .ref aq, .ref af])), (ak, .inl (cI, n, .inl zk)), (ac, .inl (cI, n, .inl zc)), (aq, .inl (cI, n, .inl zq)), (af, .inl (cI, n, .inl zf)), (o, .inr (4, [.int (nI n), .ref sp, .ref m0, .ref m1, .ref m2, .ref m3, .ref wt, .ref hi, .int (nI tol), .int (nI tm), .int (nI fs), .int (nI sd), .int (nI rj), .long er]))] := hD
    subst hw
    refine lv_if_eq (tgt := 22) hx hb d_R_body_12 (by decide) (fun c12 => ?_) (fun c12 => ?_)
    · refine lv_iconst (v := (-1)) hx hb d_R_body_22 (by decide) ?_
      exact re_i (v := (-1)) (zk, zc) hx hb hr hlocks (by rw [zCbody, if_neg c5, if_pos c12] <;> rw [nI_clamp (by omega)]) (hP.sub [5, 0, 1, 2, 3, 4] rfl) hK (hD.sub [5, 0, 1, 2, 3, 4] (by decide) rfl) hS d_R_body_23
    · refine lv_iload_n hx hb d_R_body_15 rfl (lv_at hl 3 rfl) ?_
      have hPc := hP.sub (ws' := []) [] rfl
      have hDc := hD.sub (ws' := []) [] (by decide) rfl
      refine gc_i (w1 := fun (u : Unit) => []) (wc := []) (wr := [(sp, .inr (2, [.int (nI n), .ref ak, .ref ac, .ref aq, .ref af])), (ak, .inl (cI, n, .inl zk)), (ac, .inl (cI, n, .inl zc)), (aq, .inl (cI, n, .inl zq)), (af, .inl (cI, n, .inl zf)), (o, .inr (4, [.int (nI n), .ref sp, .ref m0, .ref m1, .ref m2, .ref m3, .ref wt, .ref hi, .int (nI tol), .int (nI tm), .int (nI fs), .int (nI sd), .int (nI rj), .long er]))]) hP hD hS hA [] [0, 1, 2, 3, 4, 5] rfl rfl (by decide) (by decide) (va_runS (As := [.int ic]) (rest := []) ⟨hx, hb, hml, hown, hT⟩ (c_R_six l D cI cL cW cZ ic H.size) (cwS 1 hT (good_S k_165 k_166 k_1 k_167) rfl rfl rfl (by decide +kernel) ⟨Nat.le_of_ble_eq_true rfl, Nat.le_of_ble_eq_true rfl⟩) (pre_S hPc hDc hK hN) rfl rfl hl.1 rfl (lv_room (Nat.le_of_ble_eq_true rfl)) d_R_body_16 ⟨(Nat.le_of_ble_eq_true rfl), (Nat.le_of_ble_eq_true rfl)⟩) (fun r u H locs hw hP hD hS => ?_)
      try dsimp only at hw
      have hP : va_P D vwCl [(sp, .inr (2, [.int (nI n), .ref ak, .ref ac, .ref aq, .ref af])), (ak, .inl (cI, n, .inl zk)), (ac, .inl (cI, n, .inl zc)), (aq, .inl (cI, n, .inl zq)), (af, .inl (cI, n, .inl zf)), (o, .inr (4, [.int (nI n), .ref sp, .ref m0, .ref m1, .ref m2, .ref m3, .ref wt, .ref hi, .int (nI tol), .int (nI tm), .int (nI fs), .int (nI sd), .int (nI rj), .long er]))] H := hP
      have hD : va_D A [(sp, .inr (2, [.int (nI n), .ref ak, .ref ac, .ref aq, .ref af])), (ak, .inl (cI, n, .inl zk)), (ac, .inl (cI, n, .inl zc)), (aq, .inl (cI, n, .inl zq)), (af, .inl (cI, n, .inl zf)), (o, .inr (4, [.int (nI n), .ref sp, .ref m0, .ref m1, .ref m2, .ref m3, .ref wt, .ref hi, .int (nI tol), .int (nI tm), .int (nI fs), .int (nI sd), .int (nI rj), .long er]))] := hD
      subst hw
      refine lv_if_ne (tgt := 24) hx hb d_R_body_19 (by decide) (fun c19 => ?_) (fun c19 => ?_)
      · obtain ⟨j, hj, rfl⟩ := zBody_ix c5 hn
        refine lv_aload_n hx hb d_R_body_24 rfl (lv_at hl 0 rfl) ?_
        refine va_get (D := D) (ci := 4) (v := .ref sp) (C := "OscillatorRow") (T := T_R) (N := 14) hx hb hT i_R hown hK hP 5 rfl rfl 1 (by decide) (hT _ k_115) (fun _ h9 => h9) rfl d_R_body_25 ?_
        refine va_getN (D := D) (ci := 2) (v := .ref ak) (C := "OscillatorRow$Springs") (T := T_S) (N := 5) hx hb hT i_S hown hK hP 0 rfl rfl 1 (by decide) (va_Nw.use rfl (hN _ j_31)) (fun _ h9 => h9) rfl d_R_body_28 ?_
        refine lv_iload_n hx hb d_R_body_31 rfl (lv_at hl 1 rfl) ?_
        refine lv_iload_n hx hb d_R_body_32 rfl (lv_at hl 2 rfl) ?_
        refine ra_iast (j := j) hx hb hK hP hD hS 1 0 rfl rfl (by omega) (by omega) d_R_body_33 (fun H locs hP hD hS => ?_)
        have hP : va_P D vwCl [(sp, .inr (2, [.int (nI n), .ref ak, .ref ac, .ref aq, .ref af])), (ak, .inl (cI, n, .inl (upd zk j ib))), (ac, .inl (cI, n, .inl zc)), (aq, .inl (cI, n, .inl zq)), (af, .inl (cI, n, .inl zf)), (o, .inr (4, [.int (nI n), .ref sp, .ref m0, .ref m1, .ref m2, .ref m3, .ref wt, .ref hi, .int (nI tol), .int (nI tm), .int (nI fs), .int (nI sd), .int (nI rj), .long er]))] H := hP
        have hD : va_D A [(sp, .inr (2, [.int (nI n), .ref ak, .ref ac, .ref aq, .ref af])), (ak, .inl (cI, n, .inl (upd zk j ib))), (ac, .inl (cI, n, .inl zc)), (aq, .inl (cI, n, .inl zq)), (af, .inl (cI, n, .inl zf)), (o, .inr (4, [.int (nI n), .ref sp, .ref m0, .ref m1, .ref m2, .ref m3, .ref wt, .ref hi, .int (nI tol), .int (nI tm), .int (nI fs), .int (nI sd), .int (nI rj), .long er]))] := hD
        refine lv_aload_n hx hb d_R_body_34 rfl (lv_at hl 0 rfl) ?_
        refine va_get (D := D) (ci := 4) (v := .ref sp) (C := "OscillatorRow") (T := T_R) (N := 14) hx hb hT i_R hown hK hP 5 rfl rfl 1 (by decide) (hT _ k_115) (fun _ h9 => h9) rfl d_R_body_35 ?_
        refine va_getN (D := D) (ci := 2) (v := .ref ac) (C := "OscillatorRow$Springs") (T := T_S) (N := 5) hx hb hT i_S hown hK hP 0 rfl rfl 2 (by decide) (va_Nw.use rfl (hN _ j_33)) (fun _ h9 => h9) rfl d_R_body_38 ?_
        refine lv_iload_n hx hb d_R_body_41 rfl (lv_at hl 1 rfl) ?_
        refine lv_iload_n hx hb d_R_body_42 rfl (lv_at hl 3 rfl) ?_
        refine ra_iast (j := j) hx hb hK hP hD hS 2 0 rfl rfl (by omega) (by omega) d_R_body_43 (fun H locs hP hD hS => ?_)
        have hP : va_P D vwCl [(sp, .inr (2, [.int (nI n), .ref ak, .ref ac, .ref aq, .ref af])), (ak, .inl (cI, n, .inl (upd zk j ib))), (ac, .inl (cI, n, .inl (upd zc j ic))), (aq, .inl (cI, n, .inl zq)), (af, .inl (cI, n, .inl zf)), (o, .inr (4, [.int (nI n), .ref sp, .ref m0, .ref m1, .ref m2, .ref m3, .ref wt, .ref hi, .int (nI tol), .int (nI tm), .int (nI fs), .int (nI sd), .int (nI rj), .long er]))] H := hP
        have hD : va_D A [(sp, .inr (2, [.int (nI n), .ref ak, .ref ac, .ref aq, .ref af])), (ak, .inl (cI, n, .inl (upd zk j ib))), (ac, .inl (cI, n, .inl (upd zc j ic))), (aq, .inl (cI, n, .inl zq)), (af, .inl (cI, n, .inl zf)), (o, .inr (4, [.int (nI n), .ref sp, .ref m0, .ref m1, .ref m2, .ref m3, .ref wt, .ref hi, .int (nI tol), .int (nI tm), .int (nI fs), .int (nI sd), .int (nI rj), .long er]))] := hD
        refine lv_iconst (v := 0) hx hb d_R_body_44 (by decide) ?_
        exact re_i (v := 0) ((upd zk j ib), (upd zc j ic)) hx hb hr hlocks (by rw [zCbody, if_neg c5, if_neg c12, if_pos c19] <;> rw [nI_clamp (by omega)]) (hP.sub [5, 0, 1, 2, 3, 4] rfl) hK (hD.sub [5, 0, 1, 2, 3, 4] (by decide) rfl) hS d_R_body_45
      · refine lv_iconst (v := (-1)) hx hb d_R_body_22 (by decide) ?_
        exact re_i (v := (-1)) (zk, zc) hx hb hr hlocks (by rw [zCbody, if_neg c5, if_neg c12, if_neg (fun q => q c19)] <;> rw [nI_clamp (by omega)]) (hP.sub [5, 0, 1, 2, 3, 4] rfl) hK (hD.sub [5, 0, 1, 2, 3, 4] (by decide) rfl) hS d_R_body_23
set_option maxHeartbeats 4000000 in
set_option maxRecDepth 100000 in
theorem c_R_link (l : Launch) (D : va_G) (cI cL cW cZ : ClassId) (o : Nat) (n : Nat) (sp : Nat) (m0 : Nat) (m1 : Nat) (m2 : Nat) (m3 : Nat) (wt : Nat) (hi : Nat) (tol : Nat) (tm : Nat) (fs : Nat) (sd : Nat) (rj : Nat) (er : Int64) (ak : Nat) (ac : Nat) (aq : Nat) (af : Nat) (zk : Nat → Int32) (zc : Nat → Int32) (zq : Nat → Int32) (zf : Nat → Int32) (ia : Int32) (ib : Int32) (sz : Nat) (hn : n ≤ 4) : Met l y_R_link w_R_link ({ frames := 1, cells := 0, slots := 0, locals := 21 }) (va_Pc [.ref o, .int ia, .int ib] (gP D vwCl (tyv cI cL cW cZ) [(o, .inr (4, [.int (nI n), .ref sp, .ref m0, .ref m1, .ref m2, .ref m3, .ref wt, .ref hi, .int (nI tol), .int (nI tm), .int (nI fs), .int (nI sd), .int (nI rj), .long er])), (sp, .inr (2, [.int (nI n), .ref ak, .ref ac, .ref aq, .ref af])), (ak, .inl (cI, n, .inl zk)), (ac, .inl (cI, n, .inl zc)), (aq, .inl (cI, n, .inl zq)), (af, .inl (cI, n, .inl zf))] sz)) (va_Qi (fun (r : Int32) (u : (Nat → Int32)) => (r, u) = zClink n ia ib zq) (fun u t => gB D vwCl (tyv cI cL cW cZ) (va_A [(o, .inr (4, [.int (nI n), .ref sp, .ref m0, .ref m1, .ref m2, .ref m3, .ref wt, .ref hi, .int (nI tol), .int (nI tm), .int (nI fs), .int (nI sd), .int (nI rj), .long er])), (sp, .inr (2, [.int (nI n), .ref ak, .ref ac, .ref aq, .ref af])), (ak, .inl (cI, n, .inl zk)), (ac, .inl (cI, n, .inl zc)), (aq, .inl (cI, n, .inl zq)), (af, .inl (cI, n, .inl zf))] sz) [(o, .inr (4, [.int (nI n), .ref sp, .ref m0, .ref m1, .ref m2, .ref m3, .ref wt, .ref hi, .int (nI tol), .int (nI tm), .int (nI fs), .int (nI sd), .int (nI rj), .long er])), (sp, .inr (2, [.int (nI n), .ref ak, .ref ac, .ref aq, .ref af])), (ak, .inl (cI, n, .inl zk)), (ac, .inl (cI, n, .inl zc)), (aq, .inl (cI, n, .inl u)), (af, .inl (cI, n, .inl zf))] t) (va_A [(o, .inr (4, [.int (nI n), .ref sp, .ref m0, .ref m1, .ref m2, .ref m3, .ref wt, .ref hi, .int (nI tol), .int (nI tm), .int (nI fs), .int (nI sd), .int (nI rj), .long er])), (sp, .inr (2, [.int (nI n), .ref ak, .ref ac, .ref aq, .ref af])), (ak, .inl (cI, n, .inl zk)), (ac, .inl (cI, n, .inl zc)), (aq, .inl (cI, n, .inl zq)), (af, .inl (cI, n, .inl zf))] sz)) 0 0 (va_A [(o, .inr (4, [.int (nI n), .ref sp, .ref m0, .ref m1, .ref m2, .ref m3, .ref wt, .ref hi, .int (nI tol), .int (nI tm), .int (nI fs), .int (nI sd), .int (nI rj), .long er])), (sp, .inr (2, [.int (nI n), .ref ak, .ref ac, .ref aq, .ref af])), (ak, .inl (cI, n, .inl zk)), (ac, .inl (cI, n, .inl zc)), (aq, .inl (cI, n, .inl zq)), (af, .inl (cI, n, .inl zf))] sz) := by
  refine met_go (cc := prog_1_method_3_code) (maxL := 3) (ret := (some .int)) (QA := fun A => va_Qi (fun (r : Int32) (u : (Nat → Int32)) => (r, u) = zClink n ia ib zq) (fun u t => gB D vwCl (tyv cI cL cW cZ) A [(o, .inr (4, [.int (nI n), .ref sp, .ref m0, .ref m1, .ref m2, .ref m3, .ref wt, .ref hi, .int (nI tol), .int (nI tm), .int (nI fs), .int (nI sd), .int (nI rj), .long er])), (sp, .inr (2, [.int (nI n), .ref ak, .ref ac, .ref aq, .ref af])), (ak, .inl (cI, n, .inl zk)), (ac, .inl (cI, n, .inl zc)), (aq, .inl (cI, n, .inl u)), (af, .inl (cI, n, .inl zf))] t) A) (by decide) (Nat.le_of_ble_eq_true rfl) ?_
  intro p e s m below meth c A ls hx hb hr hml hT hN hown hlocks hin hl hP hK hD hA hS
  have hl : lv_has ls 3 [(0, .ref o), (1, .int ia), (2, .int ib)] := hl
  refine lv_aload_n hx hb d_R_link_0 rfl (lv_at hl 0 rfl) ?_
  refine lv_iload_n hx hb d_R_link_1 rfl (lv_at hl 1 rfl) ?_
  have hPc := hP.sub (ws' := [(o, .inr (4, [.int (nI n), .ref sp, .ref m0, .ref m1, .ref m2, .ref m3, .ref wt, .ref hi, .int (nI tol), .int (nI tm), .int (nI fs), .int (nI sd), .int (nI rj), .long er]))]) [0] rfl
  have hDc := hD.sub (ws' := [(o, .inr (4, [.int (nI n), .ref sp, .ref m0, .ref m1, .ref m2, .ref m3, .ref wt, .ref hi, .int (nI tol), .int (nI tm), .int (nI fs), .int (nI sd), .int (nI rj), .long er]))]) [0] (by decide) rfl
  refine gc_i (w1 := fun (u : Unit) => [(o, .inr (4, [.int (nI n), .ref sp, .ref m0, .ref m1, .ref m2, .ref m3, .ref wt, .ref hi, .int (nI tol), .int (nI tm), .int (nI fs), .int (nI sd), .int (nI rj), .long er]))]) (wc := [(o, .inr (4, [.int (nI n), .ref sp, .ref m0, .ref m1, .ref m2, .ref m3, .ref wt, .ref hi, .int (nI tol), .int (nI tm), .int (nI fs), .int (nI sd), .int (nI rj), .long er]))]) (wr := [(sp, .inr (2, [.int (nI n), .ref ak, .ref ac, .ref aq, .ref af])), (ak, .inl (cI, n, .inl zk)), (ac, .inl (cI, n, .inl zc)), (aq, .inl (cI, n, .inl zq)), (af, .inl (cI, n, .inl zf))]) hP hD hS hA [0] [1, 2, 3, 4, 5] rfl rfl (by decide) (by decide) (va_runV (As := [.int ia]) (rest := []) ⟨hx, hb, hml, hown, hT⟩ (c_R_isbody l D cI cL cW cZ o n sp m0 m1 m2 m3 wt hi tol tm fs sd rj er ia s.heap.size) (cwV 1 hT (good_V k_161 k_163 p_0 k_1 k_164) rfl rfl rfl (by decide +kernel) ⟨Nat.le_of_ble_eq_true rfl, Nat.le_of_ble_eq_true rfl⟩) (pre_V hPc hDc hK hN (ci := 4) rfl rfl) rfl rfl hl.1 rfl (lv_room (Nat.le_of_ble_eq_true rfl)) d_R_link_2 ⟨(Nat.le_of_ble_eq_true rfl), (Nat.le_of_ble_eq_true rfl)⟩) (fun r u H locs hw hP hD hS => ?_)
  try dsimp only at hw
  have hP : va_P D vwCl [(sp, .inr (2, [.int (nI n), .ref ak, .ref ac, .ref aq, .ref af])), (ak, .inl (cI, n, .inl zk)), (ac, .inl (cI, n, .inl zc)), (aq, .inl (cI, n, .inl zq)), (af, .inl (cI, n, .inl zf)), (o, .inr (4, [.int (nI n), .ref sp, .ref m0, .ref m1, .ref m2, .ref m3, .ref wt, .ref hi, .int (nI tol), .int (nI tm), .int (nI fs), .int (nI sd), .int (nI rj), .long er]))] H := hP
  have hD : va_D A [(sp, .inr (2, [.int (nI n), .ref ak, .ref ac, .ref aq, .ref af])), (ak, .inl (cI, n, .inl zk)), (ac, .inl (cI, n, .inl zc)), (aq, .inl (cI, n, .inl zq)), (af, .inl (cI, n, .inl zf)), (o, .inr (4, [.int (nI n), .ref sp, .ref m0, .ref m1, .ref m2, .ref m3, .ref wt, .ref hi, .int (nI tol), .int (nI tm), .int (nI fs), .int (nI sd), .int (nI rj), .long er]))] := hD
  subst hw
  refine lv_if_eq (tgt := 25) hx hb d_R_link_5 (by decide) (fun c5 => ?_) (fun c5 => ?_)
  · refine lv_iconst (v := (-1)) hx hb d_R_link_25 (by decide) ?_
    exact re_i (v := (-1)) (zq) hx hb hr hlocks (by rw [zClink, if_pos c5] <;> rw [nI_clamp (by omega)]) (hP.sub [5, 0, 1, 2, 3, 4] rfl) hK (hD.sub [5, 0, 1, 2, 3, 4] (by decide) rfl) hS d_R_link_26
  · refine lv_iload_n hx hb d_R_link_8 rfl (lv_at hl 1 rfl) ?_
    refine lv_aload_n hx hb d_R_link_9 rfl (lv_at hl 0 rfl) ?_
    refine va_get (D := D) (ci := 4) (v := .int (nI n)) (C := "OscillatorRow") (T := T_R) (N := 14) hx hb hT i_R hown hK hP 5 rfl rfl 0 (by decide) (hT _ k_114) (fun _ h9 => h9) rfl d_R_link_10 ?_
    refine lv_iconst (v := 1) hx hb d_R_link_13 (by decide) ?_
    refine lv_isub hx hb d_R_link_14 ?_
    refine lv_icmp_eq (tgt := 25) hx hb d_R_link_15 (by decide) (fun c15 => ?_) (fun c15 => ?_)
    · refine lv_iconst (v := (-1)) hx hb d_R_link_25 (by decide) ?_
      exact re_i (v := (-1)) (zq) hx hb hr hlocks (by rw [zClink, if_neg c5, if_pos c15] <;> rw [nI_clamp (by omega)]) (hP.sub [5, 0, 1, 2, 3, 4] rfl) hK (hD.sub [5, 0, 1, 2, 3, 4] (by decide) rfl) hS d_R_link_26
    · refine lv_iload_n hx hb d_R_link_18 rfl (lv_at hl 2 rfl) ?_
      have hPc := hP.sub (ws' := []) [] rfl
      have hDc := hD.sub (ws' := []) [] (by decide) rfl
      refine gc_i (w1 := fun (u : Unit) => []) (wc := []) (wr := [(sp, .inr (2, [.int (nI n), .ref ak, .ref ac, .ref aq, .ref af])), (ak, .inl (cI, n, .inl zk)), (ac, .inl (cI, n, .inl zc)), (aq, .inl (cI, n, .inl zq)), (af, .inl (cI, n, .inl zf)), (o, .inr (4, [.int (nI n), .ref sp, .ref m0, .ref m1, .ref m2, .ref m3, .ref wt, .ref hi, .int (nI tol), .int (nI tm), .int (nI fs), .int (nI sd), .int (nI rj), .long er]))]) hP hD hS hA [] [0, 1, 2, 3, 4, 5] rfl rfl (by decide) (by decide) (va_runS (As := [.int ib]) (rest := []) ⟨hx, hb, hml, hown, hT⟩ (c_R_six l D cI cL cW cZ ib H.size) (cwS 1 hT (good_S k_165 k_166 k_1 k_167) rfl rfl rfl (by decide +kernel) ⟨Nat.le_of_ble_eq_true rfl, Nat.le_of_ble_eq_true rfl⟩) (pre_S hPc hDc hK hN) rfl rfl hl.1 rfl (lv_room (Nat.le_of_ble_eq_true rfl)) d_R_link_19 ⟨(Nat.le_of_ble_eq_true rfl), (Nat.le_of_ble_eq_true rfl)⟩) (fun r u H locs hw hP hD hS => ?_)
      try dsimp only at hw
      have hP : va_P D vwCl [(sp, .inr (2, [.int (nI n), .ref ak, .ref ac, .ref aq, .ref af])), (ak, .inl (cI, n, .inl zk)), (ac, .inl (cI, n, .inl zc)), (aq, .inl (cI, n, .inl zq)), (af, .inl (cI, n, .inl zf)), (o, .inr (4, [.int (nI n), .ref sp, .ref m0, .ref m1, .ref m2, .ref m3, .ref wt, .ref hi, .int (nI tol), .int (nI tm), .int (nI fs), .int (nI sd), .int (nI rj), .long er]))] H := hP
      have hD : va_D A [(sp, .inr (2, [.int (nI n), .ref ak, .ref ac, .ref aq, .ref af])), (ak, .inl (cI, n, .inl zk)), (ac, .inl (cI, n, .inl zc)), (aq, .inl (cI, n, .inl zq)), (af, .inl (cI, n, .inl zf)), (o, .inr (4, [.int (nI n), .ref sp, .ref m0, .ref m1, .ref m2, .ref m3, .ref wt, .ref hi, .int (nI tol), .int (nI tm), .int (nI fs), .int (nI sd), .int (nI rj), .long er]))] := hD
      subst hw
      refine lv_if_ne (tgt := 27) hx hb d_R_link_22 (by decide) (fun c22 => ?_) (fun c22 => ?_)
      · obtain ⟨j, hj, rfl⟩ := zBody_ix c5 hn
        refine lv_aload_n hx hb d_R_link_27 rfl (lv_at hl 0 rfl) ?_
        refine va_get (D := D) (ci := 4) (v := .ref sp) (C := "OscillatorRow") (T := T_R) (N := 14) hx hb hT i_R hown hK hP 5 rfl rfl 1 (by decide) (hT _ k_115) (fun _ h9 => h9) rfl d_R_link_28 ?_
        refine va_getN (D := D) (ci := 2) (v := .ref aq) (C := "OscillatorRow$Springs") (T := T_S) (N := 5) hx hb hT i_S hown hK hP 0 rfl rfl 3 (by decide) (va_Nw.use rfl (hN _ j_35)) (fun _ h9 => h9) rfl d_R_link_31 ?_
        refine lv_iload_n hx hb d_R_link_34 rfl (lv_at hl 1 rfl) ?_
        refine lv_iload_n hx hb d_R_link_35 rfl (lv_at hl 2 rfl) ?_
        refine ra_iast (j := j) hx hb hK hP hD hS 3 0 rfl rfl (by omega) (by omega) d_R_link_36 (fun H locs hP hD hS => ?_)
        have hP : va_P D vwCl [(sp, .inr (2, [.int (nI n), .ref ak, .ref ac, .ref aq, .ref af])), (ak, .inl (cI, n, .inl zk)), (ac, .inl (cI, n, .inl zc)), (aq, .inl (cI, n, .inl (upd zq j ib))), (af, .inl (cI, n, .inl zf)), (o, .inr (4, [.int (nI n), .ref sp, .ref m0, .ref m1, .ref m2, .ref m3, .ref wt, .ref hi, .int (nI tol), .int (nI tm), .int (nI fs), .int (nI sd), .int (nI rj), .long er]))] H := hP
        have hD : va_D A [(sp, .inr (2, [.int (nI n), .ref ak, .ref ac, .ref aq, .ref af])), (ak, .inl (cI, n, .inl zk)), (ac, .inl (cI, n, .inl zc)), (aq, .inl (cI, n, .inl (upd zq j ib))), (af, .inl (cI, n, .inl zf)), (o, .inr (4, [.int (nI n), .ref sp, .ref m0, .ref m1, .ref m2, .ref m3, .ref wt, .ref hi, .int (nI tol), .int (nI tm), .int (nI fs), .int (nI sd), .int (nI rj), .long er]))] := hD
        refine lv_iconst (v := 0) hx hb d_R_link_37 (by decide) ?_
        exact re_i (v := 0) ((upd zq j ib)) hx hb hr hlocks (by rw [zClink, if_neg c5, if_neg c15, if_pos c22] <;> rw [nI_clamp (by omega)]) (hP.sub [5, 0, 1, 2, 3, 4] rfl) hK (hD.sub [5, 0, 1, 2, 3, 4] (by decide) rfl) hS d_R_link_38
      · refine lv_iconst (v := (-1)) hx hb d_R_link_25 (by decide) ?_
        exact re_i (v := (-1)) (zq) hx hb hr hlocks (by rw [zClink, if_neg c5, if_neg c15, if_neg (fun q => q c22)] <;> rw [nI_clamp (by omega)]) (hP.sub [5, 0, 1, 2, 3, 4] rfl) hK (hD.sub [5, 0, 1, 2, 3, 4] (by decide) rfl) hS d_R_link_26
set_option maxHeartbeats 4000000 in
set_option maxRecDepth 100000 in
theorem c_R_set (l : Launch) (D : va_G) (cI cL cW cZ : ClassId) (o : Nat) (n : Nat) (sp : Nat) (m0 : Nat) (m1 : Nat) (m2 : Nat) (m3 : Nat) (wt : Nat) (hi : Nat) (tol : Nat) (tm : Nat) (fs : Nat) (sd : Nat) (rj : Nat) (er : Int64) (x0 : Nat) (v0 : Nat) (px : Nat → Int64) (pv : Nat → Int64) (ia : Int32) (ib : Int32) (ic : Int32) (sz : Nat) (hn : n ≤ 4) : Met l y_R_set w_R_set ({ frames := 1, cells := 0, slots := 0, locals := 21 }) (va_Pc [.ref o, .int ia, .int ib, .int ic] (gP D vwCl (tyv cI cL cW cZ) [(o, .inr (4, [.int (nI n), .ref sp, .ref m0, .ref m1, .ref m2, .ref m3, .ref wt, .ref hi, .int (nI tol), .int (nI tm), .int (nI fs), .int (nI sd), .int (nI rj), .long er])), (m0, .inr (1, [.ref x0, .ref v0])), (x0, .inl (cL, n, .inr (.inl px))), (v0, .inl (cL, n, .inr (.inl pv)))] sz)) (va_Qi (fun (r : Int32) (u : (Nat → Int64) × (Nat → Int64)) => (r, u.1, u.2) = zCset n ia ib ic px pv) (fun u t => gB D vwCl (tyv cI cL cW cZ) (va_A [(o, .inr (4, [.int (nI n), .ref sp, .ref m0, .ref m1, .ref m2, .ref m3, .ref wt, .ref hi, .int (nI tol), .int (nI tm), .int (nI fs), .int (nI sd), .int (nI rj), .long er])), (m0, .inr (1, [.ref x0, .ref v0])), (x0, .inl (cL, n, .inr (.inl px))), (v0, .inl (cL, n, .inr (.inl pv)))] sz) [(o, .inr (4, [.int (nI n), .ref sp, .ref m0, .ref m1, .ref m2, .ref m3, .ref wt, .ref hi, .int (nI tol), .int (nI tm), .int (nI fs), .int (nI sd), .int (nI rj), .long er])), (m0, .inr (1, [.ref x0, .ref v0])), (x0, .inl (cL, n, .inr (.inl u.1))), (v0, .inl (cL, n, .inr (.inl u.2)))] t) (va_A [(o, .inr (4, [.int (nI n), .ref sp, .ref m0, .ref m1, .ref m2, .ref m3, .ref wt, .ref hi, .int (nI tol), .int (nI tm), .int (nI fs), .int (nI sd), .int (nI rj), .long er])), (m0, .inr (1, [.ref x0, .ref v0])), (x0, .inl (cL, n, .inr (.inl px))), (v0, .inl (cL, n, .inr (.inl pv)))] sz)) 0 0 (va_A [(o, .inr (4, [.int (nI n), .ref sp, .ref m0, .ref m1, .ref m2, .ref m3, .ref wt, .ref hi, .int (nI tol), .int (nI tm), .int (nI fs), .int (nI sd), .int (nI rj), .long er])), (m0, .inr (1, [.ref x0, .ref v0])), (x0, .inl (cL, n, .inr (.inl px))), (v0, .inl (cL, n, .inr (.inl pv)))] sz) := by
  refine met_go (cc := prog_1_method_4_code) (maxL := 4) (ret := (some .int)) (QA := fun A => va_Qi (fun (r : Int32) (u : (Nat → Int64) × (Nat → Int64)) => (r, u.1, u.2) = zCset n ia ib ic px pv) (fun u t => gB D vwCl (tyv cI cL cW cZ) A [(o, .inr (4, [.int (nI n), .ref sp, .ref m0, .ref m1, .ref m2, .ref m3, .ref wt, .ref hi, .int (nI tol), .int (nI tm), .int (nI fs), .int (nI sd), .int (nI rj), .long er])), (m0, .inr (1, [.ref x0, .ref v0])), (x0, .inl (cL, n, .inr (.inl u.1))), (v0, .inl (cL, n, .inr (.inl u.2)))] t) A) (by decide) (Nat.le_of_ble_eq_true rfl) ?_
  intro p e s m below meth c A ls hx hb hr hml hT hN hown hlocks hin hl hP hK hD hA hS
  have hl : lv_has ls 4 [(0, .ref o), (1, .int ia), (2, .int ib), (3, .int ic)] := hl
  refine lv_aload_n hx hb d_R_set_0 rfl (lv_at hl 0 rfl) ?_
  refine lv_iload_n hx hb d_R_set_1 rfl (lv_at hl 1 rfl) ?_
  have hPc := hP.sub (ws' := [(o, .inr (4, [.int (nI n), .ref sp, .ref m0, .ref m1, .ref m2, .ref m3, .ref wt, .ref hi, .int (nI tol), .int (nI tm), .int (nI fs), .int (nI sd), .int (nI rj), .long er]))]) [0] rfl
  have hDc := hD.sub (ws' := [(o, .inr (4, [.int (nI n), .ref sp, .ref m0, .ref m1, .ref m2, .ref m3, .ref wt, .ref hi, .int (nI tol), .int (nI tm), .int (nI fs), .int (nI sd), .int (nI rj), .long er]))]) [0] (by decide) rfl
  refine gc_i (w1 := fun (u : Unit) => [(o, .inr (4, [.int (nI n), .ref sp, .ref m0, .ref m1, .ref m2, .ref m3, .ref wt, .ref hi, .int (nI tol), .int (nI tm), .int (nI fs), .int (nI sd), .int (nI rj), .long er]))]) (wc := [(o, .inr (4, [.int (nI n), .ref sp, .ref m0, .ref m1, .ref m2, .ref m3, .ref wt, .ref hi, .int (nI tol), .int (nI tm), .int (nI fs), .int (nI sd), .int (nI rj), .long er]))]) (wr := [(m0, .inr (1, [.ref x0, .ref v0])), (x0, .inl (cL, n, .inr (.inl px))), (v0, .inl (cL, n, .inr (.inl pv)))]) hP hD hS hA [0] [1, 2, 3] rfl rfl (by decide) (by decide) (va_runV (As := [.int ia]) (rest := []) ⟨hx, hb, hml, hown, hT⟩ (c_R_isbody l D cI cL cW cZ o n sp m0 m1 m2 m3 wt hi tol tm fs sd rj er ia s.heap.size) (cwV 1 hT (good_V k_161 k_163 p_0 k_1 k_164) rfl rfl rfl (by decide +kernel) ⟨Nat.le_of_ble_eq_true rfl, Nat.le_of_ble_eq_true rfl⟩) (pre_V hPc hDc hK hN (ci := 4) rfl rfl) rfl rfl hl.1 rfl (lv_room (Nat.le_of_ble_eq_true rfl)) d_R_set_2 ⟨(Nat.le_of_ble_eq_true rfl), (Nat.le_of_ble_eq_true rfl)⟩) (fun r u H locs hw hP hD hS => ?_)
  try dsimp only at hw
  have hP : va_P D vwCl [(m0, .inr (1, [.ref x0, .ref v0])), (x0, .inl (cL, n, .inr (.inl px))), (v0, .inl (cL, n, .inr (.inl pv))), (o, .inr (4, [.int (nI n), .ref sp, .ref m0, .ref m1, .ref m2, .ref m3, .ref wt, .ref hi, .int (nI tol), .int (nI tm), .int (nI fs), .int (nI sd), .int (nI rj), .long er]))] H := hP
  have hD : va_D A [(m0, .inr (1, [.ref x0, .ref v0])), (x0, .inl (cL, n, .inr (.inl px))), (v0, .inl (cL, n, .inr (.inl pv))), (o, .inr (4, [.int (nI n), .ref sp, .ref m0, .ref m1, .ref m2, .ref m3, .ref wt, .ref hi, .int (nI tol), .int (nI tm), .int (nI fs), .int (nI sd), .int (nI rj), .long er]))] := hD
  subst hw
  refine lv_if_eq (tgt := 22) hx hb d_R_set_5 (by decide) (fun c5 => ?_) (fun c5 => ?_)
  · refine lv_iconst (v := (-1)) hx hb d_R_set_22 (by decide) ?_
    exact re_i (v := (-1)) (px, pv) hx hb hr hlocks (by rw [zCset, if_pos c5] <;> rw [nI_clamp (by omega)]) (hP.sub [3, 0, 1, 2] rfl) hK (hD.sub [3, 0, 1, 2] (by decide) rfl) hS d_R_set_23
  · refine lv_iload_n hx hb d_R_set_8 rfl (lv_at hl 2 rfl) ?_
    have hPc := hP.sub (ws' := []) [] rfl
    have hDc := hD.sub (ws' := []) [] (by decide) rfl
    refine gc_i (w1 := fun (u : Unit) => []) (wc := []) (wr := [(m0, .inr (1, [.ref x0, .ref v0])), (x0, .inl (cL, n, .inr (.inl px))), (v0, .inl (cL, n, .inr (.inl pv))), (o, .inr (4, [.int (nI n), .ref sp, .ref m0, .ref m1, .ref m2, .ref m3, .ref wt, .ref hi, .int (nI tol), .int (nI tm), .int (nI fs), .int (nI sd), .int (nI rj), .long er]))]) hP hD hS hA [] [0, 1, 2, 3] rfl rfl (by decide) (by decide) (va_runS (As := [.int ib]) (rest := []) ⟨hx, hb, hml, hown, hT⟩ (c_R_uni l D cI cL cW cZ ib H.size) (cwS 1 hT (good_S k_176 k_177 k_1 k_178) rfl rfl rfl (by decide +kernel) ⟨Nat.le_of_ble_eq_true rfl, Nat.le_of_ble_eq_true rfl⟩) (pre_S hPc hDc hK hN) rfl rfl hl.1 rfl (lv_room (Nat.le_of_ble_eq_true rfl)) d_R_set_9 ⟨(Nat.le_of_ble_eq_true rfl), (Nat.le_of_ble_eq_true rfl)⟩) (fun r u H locs hw hP hD hS => ?_)
    try dsimp only at hw
    have hP : va_P D vwCl [(m0, .inr (1, [.ref x0, .ref v0])), (x0, .inl (cL, n, .inr (.inl px))), (v0, .inl (cL, n, .inr (.inl pv))), (o, .inr (4, [.int (nI n), .ref sp, .ref m0, .ref m1, .ref m2, .ref m3, .ref wt, .ref hi, .int (nI tol), .int (nI tm), .int (nI fs), .int (nI sd), .int (nI rj), .long er]))] H := hP
    have hD : va_D A [(m0, .inr (1, [.ref x0, .ref v0])), (x0, .inl (cL, n, .inr (.inl px))), (v0, .inl (cL, n, .inr (.inl pv))), (o, .inr (4, [.int (nI n), .ref sp, .ref m0, .ref m1, .ref m2, .ref m3, .ref wt, .ref hi, .int (nI tol), .int (nI tm), .int (nI fs), .int (nI sd), .int (nI rj), .long er]))] := hD
    subst hw
    refine lv_if_eq (tgt := 22) hx hb d_R_set_12 (by decide) (fun c12 => ?_) (fun c12 => ?_)
    · refine lv_iconst (v := (-1)) hx hb d_R_set_22 (by decide) ?_
      exact re_i (v := (-1)) (px, pv) hx hb hr hlocks (by rw [zCset, if_neg c5, if_pos c12] <;> rw [nI_clamp (by omega)]) (hP.sub [3, 0, 1, 2] rfl) hK (hD.sub [3, 0, 1, 2] (by decide) rfl) hS d_R_set_23
    · refine lv_iload_n hx hb d_R_set_15 rfl (lv_at hl 3 rfl) ?_
      have hPc := hP.sub (ws' := []) [] rfl
      have hDc := hD.sub (ws' := []) [] (by decide) rfl
      refine gc_i (w1 := fun (u : Unit) => []) (wc := []) (wr := [(m0, .inr (1, [.ref x0, .ref v0])), (x0, .inl (cL, n, .inr (.inl px))), (v0, .inl (cL, n, .inr (.inl pv))), (o, .inr (4, [.int (nI n), .ref sp, .ref m0, .ref m1, .ref m2, .ref m3, .ref wt, .ref hi, .int (nI tol), .int (nI tm), .int (nI fs), .int (nI sd), .int (nI rj), .long er]))]) hP hD hS hA [] [0, 1, 2, 3] rfl rfl (by decide) (by decide) (va_runS (As := [.int ic]) (rest := []) ⟨hx, hb, hml, hown, hT⟩ (c_R_uni l D cI cL cW cZ ic H.size) (cwS 1 hT (good_S k_176 k_177 k_1 k_178) rfl rfl rfl (by decide +kernel) ⟨Nat.le_of_ble_eq_true rfl, Nat.le_of_ble_eq_true rfl⟩) (pre_S hPc hDc hK hN) rfl rfl hl.1 rfl (lv_room (Nat.le_of_ble_eq_true rfl)) d_R_set_16 ⟨(Nat.le_of_ble_eq_true rfl), (Nat.le_of_ble_eq_true rfl)⟩) (fun r u H locs hw hP hD hS => ?_)
      try dsimp only at hw
      have hP : va_P D vwCl [(m0, .inr (1, [.ref x0, .ref v0])), (x0, .inl (cL, n, .inr (.inl px))), (v0, .inl (cL, n, .inr (.inl pv))), (o, .inr (4, [.int (nI n), .ref sp, .ref m0, .ref m1, .ref m2, .ref m3, .ref wt, .ref hi, .int (nI tol), .int (nI tm), .int (nI fs), .int (nI sd), .int (nI rj), .long er]))] H := hP
      have hD : va_D A [(m0, .inr (1, [.ref x0, .ref v0])), (x0, .inl (cL, n, .inr (.inl px))), (v0, .inl (cL, n, .inr (.inl pv))), (o, .inr (4, [.int (nI n), .ref sp, .ref m0, .ref m1, .ref m2, .ref m3, .ref wt, .ref hi, .int (nI tol), .int (nI tm), .int (nI fs), .int (nI sd), .int (nI rj), .long er]))] := hD
      subst hw
      refine lv_if_ne (tgt := 24) hx hb d_R_set_19 (by decide) (fun c19 => ?_) (fun c19 => ?_)
      · obtain ⟨j, hj, rfl⟩ := zBody_ix c5 hn
        refine lv_aload_n hx hb d_R_set_24 rfl (lv_at hl 0 rfl) ?_
        refine va_get (D := D) (ci := 4) (v := .ref m0) (C := "OscillatorRow") (T := T_R) (N := 14) hx hb hT i_R hown hK hP 3 rfl rfl 2 (by decide) (hT _ k_116) (fun _ h9 => h9) rfl d_R_set_25 ?_
        refine va_getN (D := D) (ci := 1) (v := .ref x0) (C := "OscillatorRow$Motion") (T := T_M) (N := 2) hx hb hT i_M hown hK hP 0 rfl rfl 0 (by decide) (va_Nw.use rfl (hN _ j_58)) (fun _ h9 => h9) rfl d_R_set_28 ?_
        refine lv_iload_n hx hb d_R_set_31 rfl (lv_at hl 1 rfl) ?_
        refine lv_iload_n hx hb d_R_set_32 rfl (lv_at hl 2 rfl) ?_
        refine lv_i2l hx hb d_R_set_33 rfl ?_
        refine ra_last (j := j) hx hb hK hP hD hS 1 1 rfl rfl (by omega) (by omega) d_R_set_34 (fun H locs hP hD hS => ?_)
        have hP : va_P D vwCl [(m0, .inr (1, [.ref x0, .ref v0])), (x0, .inl (cL, n, .inr (.inl (vp_updL px j ib.toInt64)))), (v0, .inl (cL, n, .inr (.inl pv))), (o, .inr (4, [.int (nI n), .ref sp, .ref m0, .ref m1, .ref m2, .ref m3, .ref wt, .ref hi, .int (nI tol), .int (nI tm), .int (nI fs), .int (nI sd), .int (nI rj), .long er]))] H := hP
        have hD : va_D A [(m0, .inr (1, [.ref x0, .ref v0])), (x0, .inl (cL, n, .inr (.inl (vp_updL px j ib.toInt64)))), (v0, .inl (cL, n, .inr (.inl pv))), (o, .inr (4, [.int (nI n), .ref sp, .ref m0, .ref m1, .ref m2, .ref m3, .ref wt, .ref hi, .int (nI tol), .int (nI tm), .int (nI fs), .int (nI sd), .int (nI rj), .long er]))] := hD
        refine lv_aload_n hx hb d_R_set_35 rfl (lv_at hl 0 rfl) ?_
        refine va_get (D := D) (ci := 4) (v := .ref m0) (C := "OscillatorRow") (T := T_R) (N := 14) hx hb hT i_R hown hK hP 3 rfl rfl 2 (by decide) (hT _ k_116) (fun _ h9 => h9) rfl d_R_set_36 ?_
        refine va_getN (D := D) (ci := 1) (v := .ref v0) (C := "OscillatorRow$Motion") (T := T_M) (N := 2) hx hb hT i_M hown hK hP 0 rfl rfl 1 (by decide) (va_Nw.use rfl (hN _ j_61)) (fun _ h9 => h9) rfl d_R_set_39 ?_
        refine lv_iload_n hx hb d_R_set_42 rfl (lv_at hl 1 rfl) ?_
        refine lv_iload_n hx hb d_R_set_43 rfl (lv_at hl 3 rfl) ?_
        refine lv_i2l hx hb d_R_set_44 rfl ?_
        refine ra_last (j := j) hx hb hK hP hD hS 2 1 rfl rfl (by omega) (by omega) d_R_set_45 (fun H locs hP hD hS => ?_)
        have hP : va_P D vwCl [(m0, .inr (1, [.ref x0, .ref v0])), (x0, .inl (cL, n, .inr (.inl (vp_updL px j ib.toInt64)))), (v0, .inl (cL, n, .inr (.inl (vp_updL pv j ic.toInt64)))), (o, .inr (4, [.int (nI n), .ref sp, .ref m0, .ref m1, .ref m2, .ref m3, .ref wt, .ref hi, .int (nI tol), .int (nI tm), .int (nI fs), .int (nI sd), .int (nI rj), .long er]))] H := hP
        have hD : va_D A [(m0, .inr (1, [.ref x0, .ref v0])), (x0, .inl (cL, n, .inr (.inl (vp_updL px j ib.toInt64)))), (v0, .inl (cL, n, .inr (.inl (vp_updL pv j ic.toInt64)))), (o, .inr (4, [.int (nI n), .ref sp, .ref m0, .ref m1, .ref m2, .ref m3, .ref wt, .ref hi, .int (nI tol), .int (nI tm), .int (nI fs), .int (nI sd), .int (nI rj), .long er]))] := hD
        refine lv_iconst (v := 0) hx hb d_R_set_46 (by decide) ?_
        exact re_i (v := 0) ((vp_updL px j ib.toInt64), (vp_updL pv j ic.toInt64)) hx hb hr hlocks (by rw [zCset, if_neg c5, if_neg c12, if_pos c19] <;> rw [nI_clamp (by omega)]) (hP.sub [3, 0, 1, 2] rfl) hK (hD.sub [3, 0, 1, 2] (by decide) rfl) hS d_R_set_47
      · refine lv_iconst (v := (-1)) hx hb d_R_set_22 (by decide) ?_
        exact re_i (v := (-1)) (px, pv) hx hb hr hlocks (by rw [zCset, if_neg c5, if_neg c12, if_neg (fun q => q c19)] <;> rw [nI_clamp (by omega)]) (hP.sub [3, 0, 1, 2] rfl) hK (hD.sub [3, 0, 1, 2] (by decide) rfl) hS d_R_set_23
set_option maxHeartbeats 4000000 in
set_option maxRecDepth 100000 in
theorem c_R_force (l : Launch) (D : va_G) (cI cL cW cZ : ClassId) (o : Nat) (n : Nat) (sp : Nat) (m0 : Nat) (m1 : Nat) (m2 : Nat) (m3 : Nat) (wt : Nat) (hi : Nat) (tol : Nat) (tm : Nat) (fs : Nat) (sd : Nat) (rj : Nat) (er : Int64) (ak : Nat) (ac : Nat) (aq : Nat) (af : Nat) (zk : Nat → Int32) (zc : Nat → Int32) (zq : Nat → Int32) (zf : Nat → Int32) (ia : Int32) (ib : Int32) (sz : Nat) (hn : n ≤ 4) : Met l y_R_force w_R_force ({ frames := 1, cells := 0, slots := 0, locals := 21 }) (va_Pc [.ref o, .int ia, .int ib] (gP D vwCl (tyv cI cL cW cZ) [(o, .inr (4, [.int (nI n), .ref sp, .ref m0, .ref m1, .ref m2, .ref m3, .ref wt, .ref hi, .int (nI tol), .int (nI tm), .int (nI fs), .int (nI sd), .int (nI rj), .long er])), (sp, .inr (2, [.int (nI n), .ref ak, .ref ac, .ref aq, .ref af])), (ak, .inl (cI, n, .inl zk)), (ac, .inl (cI, n, .inl zc)), (aq, .inl (cI, n, .inl zq)), (af, .inl (cI, n, .inl zf))] sz)) (va_Qi (fun (r : Int32) (u : (Nat → Int32)) => (r, u) = zCforce n ia ib zf) (fun u t => gB D vwCl (tyv cI cL cW cZ) (va_A [(o, .inr (4, [.int (nI n), .ref sp, .ref m0, .ref m1, .ref m2, .ref m3, .ref wt, .ref hi, .int (nI tol), .int (nI tm), .int (nI fs), .int (nI sd), .int (nI rj), .long er])), (sp, .inr (2, [.int (nI n), .ref ak, .ref ac, .ref aq, .ref af])), (ak, .inl (cI, n, .inl zk)), (ac, .inl (cI, n, .inl zc)), (aq, .inl (cI, n, .inl zq)), (af, .inl (cI, n, .inl zf))] sz) [(o, .inr (4, [.int (nI n), .ref sp, .ref m0, .ref m1, .ref m2, .ref m3, .ref wt, .ref hi, .int (nI tol), .int (nI tm), .int (nI fs), .int (nI sd), .int (nI rj), .long er])), (sp, .inr (2, [.int (nI n), .ref ak, .ref ac, .ref aq, .ref af])), (ak, .inl (cI, n, .inl zk)), (ac, .inl (cI, n, .inl zc)), (aq, .inl (cI, n, .inl zq)), (af, .inl (cI, n, .inl u))] t) (va_A [(o, .inr (4, [.int (nI n), .ref sp, .ref m0, .ref m1, .ref m2, .ref m3, .ref wt, .ref hi, .int (nI tol), .int (nI tm), .int (nI fs), .int (nI sd), .int (nI rj), .long er])), (sp, .inr (2, [.int (nI n), .ref ak, .ref ac, .ref aq, .ref af])), (ak, .inl (cI, n, .inl zk)), (ac, .inl (cI, n, .inl zc)), (aq, .inl (cI, n, .inl zq)), (af, .inl (cI, n, .inl zf))] sz)) 0 0 (va_A [(o, .inr (4, [.int (nI n), .ref sp, .ref m0, .ref m1, .ref m2, .ref m3, .ref wt, .ref hi, .int (nI tol), .int (nI tm), .int (nI fs), .int (nI sd), .int (nI rj), .long er])), (sp, .inr (2, [.int (nI n), .ref ak, .ref ac, .ref aq, .ref af])), (ak, .inl (cI, n, .inl zk)), (ac, .inl (cI, n, .inl zc)), (aq, .inl (cI, n, .inl zq)), (af, .inl (cI, n, .inl zf))] sz) := by
  refine met_go (cc := prog_1_method_5_code) (maxL := 3) (ret := (some .int)) (QA := fun A => va_Qi (fun (r : Int32) (u : (Nat → Int32)) => (r, u) = zCforce n ia ib zf) (fun u t => gB D vwCl (tyv cI cL cW cZ) A [(o, .inr (4, [.int (nI n), .ref sp, .ref m0, .ref m1, .ref m2, .ref m3, .ref wt, .ref hi, .int (nI tol), .int (nI tm), .int (nI fs), .int (nI sd), .int (nI rj), .long er])), (sp, .inr (2, [.int (nI n), .ref ak, .ref ac, .ref aq, .ref af])), (ak, .inl (cI, n, .inl zk)), (ac, .inl (cI, n, .inl zc)), (aq, .inl (cI, n, .inl zq)), (af, .inl (cI, n, .inl u))] t) A) (by decide) (Nat.le_of_ble_eq_true rfl) ?_
  intro p e s m below meth c A ls hx hb hr hml hT hN hown hlocks hin hl hP hK hD hA hS
  have hl : lv_has ls 3 [(0, .ref o), (1, .int ia), (2, .int ib)] := hl
  refine lv_aload_n hx hb d_R_force_0 rfl (lv_at hl 0 rfl) ?_
  refine lv_iload_n hx hb d_R_force_1 rfl (lv_at hl 1 rfl) ?_
  have hPc := hP.sub (ws' := [(o, .inr (4, [.int (nI n), .ref sp, .ref m0, .ref m1, .ref m2, .ref m3, .ref wt, .ref hi, .int (nI tol), .int (nI tm), .int (nI fs), .int (nI sd), .int (nI rj), .long er]))]) [0] rfl
  have hDc := hD.sub (ws' := [(o, .inr (4, [.int (nI n), .ref sp, .ref m0, .ref m1, .ref m2, .ref m3, .ref wt, .ref hi, .int (nI tol), .int (nI tm), .int (nI fs), .int (nI sd), .int (nI rj), .long er]))]) [0] (by decide) rfl
  refine gc_i (w1 := fun (u : Unit) => [(o, .inr (4, [.int (nI n), .ref sp, .ref m0, .ref m1, .ref m2, .ref m3, .ref wt, .ref hi, .int (nI tol), .int (nI tm), .int (nI fs), .int (nI sd), .int (nI rj), .long er]))]) (wc := [(o, .inr (4, [.int (nI n), .ref sp, .ref m0, .ref m1, .ref m2, .ref m3, .ref wt, .ref hi, .int (nI tol), .int (nI tm), .int (nI fs), .int (nI sd), .int (nI rj), .long er]))]) (wr := [(sp, .inr (2, [.int (nI n), .ref ak, .ref ac, .ref aq, .ref af])), (ak, .inl (cI, n, .inl zk)), (ac, .inl (cI, n, .inl zc)), (aq, .inl (cI, n, .inl zq)), (af, .inl (cI, n, .inl zf))]) hP hD hS hA [0] [1, 2, 3, 4, 5] rfl rfl (by decide) (by decide) (va_runV (As := [.int ia]) (rest := []) ⟨hx, hb, hml, hown, hT⟩ (c_R_isbody l D cI cL cW cZ o n sp m0 m1 m2 m3 wt hi tol tm fs sd rj er ia s.heap.size) (cwV 1 hT (good_V k_161 k_163 p_0 k_1 k_164) rfl rfl rfl (by decide +kernel) ⟨Nat.le_of_ble_eq_true rfl, Nat.le_of_ble_eq_true rfl⟩) (pre_V hPc hDc hK hN (ci := 4) rfl rfl) rfl rfl hl.1 rfl (lv_room (Nat.le_of_ble_eq_true rfl)) d_R_force_2 ⟨(Nat.le_of_ble_eq_true rfl), (Nat.le_of_ble_eq_true rfl)⟩) (fun r u H locs hw hP hD hS => ?_)
  try dsimp only at hw
  have hP : va_P D vwCl [(sp, .inr (2, [.int (nI n), .ref ak, .ref ac, .ref aq, .ref af])), (ak, .inl (cI, n, .inl zk)), (ac, .inl (cI, n, .inl zc)), (aq, .inl (cI, n, .inl zq)), (af, .inl (cI, n, .inl zf)), (o, .inr (4, [.int (nI n), .ref sp, .ref m0, .ref m1, .ref m2, .ref m3, .ref wt, .ref hi, .int (nI tol), .int (nI tm), .int (nI fs), .int (nI sd), .int (nI rj), .long er]))] H := hP
  have hD : va_D A [(sp, .inr (2, [.int (nI n), .ref ak, .ref ac, .ref aq, .ref af])), (ak, .inl (cI, n, .inl zk)), (ac, .inl (cI, n, .inl zc)), (aq, .inl (cI, n, .inl zq)), (af, .inl (cI, n, .inl zf)), (o, .inr (4, [.int (nI n), .ref sp, .ref m0, .ref m1, .ref m2, .ref m3, .ref wt, .ref hi, .int (nI tol), .int (nI tm), .int (nI fs), .int (nI sd), .int (nI rj), .long er]))] := hD
  subst hw
  refine lv_if_eq (tgt := 15) hx hb d_R_force_5 (by decide) (fun c5 => ?_) (fun c5 => ?_)
  · refine lv_iconst (v := (-1)) hx hb d_R_force_15 (by decide) ?_
    exact re_i (v := (-1)) (zf) hx hb hr hlocks (by rw [zCforce, if_pos c5] <;> rw [nI_clamp (by omega)]) (hP.sub [5, 0, 1, 2, 3, 4] rfl) hK (hD.sub [5, 0, 1, 2, 3, 4] (by decide) rfl) hS d_R_force_16
  · refine lv_iload_n hx hb d_R_force_8 rfl (lv_at hl 2 rfl) ?_
    have hPc := hP.sub (ws' := []) [] rfl
    have hDc := hD.sub (ws' := []) [] (by decide) rfl
    refine gc_i (w1 := fun (u : Unit) => []) (wc := []) (wr := [(sp, .inr (2, [.int (nI n), .ref ak, .ref ac, .ref aq, .ref af])), (ak, .inl (cI, n, .inl zk)), (ac, .inl (cI, n, .inl zc)), (aq, .inl (cI, n, .inl zq)), (af, .inl (cI, n, .inl zf)), (o, .inr (4, [.int (nI n), .ref sp, .ref m0, .ref m1, .ref m2, .ref m3, .ref wt, .ref hi, .int (nI tol), .int (nI tm), .int (nI fs), .int (nI sd), .int (nI rj), .long er]))]) hP hD hS hA [] [0, 1, 2, 3, 4, 5] rfl rfl (by decide) (by decide) (va_runS (As := [.int ib]) (rest := []) ⟨hx, hb, hml, hown, hT⟩ (c_R_uni l D cI cL cW cZ ib H.size) (cwS 1 hT (good_S k_176 k_177 k_1 k_178) rfl rfl rfl (by decide +kernel) ⟨Nat.le_of_ble_eq_true rfl, Nat.le_of_ble_eq_true rfl⟩) (pre_S hPc hDc hK hN) rfl rfl hl.1 rfl (lv_room (Nat.le_of_ble_eq_true rfl)) d_R_force_9 ⟨(Nat.le_of_ble_eq_true rfl), (Nat.le_of_ble_eq_true rfl)⟩) (fun r u H locs hw hP hD hS => ?_)
    try dsimp only at hw
    have hP : va_P D vwCl [(sp, .inr (2, [.int (nI n), .ref ak, .ref ac, .ref aq, .ref af])), (ak, .inl (cI, n, .inl zk)), (ac, .inl (cI, n, .inl zc)), (aq, .inl (cI, n, .inl zq)), (af, .inl (cI, n, .inl zf)), (o, .inr (4, [.int (nI n), .ref sp, .ref m0, .ref m1, .ref m2, .ref m3, .ref wt, .ref hi, .int (nI tol), .int (nI tm), .int (nI fs), .int (nI sd), .int (nI rj), .long er]))] H := hP
    have hD : va_D A [(sp, .inr (2, [.int (nI n), .ref ak, .ref ac, .ref aq, .ref af])), (ak, .inl (cI, n, .inl zk)), (ac, .inl (cI, n, .inl zc)), (aq, .inl (cI, n, .inl zq)), (af, .inl (cI, n, .inl zf)), (o, .inr (4, [.int (nI n), .ref sp, .ref m0, .ref m1, .ref m2, .ref m3, .ref wt, .ref hi, .int (nI tol), .int (nI tm), .int (nI fs), .int (nI sd), .int (nI rj), .long er]))] := hD
    subst hw
    refine lv_if_ne (tgt := 17) hx hb d_R_force_12 (by decide) (fun c12 => ?_) (fun c12 => ?_)
    · obtain ⟨j, hj, rfl⟩ := zBody_ix c5 hn
      refine lv_aload_n hx hb d_R_force_17 rfl (lv_at hl 0 rfl) ?_
      refine va_get (D := D) (ci := 4) (v := .ref sp) (C := "OscillatorRow") (T := T_R) (N := 14) hx hb hT i_R hown hK hP 5 rfl rfl 1 (by decide) (hT _ k_115) (fun _ h9 => h9) rfl d_R_force_18 ?_
      refine va_getN (D := D) (ci := 2) (v := .ref af) (C := "OscillatorRow$Springs") (T := T_S) (N := 5) hx hb hT i_S hown hK hP 0 rfl rfl 4 (by decide) (va_Nw.use rfl (hN _ j_37)) (fun _ h9 => h9) rfl d_R_force_21 ?_
      refine lv_iload_n hx hb d_R_force_24 rfl (lv_at hl 1 rfl) ?_
      refine lv_iload_n hx hb d_R_force_25 rfl (lv_at hl 2 rfl) ?_
      refine ra_iast (j := j) hx hb hK hP hD hS 4 0 rfl rfl (by omega) (by omega) d_R_force_26 (fun H locs hP hD hS => ?_)
      have hP : va_P D vwCl [(sp, .inr (2, [.int (nI n), .ref ak, .ref ac, .ref aq, .ref af])), (ak, .inl (cI, n, .inl zk)), (ac, .inl (cI, n, .inl zc)), (aq, .inl (cI, n, .inl zq)), (af, .inl (cI, n, .inl (upd zf j ib))), (o, .inr (4, [.int (nI n), .ref sp, .ref m0, .ref m1, .ref m2, .ref m3, .ref wt, .ref hi, .int (nI tol), .int (nI tm), .int (nI fs), .int (nI sd), .int (nI rj), .long er]))] H := hP
      have hD : va_D A [(sp, .inr (2, [.int (nI n), .ref ak, .ref ac, .ref aq, .ref af])), (ak, .inl (cI, n, .inl zk)), (ac, .inl (cI, n, .inl zc)), (aq, .inl (cI, n, .inl zq)), (af, .inl (cI, n, .inl (upd zf j ib))), (o, .inr (4, [.int (nI n), .ref sp, .ref m0, .ref m1, .ref m2, .ref m3, .ref wt, .ref hi, .int (nI tol), .int (nI tm), .int (nI fs), .int (nI sd), .int (nI rj), .long er]))] := hD
      refine lv_iconst (v := 0) hx hb d_R_force_27 (by decide) ?_
      exact re_i (v := 0) ((upd zf j ib)) hx hb hr hlocks (by rw [zCforce, if_neg c5, if_pos c12] <;> rw [nI_clamp (by omega)]) (hP.sub [5, 0, 1, 2, 3, 4] rfl) hK (hD.sub [5, 0, 1, 2, 3, 4] (by decide) rfl) hS d_R_force_28
    · refine lv_iconst (v := (-1)) hx hb d_R_force_15 (by decide) ?_
      exact re_i (v := (-1)) (zf) hx hb hr hlocks (by rw [zCforce, if_neg c5, if_neg (fun q => q c12)] <;> rw [nI_clamp (by omega)]) (hP.sub [5, 0, 1, 2, 3, 4] rfl) hK (hD.sub [5, 0, 1, 2, 3, 4] (by decide) rfl) hS d_R_force_16
set_option maxHeartbeats 4000000 in
set_option maxRecDepth 100000 in
theorem c_R_tol (l : Launch) (D : va_G) (cI cL cW cZ : ClassId) (o : Nat) (n : Nat) (sp : Nat) (m0 : Nat) (m1 : Nat) (m2 : Nat) (m3 : Nat) (wt : Nat) (hi : Nat) (tol : Nat) (tm : Nat) (fs : Nat) (sd : Nat) (rj : Nat) (er : Int64) (ia : Int32) (sz : Nat) (hn : n ≤ 4) : Met l y_R_tolerance w_R_tolerance ({ frames := 0, cells := 0, slots := 0, locals := 0 }) (va_Pc [.ref o, .int ia] (gP D vwCl (tyv cI cL cW cZ) [(o, .inr (4, [.int (nI n), .ref sp, .ref m0, .ref m1, .ref m2, .ref m3, .ref wt, .ref hi, .int (nI tol), .int (nI tm), .int (nI fs), .int (nI sd), .int (nI rj), .long er]))] sz)) (va_Qi (fun (r : Int32) (u : Nat) => (r, u) = zCtol ia tol) (fun u t => gB D vwCl (tyv cI cL cW cZ) (va_A [(o, .inr (4, [.int (nI n), .ref sp, .ref m0, .ref m1, .ref m2, .ref m3, .ref wt, .ref hi, .int (nI tol), .int (nI tm), .int (nI fs), .int (nI sd), .int (nI rj), .long er]))] sz) [(o, .inr (4, [.int (nI n), .ref sp, .ref m0, .ref m1, .ref m2, .ref m3, .ref wt, .ref hi, .int (nI u), .int (nI tm), .int (nI fs), .int (nI sd), .int (nI rj), .long er]))] t) (va_A [(o, .inr (4, [.int (nI n), .ref sp, .ref m0, .ref m1, .ref m2, .ref m3, .ref wt, .ref hi, .int (nI tol), .int (nI tm), .int (nI fs), .int (nI sd), .int (nI rj), .long er]))] sz)) 0 0 (va_A [(o, .inr (4, [.int (nI n), .ref sp, .ref m0, .ref m1, .ref m2, .ref m3, .ref wt, .ref hi, .int (nI tol), .int (nI tm), .int (nI fs), .int (nI sd), .int (nI rj), .long er]))] sz) := by
  refine met_go (cc := prog_1_method_6_code) (maxL := 2) (ret := (some .int)) (QA := fun A => va_Qi (fun (r : Int32) (u : Nat) => (r, u) = zCtol ia tol) (fun u t => gB D vwCl (tyv cI cL cW cZ) A [(o, .inr (4, [.int (nI n), .ref sp, .ref m0, .ref m1, .ref m2, .ref m3, .ref wt, .ref hi, .int (nI u), .int (nI tm), .int (nI fs), .int (nI sd), .int (nI rj), .long er]))] t) A) (by decide) (Nat.le_of_ble_eq_true rfl) ?_
  intro p e s m below meth c A ls hx hb hr hml hT hN hown hlocks hin hl hP hK hD hA hS
  have hl : lv_has ls 2 [(0, .ref o), (1, .int ia)] := hl
  refine lv_iload_n hx hb d_R_tolerance_0 rfl (lv_at hl 1 rfl) ?_
  refine lv_if_lt (tgt := 10) hx hb d_R_tolerance_1 (by decide) (fun c1 => ?_) (fun c1 => ?_)
  · refine lv_iconst (v := (-1)) hx hb d_R_tolerance_10 (by decide) ?_
    exact re_i (v := (-1)) (tol) hx hb hr hlocks (by rw [zCtol, if_pos c1] <;> rw [nI_clamp (by omega)]) (hP.sub [0] rfl) hK (hD.sub [0] (by decide) rfl) hS d_R_tolerance_11
  · refine lv_iload_n hx hb d_R_tolerance_4 rfl (lv_at hl 1 rfl) ?_
    refine lv_ldc (v := 1000000) hx hb hown (hT _ k_189) d_R_tolerance_5 ?_
    refine lv_icmp_le (tgt := 12) hx hb d_R_tolerance_7 (by decide) (fun c7 => ?_) (fun c7 => ?_)
    · obtain ⟨j, hj, rfl⟩ := nI_of2 (M := 1000000) (n := 1000000) (by decide) c1 c7
      refine lv_aload_n hx hb d_R_tolerance_12 rfl (lv_at hl 0 rfl) ?_
      refine lv_iload_n hx hb d_R_tolerance_13 rfl (lv_at hl 1 rfl) ?_
      refine va_put (D := D) (ci := 4) (v := .int (nI j)) (ty := (.int)) (C := "OscillatorRow") (T := T_R) (N := 14) hx hb hT i_R t_R t_R_ok n_R_ok hown hK hP hD hS 0 rfl rfl 8 (by decide) (hT _ k_122) (fun _ h9 => h9) rfl (by decide +kernel) rfl rfl (Nat.le_of_ble_eq_true rfl) d_R_tolerance_14 (fun H locs hP hD hS => ?_)
      have hP : va_P D vwCl [(o, .inr (4, [.int (nI n), .ref sp, .ref m0, .ref m1, .ref m2, .ref m3, .ref wt, .ref hi, .int (nI j), .int (nI tm), .int (nI fs), .int (nI sd), .int (nI rj), .long er]))] H := hP
      have hD : va_D A [(o, .inr (4, [.int (nI n), .ref sp, .ref m0, .ref m1, .ref m2, .ref m3, .ref wt, .ref hi, .int (nI j), .int (nI tm), .int (nI fs), .int (nI sd), .int (nI rj), .long er]))] := hD
      refine lv_iconst (v := 0) hx hb d_R_tolerance_17 (by decide) ?_
      exact re_i (v := 0) (j) hx hb hr hlocks (by rw [zCtol, if_neg c1, if_pos c7] <;> rw [nI_clamp (by omega)]) (hP.sub [0] rfl) hK (hD.sub [0] (by decide) rfl) hS d_R_tolerance_18
    · refine lv_iconst (v := (-1)) hx hb d_R_tolerance_10 (by decide) ?_
      exact re_i (v := (-1)) (tol) hx hb hr hlocks (by rw [zCtol, if_neg c1, if_neg c7] <;> rw [nI_clamp (by omega)]) (hP.sub [0] rfl) hK (hD.sub [0] (by decide) rfl) hS d_R_tolerance_11
set_option maxHeartbeats 4000000 in
set_option maxRecDepth 100000 in
theorem c_R_place (l : Launch) (D : va_G) (cI cL cW cZ : ClassId) (o : Nat) (n : Nat) (sp : Nat) (m0 : Nat) (m1 : Nat) (m2 : Nat) (m3 : Nat) (wt : Nat) (hi : Nat) (tol : Nat) (tm : Nat) (fs : Nat) (sd : Nat) (rj : Nat) (er : Int64) (x0 : Nat) (v0 : Nat) (px : Nat → Int64) (pv : Nat → Int64) (ia : Int32) (sz : Nat) (hn : n ≤ 4) : Met l y_R_place w_R_place ({ frames := 1, cells := 0, slots := 0, locals := 21 }) (va_Pc [.ref o, .int ia] (gP D vwCl (tyv cI cL cW cZ) [(o, .inr (4, [.int (nI n), .ref sp, .ref m0, .ref m1, .ref m2, .ref m3, .ref wt, .ref hi, .int (nI tol), .int (nI tm), .int (nI fs), .int (nI sd), .int (nI rj), .long er])), (m0, .inr (1, [.ref x0, .ref v0])), (x0, .inl (cL, n, .inr (.inl px))), (v0, .inl (cL, n, .inr (.inl pv)))] sz)) (va_Qi (fun (r : Int32) (u : Unit) => r = zCat n ia px) (fun u t => gB D vwCl (tyv cI cL cW cZ) (va_A [(o, .inr (4, [.int (nI n), .ref sp, .ref m0, .ref m1, .ref m2, .ref m3, .ref wt, .ref hi, .int (nI tol), .int (nI tm), .int (nI fs), .int (nI sd), .int (nI rj), .long er])), (m0, .inr (1, [.ref x0, .ref v0])), (x0, .inl (cL, n, .inr (.inl px))), (v0, .inl (cL, n, .inr (.inl pv)))] sz) [(o, .inr (4, [.int (nI n), .ref sp, .ref m0, .ref m1, .ref m2, .ref m3, .ref wt, .ref hi, .int (nI tol), .int (nI tm), .int (nI fs), .int (nI sd), .int (nI rj), .long er])), (m0, .inr (1, [.ref x0, .ref v0])), (x0, .inl (cL, n, .inr (.inl px))), (v0, .inl (cL, n, .inr (.inl pv)))] t) (va_A [(o, .inr (4, [.int (nI n), .ref sp, .ref m0, .ref m1, .ref m2, .ref m3, .ref wt, .ref hi, .int (nI tol), .int (nI tm), .int (nI fs), .int (nI sd), .int (nI rj), .long er])), (m0, .inr (1, [.ref x0, .ref v0])), (x0, .inl (cL, n, .inr (.inl px))), (v0, .inl (cL, n, .inr (.inl pv)))] sz)) 0 0 (va_A [(o, .inr (4, [.int (nI n), .ref sp, .ref m0, .ref m1, .ref m2, .ref m3, .ref wt, .ref hi, .int (nI tol), .int (nI tm), .int (nI fs), .int (nI sd), .int (nI rj), .long er])), (m0, .inr (1, [.ref x0, .ref v0])), (x0, .inl (cL, n, .inr (.inl px))), (v0, .inl (cL, n, .inr (.inl pv)))] sz) := by
  refine met_go (cc := prog_1_method_9_code) (maxL := 2) (ret := (some .int)) (QA := fun A => va_Qi (fun (r : Int32) (u : Unit) => r = zCat n ia px) (fun u t => gB D vwCl (tyv cI cL cW cZ) A [(o, .inr (4, [.int (nI n), .ref sp, .ref m0, .ref m1, .ref m2, .ref m3, .ref wt, .ref hi, .int (nI tol), .int (nI tm), .int (nI fs), .int (nI sd), .int (nI rj), .long er])), (m0, .inr (1, [.ref x0, .ref v0])), (x0, .inl (cL, n, .inr (.inl px))), (v0, .inl (cL, n, .inr (.inl pv)))] t) A) (by decide) (Nat.le_of_ble_eq_true rfl) ?_
  intro p e s m below meth c A ls hx hb hr hml hT hN hown hlocks hin hl hP hK hD hA hS
  have hl : lv_has ls 2 [(0, .ref o), (1, .int ia)] := hl
  refine lv_aload_n hx hb d_R_place_0 rfl (lv_at hl 0 rfl) ?_
  refine lv_iload_n hx hb d_R_place_1 rfl (lv_at hl 1 rfl) ?_
  have hPc := hP.sub (ws' := [(o, .inr (4, [.int (nI n), .ref sp, .ref m0, .ref m1, .ref m2, .ref m3, .ref wt, .ref hi, .int (nI tol), .int (nI tm), .int (nI fs), .int (nI sd), .int (nI rj), .long er]))]) [0] rfl
  have hDc := hD.sub (ws' := [(o, .inr (4, [.int (nI n), .ref sp, .ref m0, .ref m1, .ref m2, .ref m3, .ref wt, .ref hi, .int (nI tol), .int (nI tm), .int (nI fs), .int (nI sd), .int (nI rj), .long er]))]) [0] (by decide) rfl
  refine gc_i (w1 := fun (u : Unit) => [(o, .inr (4, [.int (nI n), .ref sp, .ref m0, .ref m1, .ref m2, .ref m3, .ref wt, .ref hi, .int (nI tol), .int (nI tm), .int (nI fs), .int (nI sd), .int (nI rj), .long er]))]) (wc := [(o, .inr (4, [.int (nI n), .ref sp, .ref m0, .ref m1, .ref m2, .ref m3, .ref wt, .ref hi, .int (nI tol), .int (nI tm), .int (nI fs), .int (nI sd), .int (nI rj), .long er]))]) (wr := [(m0, .inr (1, [.ref x0, .ref v0])), (x0, .inl (cL, n, .inr (.inl px))), (v0, .inl (cL, n, .inr (.inl pv)))]) hP hD hS hA [0] [1, 2, 3] rfl rfl (by decide) (by decide) (va_runV (As := [.int ia]) (rest := []) ⟨hx, hb, hml, hown, hT⟩ (c_R_isbody l D cI cL cW cZ o n sp m0 m1 m2 m3 wt hi tol tm fs sd rj er ia s.heap.size) (cwV 1 hT (good_V k_161 k_163 p_0 k_1 k_164) rfl rfl rfl (by decide +kernel) ⟨Nat.le_of_ble_eq_true rfl, Nat.le_of_ble_eq_true rfl⟩) (pre_V hPc hDc hK hN (ci := 4) rfl rfl) rfl rfl hl.1 rfl (lv_room (Nat.le_of_ble_eq_true rfl)) d_R_place_2 ⟨(Nat.le_of_ble_eq_true rfl), (Nat.le_of_ble_eq_true rfl)⟩) (fun r u H locs hw hP hD hS => ?_)
  try dsimp only at hw
  have hP : va_P D vwCl [(m0, .inr (1, [.ref x0, .ref v0])), (x0, .inl (cL, n, .inr (.inl px))), (v0, .inl (cL, n, .inr (.inl pv))), (o, .inr (4, [.int (nI n), .ref sp, .ref m0, .ref m1, .ref m2, .ref m3, .ref wt, .ref hi, .int (nI tol), .int (nI tm), .int (nI fs), .int (nI sd), .int (nI rj), .long er]))] H := hP
  have hD : va_D A [(m0, .inr (1, [.ref x0, .ref v0])), (x0, .inl (cL, n, .inr (.inl px))), (v0, .inl (cL, n, .inr (.inl pv))), (o, .inr (4, [.int (nI n), .ref sp, .ref m0, .ref m1, .ref m2, .ref m3, .ref wt, .ref hi, .int (nI tol), .int (nI tm), .int (nI fs), .int (nI sd), .int (nI rj), .long er]))] := hD
  subst hw
  refine lv_if_eq (tgt := 21) hx hb d_R_place_5 (by decide) (fun c5 => ?_) (fun c5 => ?_)
  · refine lv_iconst (v := (-1)) hx hb d_R_place_21 (by decide) ?_
    exact re_i (v := (-1)) () hx hb hr hlocks (by rw [zCat, if_pos c5] <;> rw [nI_clamp (by omega)]) (hP.sub [3, 0, 1, 2] rfl) hK (hD.sub [3, 0, 1, 2] (by decide) rfl) hS d_R_place_22
  · obtain ⟨j, hj, rfl⟩ := zBody_ix c5 hn
    refine lv_aload_n hx hb d_R_place_8 rfl (lv_at hl 0 rfl) ?_
    refine va_get (D := D) (ci := 4) (v := .ref m0) (C := "OscillatorRow") (T := T_R) (N := 14) hx hb hT i_R hown hK hP 3 rfl rfl 2 (by decide) (hT _ k_116) (fun _ h9 => h9) rfl d_R_place_9 ?_
    refine va_getN (D := D) (ci := 1) (v := .ref x0) (C := "OscillatorRow$Motion") (T := T_M) (N := 2) hx hb hT i_M hown hK hP 0 rfl rfl 0 (by decide) (va_Nw.use rfl (hN _ j_58)) (fun _ h9 => h9) rfl d_R_place_12 ?_
    refine lv_iload_n hx hb d_R_place_15 rfl (lv_at hl 1 rfl) ?_
    refine ra_lald (j := j) hx hb hK hP 1 1 rfl rfl (by omega) (by omega) d_R_place_16 ?_
    refine lv_l2i hx hb d_R_place_17 rfl ?_
    refine lv_goto (tgt := 22) hx hb d_R_place_18 (by decide) ?_
    exact re_i (v := (px j).toInt32) () hx hb hr hlocks (by rw [zCat, if_neg c5] <;> rw [nI_clamp (by omega)]) (hP.sub [3, 0, 1, 2] rfl) hK (hD.sub [3, 0, 1, 2] (by decide) rfl) hS d_R_place_22
set_option maxHeartbeats 4000000 in
set_option maxRecDepth 100000 in
theorem c_R_speed (l : Launch) (D : va_G) (cI cL cW cZ : ClassId) (o : Nat) (n : Nat) (sp : Nat) (m0 : Nat) (m1 : Nat) (m2 : Nat) (m3 : Nat) (wt : Nat) (hi : Nat) (tol : Nat) (tm : Nat) (fs : Nat) (sd : Nat) (rj : Nat) (er : Int64) (x0 : Nat) (v0 : Nat) (px : Nat → Int64) (pv : Nat → Int64) (ia : Int32) (sz : Nat) (hn : n ≤ 4) : Met l y_R_speed w_R_speed ({ frames := 1, cells := 0, slots := 0, locals := 21 }) (va_Pc [.ref o, .int ia] (gP D vwCl (tyv cI cL cW cZ) [(o, .inr (4, [.int (nI n), .ref sp, .ref m0, .ref m1, .ref m2, .ref m3, .ref wt, .ref hi, .int (nI tol), .int (nI tm), .int (nI fs), .int (nI sd), .int (nI rj), .long er])), (m0, .inr (1, [.ref x0, .ref v0])), (x0, .inl (cL, n, .inr (.inl px))), (v0, .inl (cL, n, .inr (.inl pv)))] sz)) (va_Qi (fun (r : Int32) (u : Unit) => r = zCat n ia pv) (fun u t => gB D vwCl (tyv cI cL cW cZ) (va_A [(o, .inr (4, [.int (nI n), .ref sp, .ref m0, .ref m1, .ref m2, .ref m3, .ref wt, .ref hi, .int (nI tol), .int (nI tm), .int (nI fs), .int (nI sd), .int (nI rj), .long er])), (m0, .inr (1, [.ref x0, .ref v0])), (x0, .inl (cL, n, .inr (.inl px))), (v0, .inl (cL, n, .inr (.inl pv)))] sz) [(o, .inr (4, [.int (nI n), .ref sp, .ref m0, .ref m1, .ref m2, .ref m3, .ref wt, .ref hi, .int (nI tol), .int (nI tm), .int (nI fs), .int (nI sd), .int (nI rj), .long er])), (m0, .inr (1, [.ref x0, .ref v0])), (x0, .inl (cL, n, .inr (.inl px))), (v0, .inl (cL, n, .inr (.inl pv)))] t) (va_A [(o, .inr (4, [.int (nI n), .ref sp, .ref m0, .ref m1, .ref m2, .ref m3, .ref wt, .ref hi, .int (nI tol), .int (nI tm), .int (nI fs), .int (nI sd), .int (nI rj), .long er])), (m0, .inr (1, [.ref x0, .ref v0])), (x0, .inl (cL, n, .inr (.inl px))), (v0, .inl (cL, n, .inr (.inl pv)))] sz)) 0 0 (va_A [(o, .inr (4, [.int (nI n), .ref sp, .ref m0, .ref m1, .ref m2, .ref m3, .ref wt, .ref hi, .int (nI tol), .int (nI tm), .int (nI fs), .int (nI sd), .int (nI rj), .long er])), (m0, .inr (1, [.ref x0, .ref v0])), (x0, .inl (cL, n, .inr (.inl px))), (v0, .inl (cL, n, .inr (.inl pv)))] sz) := by
  refine met_go (cc := prog_1_method_10_code) (maxL := 2) (ret := (some .int)) (QA := fun A => va_Qi (fun (r : Int32) (u : Unit) => r = zCat n ia pv) (fun u t => gB D vwCl (tyv cI cL cW cZ) A [(o, .inr (4, [.int (nI n), .ref sp, .ref m0, .ref m1, .ref m2, .ref m3, .ref wt, .ref hi, .int (nI tol), .int (nI tm), .int (nI fs), .int (nI sd), .int (nI rj), .long er])), (m0, .inr (1, [.ref x0, .ref v0])), (x0, .inl (cL, n, .inr (.inl px))), (v0, .inl (cL, n, .inr (.inl pv)))] t) A) (by decide) (Nat.le_of_ble_eq_true rfl) ?_
  intro p e s m below meth c A ls hx hb hr hml hT hN hown hlocks hin hl hP hK hD hA hS
  have hl : lv_has ls 2 [(0, .ref o), (1, .int ia)] := hl
  refine lv_aload_n hx hb d_R_speed_0 rfl (lv_at hl 0 rfl) ?_
  refine lv_iload_n hx hb d_R_speed_1 rfl (lv_at hl 1 rfl) ?_
  have hPc := hP.sub (ws' := [(o, .inr (4, [.int (nI n), .ref sp, .ref m0, .ref m1, .ref m2, .ref m3, .ref wt, .ref hi, .int (nI tol), .int (nI tm), .int (nI fs), .int (nI sd), .int (nI rj), .long er]))]) [0] rfl
  have hDc := hD.sub (ws' := [(o, .inr (4, [.int (nI n), .ref sp, .ref m0, .ref m1, .ref m2, .ref m3, .ref wt, .ref hi, .int (nI tol), .int (nI tm), .int (nI fs), .int (nI sd), .int (nI rj), .long er]))]) [0] (by decide) rfl
  refine gc_i (w1 := fun (u : Unit) => [(o, .inr (4, [.int (nI n), .ref sp, .ref m0, .ref m1, .ref m2, .ref m3, .ref wt, .ref hi, .int (nI tol), .int (nI tm), .int (nI fs), .int (nI sd), .int (nI rj), .long er]))]) (wc := [(o, .inr (4, [.int (nI n), .ref sp, .ref m0, .ref m1, .ref m2, .ref m3, .ref wt, .ref hi, .int (nI tol), .int (nI tm), .int (nI fs), .int (nI sd), .int (nI rj), .long er]))]) (wr := [(m0, .inr (1, [.ref x0, .ref v0])), (x0, .inl (cL, n, .inr (.inl px))), (v0, .inl (cL, n, .inr (.inl pv)))]) hP hD hS hA [0] [1, 2, 3] rfl rfl (by decide) (by decide) (va_runV (As := [.int ia]) (rest := []) ⟨hx, hb, hml, hown, hT⟩ (c_R_isbody l D cI cL cW cZ o n sp m0 m1 m2 m3 wt hi tol tm fs sd rj er ia s.heap.size) (cwV 1 hT (good_V k_161 k_163 p_0 k_1 k_164) rfl rfl rfl (by decide +kernel) ⟨Nat.le_of_ble_eq_true rfl, Nat.le_of_ble_eq_true rfl⟩) (pre_V hPc hDc hK hN (ci := 4) rfl rfl) rfl rfl hl.1 rfl (lv_room (Nat.le_of_ble_eq_true rfl)) d_R_speed_2 ⟨(Nat.le_of_ble_eq_true rfl), (Nat.le_of_ble_eq_true rfl)⟩) (fun r u H locs hw hP hD hS => ?_)
  try dsimp only at hw
  have hP : va_P D vwCl [(m0, .inr (1, [.ref x0, .ref v0])), (x0, .inl (cL, n, .inr (.inl px))), (v0, .inl (cL, n, .inr (.inl pv))), (o, .inr (4, [.int (nI n), .ref sp, .ref m0, .ref m1, .ref m2, .ref m3, .ref wt, .ref hi, .int (nI tol), .int (nI tm), .int (nI fs), .int (nI sd), .int (nI rj), .long er]))] H := hP
  have hD : va_D A [(m0, .inr (1, [.ref x0, .ref v0])), (x0, .inl (cL, n, .inr (.inl px))), (v0, .inl (cL, n, .inr (.inl pv))), (o, .inr (4, [.int (nI n), .ref sp, .ref m0, .ref m1, .ref m2, .ref m3, .ref wt, .ref hi, .int (nI tol), .int (nI tm), .int (nI fs), .int (nI sd), .int (nI rj), .long er]))] := hD
  subst hw
  refine lv_if_eq (tgt := 21) hx hb d_R_speed_5 (by decide) (fun c5 => ?_) (fun c5 => ?_)
  · refine lv_iconst (v := (-1)) hx hb d_R_speed_21 (by decide) ?_
    exact re_i (v := (-1)) () hx hb hr hlocks (by rw [zCat, if_pos c5] <;> rw [nI_clamp (by omega)]) (hP.sub [3, 0, 1, 2] rfl) hK (hD.sub [3, 0, 1, 2] (by decide) rfl) hS d_R_speed_22
  · obtain ⟨j, hj, rfl⟩ := zBody_ix c5 hn
    refine lv_aload_n hx hb d_R_speed_8 rfl (lv_at hl 0 rfl) ?_
    refine va_get (D := D) (ci := 4) (v := .ref m0) (C := "OscillatorRow") (T := T_R) (N := 14) hx hb hT i_R hown hK hP 3 rfl rfl 2 (by decide) (hT _ k_116) (fun _ h9 => h9) rfl d_R_speed_9 ?_
    refine va_getN (D := D) (ci := 1) (v := .ref v0) (C := "OscillatorRow$Motion") (T := T_M) (N := 2) hx hb hT i_M hown hK hP 0 rfl rfl 1 (by decide) (va_Nw.use rfl (hN _ j_61)) (fun _ h9 => h9) rfl d_R_speed_12 ?_
    refine lv_iload_n hx hb d_R_speed_15 rfl (lv_at hl 1 rfl) ?_
    refine ra_lald (j := j) hx hb hK hP 2 1 rfl rfl (by omega) (by omega) d_R_speed_16 ?_
    refine lv_l2i hx hb d_R_speed_17 rfl ?_
    refine lv_goto (tgt := 22) hx hb d_R_speed_18 (by decide) ?_
    exact re_i (v := (pv j).toInt32) () hx hb hr hlocks (by rw [zCat, if_neg c5] <;> rw [nI_clamp (by omega)]) (hP.sub [3, 0, 1, 2] rfl) hK (hD.sub [3, 0, 1, 2] (by decide) rfl) hS d_R_speed_22
set_option maxHeartbeats 4000000 in
set_option maxRecDepth 100000 in
theorem c_R_pushc (l : Launch) (D : va_G) (cI cL cW cZ : ClassId) (o : Nat) (n : Nat) (sp : Nat) (m0 : Nat) (m1 : Nat) (m2 : Nat) (m3 : Nat) (wt : Nat) (hi : Nat) (tol : Nat) (tm : Nat) (fs : Nat) (sd : Nat) (rj : Nat) (er : Int64) (ak : Nat) (ac : Nat) (aq : Nat) (af : Nat) (zk : Nat → Int32) (zc : Nat → Int32) (zq : Nat → Int32) (zf : Nat → Int32) (x0 : Nat) (v0 : Nat) (px : Nat → Int64) (pv : Nat → Int64) (ia : Int32) (sz : Nat) (hn : n ≤ 4) : Met l y_R_push w_R_push ({ frames := 1, cells := 0, slots := 0, locals := 26 }) (va_Pc [.ref o, .int ia] (gP D vwCl (tyv cI cL cW cZ) [(o, .inr (4, [.int (nI n), .ref sp, .ref m0, .ref m1, .ref m2, .ref m3, .ref wt, .ref hi, .int (nI tol), .int (nI tm), .int (nI fs), .int (nI sd), .int (nI rj), .long er])), (sp, .inr (2, [.int (nI n), .ref ak, .ref ac, .ref aq, .ref af])), (ak, .inl (cI, n, .inl zk)), (ac, .inl (cI, n, .inl zc)), (aq, .inl (cI, n, .inl zq)), (af, .inl (cI, n, .inl zf)), (m0, .inr (1, [.ref x0, .ref v0])), (x0, .inl (cL, n, .inr (.inl px))), (v0, .inl (cL, n, .inr (.inl pv)))] sz)) (va_Ql (fun (r : Int64) (u : Unit) => r = zCpush n ia zk zc zq zf px pv) (fun u t => gB D vwCl (tyv cI cL cW cZ) (va_A [(o, .inr (4, [.int (nI n), .ref sp, .ref m0, .ref m1, .ref m2, .ref m3, .ref wt, .ref hi, .int (nI tol), .int (nI tm), .int (nI fs), .int (nI sd), .int (nI rj), .long er])), (sp, .inr (2, [.int (nI n), .ref ak, .ref ac, .ref aq, .ref af])), (ak, .inl (cI, n, .inl zk)), (ac, .inl (cI, n, .inl zc)), (aq, .inl (cI, n, .inl zq)), (af, .inl (cI, n, .inl zf)), (m0, .inr (1, [.ref x0, .ref v0])), (x0, .inl (cL, n, .inr (.inl px))), (v0, .inl (cL, n, .inr (.inl pv)))] sz) [(o, .inr (4, [.int (nI n), .ref sp, .ref m0, .ref m1, .ref m2, .ref m3, .ref wt, .ref hi, .int (nI tol), .int (nI tm), .int (nI fs), .int (nI sd), .int (nI rj), .long er])), (sp, .inr (2, [.int (nI n), .ref ak, .ref ac, .ref aq, .ref af])), (ak, .inl (cI, n, .inl zk)), (ac, .inl (cI, n, .inl zc)), (aq, .inl (cI, n, .inl zq)), (af, .inl (cI, n, .inl zf)), (m0, .inr (1, [.ref x0, .ref v0])), (x0, .inl (cL, n, .inr (.inl px))), (v0, .inl (cL, n, .inr (.inl pv)))] t) (va_A [(o, .inr (4, [.int (nI n), .ref sp, .ref m0, .ref m1, .ref m2, .ref m3, .ref wt, .ref hi, .int (nI tol), .int (nI tm), .int (nI fs), .int (nI sd), .int (nI rj), .long er])), (sp, .inr (2, [.int (nI n), .ref ak, .ref ac, .ref aq, .ref af])), (ak, .inl (cI, n, .inl zk)), (ac, .inl (cI, n, .inl zc)), (aq, .inl (cI, n, .inl zq)), (af, .inl (cI, n, .inl zf)), (m0, .inr (1, [.ref x0, .ref v0])), (x0, .inl (cL, n, .inr (.inl px))), (v0, .inl (cL, n, .inr (.inl pv)))] sz)) 0 0 (va_A [(o, .inr (4, [.int (nI n), .ref sp, .ref m0, .ref m1, .ref m2, .ref m3, .ref wt, .ref hi, .int (nI tol), .int (nI tm), .int (nI fs), .int (nI sd), .int (nI rj), .long er])), (sp, .inr (2, [.int (nI n), .ref ak, .ref ac, .ref aq, .ref af])), (ak, .inl (cI, n, .inl zk)), (ac, .inl (cI, n, .inl zc)), (aq, .inl (cI, n, .inl zq)), (af, .inl (cI, n, .inl zf)), (m0, .inr (1, [.ref x0, .ref v0])), (x0, .inl (cL, n, .inr (.inl px))), (v0, .inl (cL, n, .inr (.inl pv)))] sz) := by
  refine met_go (cc := prog_1_method_11_code) (maxL := 2) (ret := (some .long)) (QA := fun A => va_Ql (fun (r : Int64) (u : Unit) => r = zCpush n ia zk zc zq zf px pv) (fun u t => gB D vwCl (tyv cI cL cW cZ) A [(o, .inr (4, [.int (nI n), .ref sp, .ref m0, .ref m1, .ref m2, .ref m3, .ref wt, .ref hi, .int (nI tol), .int (nI tm), .int (nI fs), .int (nI sd), .int (nI rj), .long er])), (sp, .inr (2, [.int (nI n), .ref ak, .ref ac, .ref aq, .ref af])), (ak, .inl (cI, n, .inl zk)), (ac, .inl (cI, n, .inl zc)), (aq, .inl (cI, n, .inl zq)), (af, .inl (cI, n, .inl zf)), (m0, .inr (1, [.ref x0, .ref v0])), (x0, .inl (cL, n, .inr (.inl px))), (v0, .inl (cL, n, .inr (.inl pv)))] t) A) (by decide) (Nat.le_of_ble_eq_true rfl) ?_
  intro p e s m below meth c A ls hx hb hr hml hT hN hown hlocks hin hl hP hK hD hA hS
  have hl : lv_has ls 2 [(0, .ref o), (1, .int ia)] := hl
  refine lv_aload_n hx hb d_R_push_0 rfl (lv_at hl 0 rfl) ?_
  refine lv_iload_n hx hb d_R_push_1 rfl (lv_at hl 1 rfl) ?_
  have hPc := hP.sub (ws' := [(o, .inr (4, [.int (nI n), .ref sp, .ref m0, .ref m1, .ref m2, .ref m3, .ref wt, .ref hi, .int (nI tol), .int (nI tm), .int (nI fs), .int (nI sd), .int (nI rj), .long er]))]) [0] rfl
  have hDc := hD.sub (ws' := [(o, .inr (4, [.int (nI n), .ref sp, .ref m0, .ref m1, .ref m2, .ref m3, .ref wt, .ref hi, .int (nI tol), .int (nI tm), .int (nI fs), .int (nI sd), .int (nI rj), .long er]))]) [0] (by decide) rfl
  refine gc_i (w1 := fun (u : Unit) => [(o, .inr (4, [.int (nI n), .ref sp, .ref m0, .ref m1, .ref m2, .ref m3, .ref wt, .ref hi, .int (nI tol), .int (nI tm), .int (nI fs), .int (nI sd), .int (nI rj), .long er]))]) (wc := [(o, .inr (4, [.int (nI n), .ref sp, .ref m0, .ref m1, .ref m2, .ref m3, .ref wt, .ref hi, .int (nI tol), .int (nI tm), .int (nI fs), .int (nI sd), .int (nI rj), .long er]))]) (wr := [(sp, .inr (2, [.int (nI n), .ref ak, .ref ac, .ref aq, .ref af])), (ak, .inl (cI, n, .inl zk)), (ac, .inl (cI, n, .inl zc)), (aq, .inl (cI, n, .inl zq)), (af, .inl (cI, n, .inl zf)), (m0, .inr (1, [.ref x0, .ref v0])), (x0, .inl (cL, n, .inr (.inl px))), (v0, .inl (cL, n, .inr (.inl pv)))]) hP hD hS hA [0] [1, 2, 3, 4, 5, 6, 7, 8] rfl rfl (by decide) (by decide) (va_runV (As := [.int ia]) (rest := []) ⟨hx, hb, hml, hown, hT⟩ (c_R_isbody l D cI cL cW cZ o n sp m0 m1 m2 m3 wt hi tol tm fs sd rj er ia s.heap.size) (cwV 1 hT (good_V k_161 k_163 p_0 k_1 k_164) rfl rfl rfl (by decide +kernel) ⟨Nat.le_of_ble_eq_true rfl, Nat.le_of_ble_eq_true rfl⟩) (pre_V hPc hDc hK hN (ci := 4) rfl rfl) rfl rfl hl.1 rfl (lv_room (Nat.le_of_ble_eq_true rfl)) d_R_push_2 ⟨(Nat.le_of_ble_eq_true rfl), (Nat.le_of_ble_eq_true rfl)⟩) (fun r u H locs hw hP hD hS => ?_)
  try dsimp only at hw
  have hP : va_P D vwCl [(sp, .inr (2, [.int (nI n), .ref ak, .ref ac, .ref aq, .ref af])), (ak, .inl (cI, n, .inl zk)), (ac, .inl (cI, n, .inl zc)), (aq, .inl (cI, n, .inl zq)), (af, .inl (cI, n, .inl zf)), (m0, .inr (1, [.ref x0, .ref v0])), (x0, .inl (cL, n, .inr (.inl px))), (v0, .inl (cL, n, .inr (.inl pv))), (o, .inr (4, [.int (nI n), .ref sp, .ref m0, .ref m1, .ref m2, .ref m3, .ref wt, .ref hi, .int (nI tol), .int (nI tm), .int (nI fs), .int (nI sd), .int (nI rj), .long er]))] H := hP
  have hD : va_D A [(sp, .inr (2, [.int (nI n), .ref ak, .ref ac, .ref aq, .ref af])), (ak, .inl (cI, n, .inl zk)), (ac, .inl (cI, n, .inl zc)), (aq, .inl (cI, n, .inl zq)), (af, .inl (cI, n, .inl zf)), (m0, .inr (1, [.ref x0, .ref v0])), (x0, .inl (cL, n, .inr (.inl px))), (v0, .inl (cL, n, .inr (.inl pv))), (o, .inr (4, [.int (nI n), .ref sp, .ref m0, .ref m1, .ref m2, .ref m3, .ref wt, .ref hi, .int (nI tol), .int (nI tm), .int (nI fs), .int (nI sd), .int (nI rj), .long er]))] := hD
  subst hw
  refine lv_if_eq (tgt := 23) hx hb d_R_push_5 (by decide) (fun c5 => ?_) (fun c5 => ?_)
  · refine lv_ldc2 (v := (-2000000000)) hx hb hown (hT _ k_298) d_R_push_23 ?_
    exact re_l (v := (-2000000000)) () hx hb hr hlocks (by rw [zCpush, if_pos c5] <;> rw [nI_clamp (by omega)]) (hP.sub [8, 0, 1, 2, 3, 4, 5, 6, 7] rfl) hK (hD.sub [8, 0, 1, 2, 3, 4, 5, 6, 7] (by decide) rfl) hS d_R_push_26
  · obtain ⟨j, hj, rfl⟩ := zBody_ix c5 hn
    refine lv_aload_n hx hb d_R_push_8 rfl (lv_at hl 0 rfl) ?_
    refine va_get (D := D) (ci := 4) (v := .ref sp) (C := "OscillatorRow") (T := T_R) (N := 14) hx hb hT i_R hown hK hP 8 rfl rfl 1 (by decide) (hT _ k_115) (fun _ h9 => h9) rfl d_R_push_9 ?_
    refine lv_iload_n hx hb d_R_push_12 rfl (lv_at hl 1 rfl) ?_
    refine lv_aload_n hx hb d_R_push_13 rfl (lv_at hl 0 rfl) ?_
    refine va_get (D := D) (ci := 4) (v := .ref m0) (C := "OscillatorRow") (T := T_R) (N := 14) hx hb hT i_R hown hK hP 8 rfl rfl 2 (by decide) (hT _ k_116) (fun _ h9 => h9) rfl d_R_push_14 ?_
    have hPc := hP.sub (ws' := [(sp, .inr (2, [.int (nI n), .ref ak, .ref ac, .ref aq, .ref af])), (ak, .inl (cI, n, .inl zk)), (ac, .inl (cI, n, .inl zc)), (aq, .inl (cI, n, .inl zq)), (af, .inl (cI, n, .inl zf)), (m0, .inr (1, [.ref x0, .ref v0])), (x0, .inl (cL, n, .inr (.inl px))), (v0, .inl (cL, n, .inr (.inl pv)))]) [0, 1, 2, 3, 4, 5, 6, 7] rfl
    have hDc := hD.sub (ws' := [(sp, .inr (2, [.int (nI n), .ref ak, .ref ac, .ref aq, .ref af])), (ak, .inl (cI, n, .inl zk)), (ac, .inl (cI, n, .inl zc)), (aq, .inl (cI, n, .inl zq)), (af, .inl (cI, n, .inl zf)), (m0, .inr (1, [.ref x0, .ref v0])), (x0, .inl (cL, n, .inr (.inl px))), (v0, .inl (cL, n, .inr (.inl pv)))]) [0, 1, 2, 3, 4, 5, 6, 7] (by decide) rfl
    refine gc_l (w1 := fun (u : Unit) => [(sp, .inr (2, [.int (nI n), .ref ak, .ref ac, .ref aq, .ref af])), (ak, .inl (cI, n, .inl zk)), (ac, .inl (cI, n, .inl zc)), (aq, .inl (cI, n, .inl zq)), (af, .inl (cI, n, .inl zf)), (m0, .inr (1, [.ref x0, .ref v0])), (x0, .inl (cL, n, .inr (.inl px))), (v0, .inl (cL, n, .inr (.inl pv)))]) (wc := [(sp, .inr (2, [.int (nI n), .ref ak, .ref ac, .ref aq, .ref af])), (ak, .inl (cI, n, .inl zk)), (ac, .inl (cI, n, .inl zc)), (aq, .inl (cI, n, .inl zq)), (af, .inl (cI, n, .inl zf)), (m0, .inr (1, [.ref x0, .ref v0])), (x0, .inl (cL, n, .inr (.inl px))), (v0, .inl (cL, n, .inr (.inl pv)))]) (wr := [(o, .inr (4, [.int (nI n), .ref sp, .ref m0, .ref m1, .ref m2, .ref m3, .ref wt, .ref hi, .int (nI tol), .int (nI tm), .int (nI fs), .int (nI sd), .int (nI rj), .long er]))]) hP hD hS hA [0, 1, 2, 3, 4, 5, 6, 7] [8] rfl rfl (by decide) (by decide) (va_runV (As := [.int (nI j), .ref m0]) (rest := []) ⟨hx, hb, hml, hown, hT⟩ (c_S_push l D cI cL cW cZ sp ak ac aq af n zk zc zq zf m0 x0 v0 px pv j H.size hj hn) (cwV 2 hT (good_V k_297 k_233 k_234 k_3 k_235) rfl rfl rfl (by decide +kernel) ⟨Nat.le_of_ble_eq_true rfl, Nat.le_of_ble_eq_true rfl⟩) (pre_V hPc hDc hK hN (ci := 2) rfl rfl) rfl rfl hl.1 rfl (lv_room (Nat.le_of_ble_eq_true rfl)) d_R_push_17 ⟨(Nat.le_of_ble_eq_true rfl), (Nat.le_of_ble_eq_true rfl)⟩) (fun r u H locs hw hP hD hS => ?_)
    try dsimp only at hw
    have hP : va_P D vwCl [(o, .inr (4, [.int (nI n), .ref sp, .ref m0, .ref m1, .ref m2, .ref m3, .ref wt, .ref hi, .int (nI tol), .int (nI tm), .int (nI fs), .int (nI sd), .int (nI rj), .long er])), (sp, .inr (2, [.int (nI n), .ref ak, .ref ac, .ref aq, .ref af])), (ak, .inl (cI, n, .inl zk)), (ac, .inl (cI, n, .inl zc)), (aq, .inl (cI, n, .inl zq)), (af, .inl (cI, n, .inl zf)), (m0, .inr (1, [.ref x0, .ref v0])), (x0, .inl (cL, n, .inr (.inl px))), (v0, .inl (cL, n, .inr (.inl pv)))] H := hP
    have hD : va_D A [(o, .inr (4, [.int (nI n), .ref sp, .ref m0, .ref m1, .ref m2, .ref m3, .ref wt, .ref hi, .int (nI tol), .int (nI tm), .int (nI fs), .int (nI sd), .int (nI rj), .long er])), (sp, .inr (2, [.int (nI n), .ref ak, .ref ac, .ref aq, .ref af])), (ak, .inl (cI, n, .inl zk)), (ac, .inl (cI, n, .inl zc)), (aq, .inl (cI, n, .inl zq)), (af, .inl (cI, n, .inl zf)), (m0, .inr (1, [.ref x0, .ref v0])), (x0, .inl (cL, n, .inr (.inl px))), (v0, .inl (cL, n, .inr (.inl pv)))] := hD
    subst hw
    refine lv_goto (tgt := 26) hx hb d_R_push_20 (by decide) ?_
    exact re_l (v := zPush n zk zc zq zf px pv j) () hx hb hr hlocks (by rw [zCpush, if_neg c5] <;> rw [nI_clamp (by omega)]) (hP.sub [0, 1, 2, 3, 4, 5, 6, 7, 8] rfl) hK (hD.sub [0, 1, 2, 3, 4, 5, 6, 7, 8] (by decide) rfl) hS d_R_push_26
set_option maxHeartbeats 4000000 in
set_option maxRecDepth 100000 in
theorem c_R_hit (l : Launch) (D : va_G) (cI cL cW cZ : ClassId) (o : Nat) (n : Nat) (sp : Nat) (m0 : Nat) (m1 : Nat) (m2 : Nat) (m3 : Nat) (wt : Nat) (hi : Nat) (tol : Nat) (tm : Nat) (fs : Nat) (sd : Nat) (rj : Nat) (er : Int64) (a1 : Nat) (a2 : Nat) (a3 : Nat) (ct : Nat) (f1 : Nat → Int32) (f2 : Nat → Int32) (f3 : Nat → Int32) (ia : Int32) (ib : Int32) (sz : Nat) (hn : n ≤ 4) (hc : ct < 2 ^ 30) : Met l y_R_hit w_R_hit ({ frames := 1, cells := 0, slots := 0, locals := 21 }) (va_Pc [.ref o, .int ia, .int ib] (gP D vwCl (tyv cI cL cW cZ) [(o, .inr (4, [.int (nI n), .ref sp, .ref m0, .ref m1, .ref m2, .ref m3, .ref wt, .ref hi, .int (nI tol), .int (nI tm), .int (nI fs), .int (nI sd), .int (nI rj), .long er])), (hi, .inr (0, [.ref a1, .ref a2, .ref a3, .int (nI ct)])), (a1, .inl (cI, 40, .inl f1)), (a2, .inl (cI, 40, .inl f2)), (a3, .inl (cI, 40, .inl f3))] sz)) (va_Qi (fun (r : Int32) (u : Unit) => r = zChit ct ia ib f1 f2 f3) (fun u t => gB D vwCl (tyv cI cL cW cZ) (va_A [(o, .inr (4, [.int (nI n), .ref sp, .ref m0, .ref m1, .ref m2, .ref m3, .ref wt, .ref hi, .int (nI tol), .int (nI tm), .int (nI fs), .int (nI sd), .int (nI rj), .long er])), (hi, .inr (0, [.ref a1, .ref a2, .ref a3, .int (nI ct)])), (a1, .inl (cI, 40, .inl f1)), (a2, .inl (cI, 40, .inl f2)), (a3, .inl (cI, 40, .inl f3))] sz) [(o, .inr (4, [.int (nI n), .ref sp, .ref m0, .ref m1, .ref m2, .ref m3, .ref wt, .ref hi, .int (nI tol), .int (nI tm), .int (nI fs), .int (nI sd), .int (nI rj), .long er])), (hi, .inr (0, [.ref a1, .ref a2, .ref a3, .int (nI ct)])), (a1, .inl (cI, 40, .inl f1)), (a2, .inl (cI, 40, .inl f2)), (a3, .inl (cI, 40, .inl f3))] t) (va_A [(o, .inr (4, [.int (nI n), .ref sp, .ref m0, .ref m1, .ref m2, .ref m3, .ref wt, .ref hi, .int (nI tol), .int (nI tm), .int (nI fs), .int (nI sd), .int (nI rj), .long er])), (hi, .inr (0, [.ref a1, .ref a2, .ref a3, .int (nI ct)])), (a1, .inl (cI, 40, .inl f1)), (a2, .inl (cI, 40, .inl f2)), (a3, .inl (cI, 40, .inl f3))] sz)) 0 0 (va_A [(o, .inr (4, [.int (nI n), .ref sp, .ref m0, .ref m1, .ref m2, .ref m3, .ref wt, .ref hi, .int (nI tol), .int (nI tm), .int (nI fs), .int (nI sd), .int (nI rj), .long er])), (hi, .inr (0, [.ref a1, .ref a2, .ref a3, .int (nI ct)])), (a1, .inl (cI, 40, .inl f1)), (a2, .inl (cI, 40, .inl f2)), (a3, .inl (cI, 40, .inl f3))] sz) := by
  refine met_go (cc := prog_1_method_12_code) (maxL := 3) (ret := (some .int)) (QA := fun A => va_Qi (fun (r : Int32) (u : Unit) => r = zChit ct ia ib f1 f2 f3) (fun u t => gB D vwCl (tyv cI cL cW cZ) A [(o, .inr (4, [.int (nI n), .ref sp, .ref m0, .ref m1, .ref m2, .ref m3, .ref wt, .ref hi, .int (nI tol), .int (nI tm), .int (nI fs), .int (nI sd), .int (nI rj), .long er])), (hi, .inr (0, [.ref a1, .ref a2, .ref a3, .int (nI ct)])), (a1, .inl (cI, 40, .inl f1)), (a2, .inl (cI, 40, .inl f2)), (a3, .inl (cI, 40, .inl f3))] t) A) (by decide) (Nat.le_of_ble_eq_true rfl) ?_
  intro p e s m below meth c A ls hx hb hr hml hT hN hown hlocks hin hl hP hK hD hA hS
  have hl : lv_has ls 3 [(0, .ref o), (1, .int ia), (2, .int ib)] := hl
  refine lv_aload_n hx hb d_R_hit_0 rfl (lv_at hl 0 rfl) ?_
  refine va_get (D := D) (ci := 4) (v := .ref hi) (C := "OscillatorRow") (T := T_R) (N := 14) hx hb hT i_R hown hK hP 0 rfl rfl 7 (by decide) (hT _ k_121) (fun _ h9 => h9) rfl d_R_hit_1 ?_
  refine lv_iload_n hx hb d_R_hit_4 rfl (lv_at hl 1 rfl) ?_
  have hPc := hP.sub (ws' := [(hi, .inr (0, [.ref a1, .ref a2, .ref a3, .int (nI ct)])), (a1, .inl (cI, 40, .inl f1)), (a2, .inl (cI, 40, .inl f2)), (a3, .inl (cI, 40, .inl f3))]) [1, 2, 3, 4] rfl
  have hDc := hD.sub (ws' := [(hi, .inr (0, [.ref a1, .ref a2, .ref a3, .int (nI ct)])), (a1, .inl (cI, 40, .inl f1)), (a2, .inl (cI, 40, .inl f2)), (a3, .inl (cI, 40, .inl f3))]) [1, 2, 3, 4] (by decide) rfl
  refine gc_i (w1 := fun (u : Unit) => [(hi, .inr (0, [.ref a1, .ref a2, .ref a3, .int (nI ct)])), (a1, .inl (cI, 40, .inl f1)), (a2, .inl (cI, 40, .inl f2)), (a3, .inl (cI, 40, .inl f3))]) (wc := [(hi, .inr (0, [.ref a1, .ref a2, .ref a3, .int (nI ct)])), (a1, .inl (cI, 40, .inl f1)), (a2, .inl (cI, 40, .inl f2)), (a3, .inl (cI, 40, .inl f3))]) (wr := [(o, .inr (4, [.int (nI n), .ref sp, .ref m0, .ref m1, .ref m2, .ref m3, .ref wt, .ref hi, .int (nI tol), .int (nI tm), .int (nI fs), .int (nI sd), .int (nI rj), .long er]))]) hP hD hS hA [1, 2, 3, 4] [0] rfl rfl (by decide) (by decide) (va_runV (As := [.int ia]) (rest := []) ⟨hx, hb, hml, hown, hT⟩ (c_H_keeps l D cI cL cW cZ hi a1 a2 a3 ct f1 f2 f3 ia s.heap.size) (cwV 1 hT (good_V k_303 k_304 k_305 k_6 k_306) rfl rfl rfl (by decide +kernel) ⟨Nat.le_of_ble_eq_true rfl, Nat.le_of_ble_eq_true rfl⟩) (pre_V hPc hDc hK hN (ci := 0) rfl rfl) rfl rfl hl.1 rfl (lv_room (Nat.le_of_ble_eq_true rfl)) d_R_hit_5 ⟨(Nat.le_of_ble_eq_true rfl), (Nat.le_of_ble_eq_true rfl)⟩) (fun r u H locs hw hP hD hS => ?_)
  try dsimp only at hw
  have hP : va_P D vwCl [(o, .inr (4, [.int (nI n), .ref sp, .ref m0, .ref m1, .ref m2, .ref m3, .ref wt, .ref hi, .int (nI tol), .int (nI tm), .int (nI fs), .int (nI sd), .int (nI rj), .long er])), (hi, .inr (0, [.ref a1, .ref a2, .ref a3, .int (nI ct)])), (a1, .inl (cI, 40, .inl f1)), (a2, .inl (cI, 40, .inl f2)), (a3, .inl (cI, 40, .inl f3))] H := hP
  have hD : va_D A [(o, .inr (4, [.int (nI n), .ref sp, .ref m0, .ref m1, .ref m2, .ref m3, .ref wt, .ref hi, .int (nI tol), .int (nI tm), .int (nI fs), .int (nI sd), .int (nI rj), .long er])), (hi, .inr (0, [.ref a1, .ref a2, .ref a3, .int (nI ct)])), (a1, .inl (cI, 40, .inl f1)), (a2, .inl (cI, 40, .inl f2)), (a3, .inl (cI, 40, .inl f3))] := hD
  subst hw
  refine lv_if_ne (tgt := 14) hx hb d_R_hit_8 (by decide) (fun c8 => ?_) (fun c8 => ?_)
  · obtain ⟨j, hj, hjc, rfl⟩ := zKeep_ix c8 hc
    refine lv_iload_n hx hb d_R_hit_14 rfl (lv_at hl 2 rfl) ?_
    by_cases k15_0 : ib = 0
    · refine lv_tableIn (tgt := 40) hx hb d_R_hit_15 (by rw [k15_0]; decide) (by rw [k15_0]; decide) (by rw [k15_0]; rfl) (by decide) ?_
      refine lv_aload_n hx hb d_R_hit_40 rfl (lv_at hl 0 rfl) ?_
      refine va_get (D := D) (ci := 4) (v := .ref hi) (C := "OscillatorRow") (T := T_R) (N := 14) hx hb hT i_R hown hK hP 0 rfl rfl 7 (by decide) (hT _ k_121) (fun _ h9 => h9) rfl d_R_hit_41 ?_
      refine va_getN (D := D) (ci := 0) (v := .ref a1) (C := "OscillatorRow$Hits") (T := T_H) (N := 4) hx hb hT i_H hown hK hP 1 rfl rfl 0 (by decide) (va_Nw.use rfl (hN _ j_98)) (fun _ h9 => h9) rfl d_R_hit_44 ?_
      refine lv_iload_n hx hb d_R_hit_47 rfl (lv_at hl 1 rfl) ?_
      refine ra_iald (j := j) hx hb hK hP 2 0 rfl rfl (by omega) (by omega) d_R_hit_48 ?_
      exact re_i (v := f1 j) () hx hb hr hlocks (by rw [zChit, if_pos c8, if_pos k15_0] <;> rw [nI_clamp (by omega)]) (hP.sub [0, 1, 2, 3, 4] rfl) hK (hD.sub [0, 1, 2, 3, 4] (by decide) rfl) hS d_R_hit_49
    by_cases k15_1 : ib = 1
    · refine lv_tableIn (tgt := 50) hx hb d_R_hit_15 (by rw [k15_1]; decide) (by rw [k15_1]; decide) (by rw [k15_1]; rfl) (by decide) ?_
      refine lv_aload_n hx hb d_R_hit_50 rfl (lv_at hl 0 rfl) ?_
      refine va_get (D := D) (ci := 4) (v := .ref hi) (C := "OscillatorRow") (T := T_R) (N := 14) hx hb hT i_R hown hK hP 0 rfl rfl 7 (by decide) (hT _ k_121) (fun _ h9 => h9) rfl d_R_hit_51 ?_
      refine va_getN (D := D) (ci := 0) (v := .ref a2) (C := "OscillatorRow$Hits") (T := T_H) (N := 4) hx hb hT i_H hown hK hP 1 rfl rfl 1 (by decide) (va_Nw.use rfl (hN _ j_100)) (fun _ h9 => h9) rfl d_R_hit_54 ?_
      refine lv_iload_n hx hb d_R_hit_57 rfl (lv_at hl 1 rfl) ?_
      refine ra_iald (j := j) hx hb hK hP 3 0 rfl rfl (by omega) (by omega) d_R_hit_58 ?_
      exact re_i (v := f2 j) () hx hb hr hlocks (by rw [zChit, if_pos c8, if_neg k15_0, if_pos k15_1] <;> rw [nI_clamp (by omega)]) (hP.sub [0, 1, 2, 3, 4] rfl) hK (hD.sub [0, 1, 2, 3, 4] (by decide) rfl) hS d_R_hit_59
    by_cases k15_2 : ib = 2
    · refine lv_tableIn (tgt := 60) hx hb d_R_hit_15 (by rw [k15_2]; decide) (by rw [k15_2]; decide) (by rw [k15_2]; rfl) (by decide) ?_
      refine lv_aload_n hx hb d_R_hit_60 rfl (lv_at hl 0 rfl) ?_
      refine va_get (D := D) (ci := 4) (v := .ref hi) (C := "OscillatorRow") (T := T_R) (N := 14) hx hb hT i_R hown hK hP 0 rfl rfl 7 (by decide) (hT _ k_121) (fun _ h9 => h9) rfl d_R_hit_61 ?_
      refine va_getN (D := D) (ci := 0) (v := .ref a3) (C := "OscillatorRow$Hits") (T := T_H) (N := 4) hx hb hT i_H hown hK hP 1 rfl rfl 2 (by decide) (va_Nw.use rfl (hN _ j_102)) (fun _ h9 => h9) rfl d_R_hit_64 ?_
      refine lv_iload_n hx hb d_R_hit_67 rfl (lv_at hl 1 rfl) ?_
      refine ra_iald (j := j) hx hb hK hP 4 0 rfl rfl (by omega) (by omega) d_R_hit_68 ?_
      exact re_i (v := f3 j) () hx hb hr hlocks (by rw [zChit, if_pos c8, if_neg k15_0, if_neg k15_1, if_pos k15_2] <;> rw [nI_clamp (by omega)]) (hP.sub [0, 1, 2, 3, 4] rfl) hK (hD.sub [0, 1, 2, 3, 4] (by decide) rfl) hS d_R_hit_69
    refine lv_tableOut (tgt := 70) hx hb d_R_hit_15 (tb_out (fun z z1 z2 ez => ?_)) (by decide) ?_
    · rcases (show z = 0 ∨ z = 1 ∨ z = 2 by omega) with rfl | rfl | rfl
      · exact k15_0 (Int32.toInt_inj.mp (ez.trans (by decide)))
      · exact k15_1 (Int32.toInt_inj.mp (ez.trans (by decide)))
      · exact k15_2 (Int32.toInt_inj.mp (ez.trans (by decide)))
    refine lv_ldc (v := (-2000000000)) hx hb hown (hT _ k_307) d_R_hit_70 ?_
    exact re_i (v := (-2000000000)) () hx hb hr hlocks (by rw [zChit, if_pos c8, if_neg k15_0, if_neg k15_1, if_neg k15_2] <;> rw [nI_clamp (by omega)]) (hP.sub [0, 1, 2, 3, 4] rfl) hK (hD.sub [0, 1, 2, 3, 4] (by decide) rfl) hS d_R_hit_72
  · refine lv_ldc (v := (-2000000000)) hx hb hown (hT _ k_307) d_R_hit_11 ?_
    exact re_i (v := (-2000000000)) () hx hb hr hlocks (by rw [zChit, if_neg (fun q => q c8)] <;> rw [nI_clamp (by omega)]) (hP.sub [0, 1, 2, 3, 4] rfl) hK (hD.sub [0, 1, 2, 3, 4] (by decide) rfl) hS d_R_hit_13
set_option maxHeartbeats 4000000 in
set_option maxRecDepth 100000 in
theorem c_R_clear (l : Launch) (D : va_G) (cI cL cW cZ : ClassId) (o : Nat) (n : Nat) (sp : Nat) (m0 : Nat) (m1 : Nat) (m2 : Nat) (m3 : Nat) (wt : Nat) (hi : Nat) (tol : Nat) (tm : Nat) (fs : Nat) (sd : Nat) (rj : Nat) (er : Int64) (a1 : Nat) (a2 : Nat) (a3 : Nat) (ct : Nat) (f1 : Nat → Int32) (f2 : Nat → Int32) (f3 : Nat → Int32) (sz : Nat) (hn : n ≤ 4) : Met l y_R_clear w_R_clear ({ frames := 0, cells := 0, slots := 0, locals := 0 }) (va_Pc [.ref o] (gP D vwCl (tyv cI cL cW cZ) [(o, .inr (4, [.int (nI n), .ref sp, .ref m0, .ref m1, .ref m2, .ref m3, .ref wt, .ref hi, .int (nI tol), .int (nI tm), .int (nI fs), .int (nI sd), .int (nI rj), .long er])), (hi, .inr (0, [.ref a1, .ref a2, .ref a3, .int (nI ct)])), (a1, .inl (cI, 40, .inl f1)), (a2, .inl (cI, 40, .inl f2)), (a3, .inl (cI, 40, .inl f3))] sz)) (va_Qi (fun (r : Int32) (u : Unit) => r = nI ct) (fun u t => gB D vwCl (tyv cI cL cW cZ) (va_A [(o, .inr (4, [.int (nI n), .ref sp, .ref m0, .ref m1, .ref m2, .ref m3, .ref wt, .ref hi, .int (nI tol), .int (nI tm), .int (nI fs), .int (nI sd), .int (nI rj), .long er])), (hi, .inr (0, [.ref a1, .ref a2, .ref a3, .int (nI ct)])), (a1, .inl (cI, 40, .inl f1)), (a2, .inl (cI, 40, .inl f2)), (a3, .inl (cI, 40, .inl f3))] sz) [(o, .inr (4, [.int (nI n), .ref sp, .ref m0, .ref m1, .ref m2, .ref m3, .ref wt, .ref hi, .int (nI tol), .int (nI tm), .int (nI fs), .int (nI sd), .int (nI rj), .long er])), (hi, .inr (0, [.ref a1, .ref a2, .ref a3, .int (nI 0)])), (a1, .inl (cI, 40, .inl f1)), (a2, .inl (cI, 40, .inl f2)), (a3, .inl (cI, 40, .inl f3))] t) (va_A [(o, .inr (4, [.int (nI n), .ref sp, .ref m0, .ref m1, .ref m2, .ref m3, .ref wt, .ref hi, .int (nI tol), .int (nI tm), .int (nI fs), .int (nI sd), .int (nI rj), .long er])), (hi, .inr (0, [.ref a1, .ref a2, .ref a3, .int (nI ct)])), (a1, .inl (cI, 40, .inl f1)), (a2, .inl (cI, 40, .inl f2)), (a3, .inl (cI, 40, .inl f3))] sz)) 0 0 (va_A [(o, .inr (4, [.int (nI n), .ref sp, .ref m0, .ref m1, .ref m2, .ref m3, .ref wt, .ref hi, .int (nI tol), .int (nI tm), .int (nI fs), .int (nI sd), .int (nI rj), .long er])), (hi, .inr (0, [.ref a1, .ref a2, .ref a3, .int (nI ct)])), (a1, .inl (cI, 40, .inl f1)), (a2, .inl (cI, 40, .inl f2)), (a3, .inl (cI, 40, .inl f3))] sz) := by
  refine met_go (cc := prog_1_method_13_code) (maxL := 2) (ret := (some .int)) (QA := fun A => va_Qi (fun (r : Int32) (u : Unit) => r = nI ct) (fun u t => gB D vwCl (tyv cI cL cW cZ) A [(o, .inr (4, [.int (nI n), .ref sp, .ref m0, .ref m1, .ref m2, .ref m3, .ref wt, .ref hi, .int (nI tol), .int (nI tm), .int (nI fs), .int (nI sd), .int (nI rj), .long er])), (hi, .inr (0, [.ref a1, .ref a2, .ref a3, .int (nI 0)])), (a1, .inl (cI, 40, .inl f1)), (a2, .inl (cI, 40, .inl f2)), (a3, .inl (cI, 40, .inl f3))] t) A) (by decide) (Nat.le_of_ble_eq_true rfl) ?_
  intro p e s m below meth c A ls hx hb hr hml hT hN hown hlocks hin hl hP hK hD hA hS
  have hl : lv_has ls 2 [(0, .ref o)] := hl
  refine lv_aload_n hx hb d_R_clear_0 rfl (lv_at hl 0 rfl) ?_
  refine va_get (D := D) (ci := 4) (v := .ref hi) (C := "OscillatorRow") (T := T_R) (N := 14) hx hb hT i_R hown hK hP 0 rfl rfl 7 (by decide) (hT _ k_121) (fun _ h9 => h9) rfl d_R_clear_1 ?_
  refine va_getN (D := D) (ci := 0) (v := .int (nI ct)) (C := "OscillatorRow$Hits") (T := T_H) (N := 4) hx hb hT i_H hown hK hP 1 rfl rfl 3 (by decide) (va_Nw.use rfl (hN _ j_104)) (fun _ h9 => h9) rfl d_R_clear_4 ?_
  refine lv_istore_n (lv' := [(1, .int (nI ct)), (0, .ref o)]) hx hb d_R_clear_7 rfl hl (by decide) rfl (fun ls hl => ?_)
  refine lv_aload_n hx hb d_R_clear_8 rfl (lv_at hl 1 rfl) ?_
  refine va_get (D := D) (ci := 4) (v := .ref hi) (C := "OscillatorRow") (T := T_R) (N := 14) hx hb hT i_R hown hK hP 0 rfl rfl 7 (by decide) (hT _ k_121) (fun _ h9 => h9) rfl d_R_clear_9 ?_
  refine lv_iconst (v := nI 0) hx hb d_R_clear_12 (by decide) ?_
  refine va_putN (D := D) (ci := 0) (v := .int (nI 0)) (ty := (.int)) (C := "OscillatorRow$Hits") (T := T_H) (N := 4) hx hb hT i_H t_H t_H_ok n_H_ok hown hK hP hD hS 1 rfl rfl 3 (by decide) (va_Nw.use rfl (hN _ j_104)) (fun _ h9 => h9) rfl (by decide +kernel) rfl rfl (Nat.le_of_ble_eq_true rfl) d_R_clear_13 (fun H locs hP hD hS => ?_)
  have hP : va_P D vwCl [(o, .inr (4, [.int (nI n), .ref sp, .ref m0, .ref m1, .ref m2, .ref m3, .ref wt, .ref hi, .int (nI tol), .int (nI tm), .int (nI fs), .int (nI sd), .int (nI rj), .long er])), (hi, .inr (0, [.ref a1, .ref a2, .ref a3, .int (nI 0)])), (a1, .inl (cI, 40, .inl f1)), (a2, .inl (cI, 40, .inl f2)), (a3, .inl (cI, 40, .inl f3))] H := hP
  have hD : va_D A [(o, .inr (4, [.int (nI n), .ref sp, .ref m0, .ref m1, .ref m2, .ref m3, .ref wt, .ref hi, .int (nI tol), .int (nI tm), .int (nI fs), .int (nI sd), .int (nI rj), .long er])), (hi, .inr (0, [.ref a1, .ref a2, .ref a3, .int (nI 0)])), (a1, .inl (cI, 40, .inl f1)), (a2, .inl (cI, 40, .inl f2)), (a3, .inl (cI, 40, .inl f3))] := hD
  refine lv_iload_n hx hb d_R_clear_16 rfl (lv_at hl 0 rfl) ?_
  exact re_i (v := nI ct) () hx hb hr hlocks rfl (hP.sub [0, 1, 2, 3, 4] rfl) hK (hD.sub [0, 1, 2, 3, 4] (by decide) rfl) hS d_R_clear_17
set_option maxHeartbeats 4000000 in
set_option maxRecDepth 100000 in
theorem c_R_fits (l : Launch) (D : va_G) (cI cL cW cZ : ClassId) (o : Nat) (n : Nat) (sp : Nat) (m0 : Nat) (m1 : Nat) (m2 : Nat) (m3 : Nat) (wt : Nat) (hi : Nat) (tol : Nat) (tm : Nat) (fs : Nat) (sd : Nat) (rj : Nat) (er : Int64) (tk : Int32) (lf : Int32) (sz : Nat) : Met l y_R_fits w_R_fits ({ frames := 0, cells := 0, slots := 0, locals := 0 }) (va_Pc [.ref o, .int tk, .int lf] (gP D vwCl (tyv cI cL cW cZ) [(o, .inr (4, [.int (nI n), .ref sp, .ref m0, .ref m1, .ref m2, .ref m3, .ref wt, .ref hi, .int (nI tol), .int (nI tm), .int (nI fs), .int (nI sd), .int (nI rj), .long er]))] sz)) (va_Qi (fun (r : Int32) (u : Unit) => r = zFits (nI tm) tk lf) (fun u t => gB D vwCl (tyv cI cL cW cZ) (va_A [(o, .inr (4, [.int (nI n), .ref sp, .ref m0, .ref m1, .ref m2, .ref m3, .ref wt, .ref hi, .int (nI tol), .int (nI tm), .int (nI fs), .int (nI sd), .int (nI rj), .long er]))] sz) [(o, .inr (4, [.int (nI n), .ref sp, .ref m0, .ref m1, .ref m2, .ref m3, .ref wt, .ref hi, .int (nI tol), .int (nI tm), .int (nI fs), .int (nI sd), .int (nI rj), .long er]))] t) (va_A [(o, .inr (4, [.int (nI n), .ref sp, .ref m0, .ref m1, .ref m2, .ref m3, .ref wt, .ref hi, .int (nI tol), .int (nI tm), .int (nI fs), .int (nI sd), .int (nI rj), .long er]))] sz)) 0 0 (va_A [(o, .inr (4, [.int (nI n), .ref sp, .ref m0, .ref m1, .ref m2, .ref m3, .ref wt, .ref hi, .int (nI tol), .int (nI tm), .int (nI fs), .int (nI sd), .int (nI rj), .long er]))] sz) := by
  refine met_go (cc := prog_1_method_21_code) (maxL := 3) (ret := (some .boolean)) (QA := fun A => va_Qi (fun (r : Int32) (u : Unit) => r = zFits (nI tm) tk lf) (fun u t => gB D vwCl (tyv cI cL cW cZ) A [(o, .inr (4, [.int (nI n), .ref sp, .ref m0, .ref m1, .ref m2, .ref m3, .ref wt, .ref hi, .int (nI tol), .int (nI tm), .int (nI fs), .int (nI sd), .int (nI rj), .long er]))] t) A) (by decide) (Nat.le_of_ble_eq_true rfl) ?_
  intro p e s m below meth c A ls hx hb hr hml hT hN hown hlocks hin hl hP hK hD hA hS
  have hl : lv_has ls 3 [(0, .ref o), (1, .int tk), (2, .int lf)] := hl
  refine lv_iload_n hx hb d_R_fits_0 rfl (lv_at hl 1 rfl) ?_
  refine lv_iload_n hx hb d_R_fits_1 rfl (lv_at hl 2 rfl) ?_
  refine lv_icmp_gt (tgt := 20) hx hb d_R_fits_2 (by decide) (fun c2 => ?_) (fun c2 => ?_)
  · refine lv_iconst (v := 0) hx hb d_R_fits_20 (by decide) ?_
    exact re_z (v := 0) () hx hb hr rfl hlocks (by rw [zFits, if_pos c2]) (hP.sub [0] rfl) hK (hD.sub [0] (by decide) rfl) hS d_R_fits_21
  · refine lv_aload_n hx hb d_R_fits_5 rfl (lv_at hl 0 rfl) ?_
    refine va_get (D := D) (ci := 4) (v := .int (nI tm)) (C := "OscillatorRow") (T := T_R) (N := 14) hx hb hT i_R hown hK hP 0 rfl rfl 9 (by decide) (hT _ k_123) (fun _ h9 => h9) rfl d_R_fits_6 ?_
    refine lv_iload_n hx hb d_R_fits_9 rfl (lv_at hl 1 rfl) ?_
    refine lv_iconst (v := 1) hx hb d_R_fits_10 (by decide) ?_
    refine lv_isub hx hb d_R_fits_11 ?_
    refine lv_iand hx hb d_R_fits_12 ?_
    refine lv_if_ne (tgt := 20) hx hb d_R_fits_13 (by decide) (fun c13 => ?_) (fun c13 => ?_)
    · refine lv_iconst (v := 0) hx hb d_R_fits_20 (by decide) ?_
      exact re_z (v := 0) () hx hb hr rfl hlocks (by rw [zFits, if_neg c2, if_pos c13]) (hP.sub [0] rfl) hK (hD.sub [0] (by decide) rfl) hS d_R_fits_21
    · refine lv_iconst (v := 1) hx hb d_R_fits_16 (by decide) ?_
      refine lv_goto (tgt := 21) hx hb d_R_fits_17 (by decide) ?_
      exact re_z (v := 1) () hx hb hr rfl hlocks (by rw [zFits, if_neg c2, if_neg (fun q => q c13)]) (hP.sub [0] rfl) hK (hD.sub [0] (by decide) rfl) hS d_R_fits_21
set_option maxHeartbeats 4000000 in
set_option maxRecDepth 100000 in
theorem c_R_fit (l : Launch) (D : va_G) (cI cL cW cZ : ClassId) (o : Nat) (n : Nat) (sp : Nat) (m0 : Nat) (m1 : Nat) (m2 : Nat) (m3 : Nat) (wt : Nat) (hi : Nat) (tol : Nat) (tm : Nat) (fs : Nat) (sd : Nat) (rj : Nat) (er : Int64) (lf : Int32) (sz : Nat) (hf : fs ≤ 8) : Met l y_R_fitFineness w_R_fitFineness ({ frames := 1, cells := 0, slots := 0, locals := 22 }) (va_Pc [.ref o, .int lf] (gP D vwCl (tyv cI cL cW cZ) [(o, .inr (4, [.int (nI n), .ref sp, .ref m0, .ref m1, .ref m2, .ref m3, .ref wt, .ref hi, .int (nI tol), .int (nI tm), .int (nI fs), .int (nI sd), .int (nI rj), .long er]))] sz)) (va_Qv (fun (u : Nat) => u = zFit (nI tm) lf (8 - fs) fs) (fun u t => gB D vwCl (tyv cI cL cW cZ) (va_A [(o, .inr (4, [.int (nI n), .ref sp, .ref m0, .ref m1, .ref m2, .ref m3, .ref wt, .ref hi, .int (nI tol), .int (nI tm), .int (nI fs), .int (nI sd), .int (nI rj), .long er]))] sz) [(o, .inr (4, [.int (nI n), .ref sp, .ref m0, .ref m1, .ref m2, .ref m3, .ref wt, .ref hi, .int (nI tol), .int (nI tm), .int (nI u), .int (nI sd), .int (nI rj), .long er]))] t) (va_A [(o, .inr (4, [.int (nI n), .ref sp, .ref m0, .ref m1, .ref m2, .ref m3, .ref wt, .ref hi, .int (nI tol), .int (nI tm), .int (nI fs), .int (nI sd), .int (nI rj), .long er]))] sz)) 0 0 (va_A [(o, .inr (4, [.int (nI n), .ref sp, .ref m0, .ref m1, .ref m2, .ref m3, .ref wt, .ref hi, .int (nI tol), .int (nI tm), .int (nI fs), .int (nI sd), .int (nI rj), .long er]))] sz) := by
  refine met_go (cc := prog_1_method_20_code) (maxL := 2) (ret := none) (QA := fun A => va_Qv (fun (u : Nat) => u = zFit (nI tm) lf (8 - fs) fs) (fun u t => gB D vwCl (tyv cI cL cW cZ) A [(o, .inr (4, [.int (nI n), .ref sp, .ref m0, .ref m1, .ref m2, .ref m3, .ref wt, .ref hi, .int (nI tol), .int (nI tm), .int (nI u), .int (nI sd), .int (nI rj), .long er]))] t) A) (by decide) (Nat.le_of_ble_eq_true rfl) ?_
  intro p e s m below meth c A ls hx hb hr hml hT hN hown hlocks hin hl hP hK hD hA hS
  have hl : lv_has ls 2 [(0, .ref o), (1, .int lf)] := hl
  refine wp_loop (α := Nat) (I := fun k x H locs ls => (x ≤ 8 ∧ 8 < x + k) ∧ (zFit (nI tm) lf (8 - x) x = zFit (nI tm) lf (8 - fs) fs) ∧ va_P D vwCl [(o, .inr (4, [.int (nI n), .ref sp, .ref m0, .ref m1, .ref m2, .ref m3, .ref wt, .ref hi, .int (nI tol), .int (nI tm), .int (nI x), .int (nI sd), .int (nI rj), .long er]))] H ∧ va_D A [(o, .inr (4, [.int (nI n), .ref sp, .ref m0, .ref m1, .ref m2, .ref m3, .ref wt, .ref hi, .int (nI tol), .int (nI tm), .int (nI x), .int (nI sd), .int (nI rj), .long er]))] ∧ va_S A s.heap H locs ∧ lv_has ls 2 [(0, .ref o), (1, .int lf)]) ?_ ?_ 9 fs ⟨(by omega), rfl, hP.sub [0] rfl, hD.sub [0] (by decide) rfl, hS, lv_sub hl [0, 1] rfl⟩
  · intro x H locs ls h; have h9 := h.1; (try dsimp only at h9); omega
  · intro k x H locs ls h ih
    obtain ⟨g, rfl⟩ : ∃ z, z = x := ⟨_, rfl⟩
    obtain ⟨hk, hz, hP, hD, hS, hl⟩ := h
    have hk : g ≤ 8 ∧ 8 < g + (k + 1) := hk
    have hz : zFit (nI tm) lf (8 - g) g = zFit (nI tm) lf (8 - fs) fs := hz
    have hP : va_P D vwCl [(o, .inr (4, [.int (nI n), .ref sp, .ref m0, .ref m1, .ref m2, .ref m3, .ref wt, .ref hi, .int (nI tol), .int (nI tm), .int (nI g), .int (nI sd), .int (nI rj), .long er]))] H := hP
    have hD : va_D A [(o, .inr (4, [.int (nI n), .ref sp, .ref m0, .ref m1, .ref m2, .ref m3, .ref wt, .ref hi, .int (nI tol), .int (nI tm), .int (nI g), .int (nI sd), .int (nI rj), .long er]))] := hD
    have hl : lv_has ls 2 [(0, .ref o), (1, .int lf)] := hl
    refine lv_aload_n hx hb d_R_fitFineness_0 rfl (lv_at hl 0 rfl) ?_
    refine va_get (D := D) (ci := 4) (v := .int (nI g)) (C := "OscillatorRow") (T := T_R) (N := 14) hx hb hT i_R hown hK hP 0 rfl rfl 10 (by decide) (hT _ k_124) (fun _ h9 => h9) rfl d_R_fitFineness_1 ?_
    refine lv_bipush (v := 8) hx hb d_R_fitFineness_4 (by decide) ?_
    refine lv_icmp_ge (tgt := 37) hx hb d_R_fitFineness_6 (by decide) (fun c6 => ?_) (fun c6 => ?_)
    · have c6 := nI_leM (a := 8) c6 (by omega) (by omega)
      exact re_v (g) hx hb hr hlocks (by rw [← hz]; exact (zFit_8 c6 (by omega)).symm) (hP.sub [0] rfl) hK (hD.sub [0] (by decide) rfl) hS d_R_fitFineness_37
    · have c6 := nI_nleM (a := 8) c6 (by omega) (by omega)
      refine lv_aload_n hx hb d_R_fitFineness_9 rfl (lv_at hl 0 rfl) ?_
      refine lv_aload_n hx hb d_R_fitFineness_10 rfl (lv_at hl 0 rfl) ?_
      refine va_get (D := D) (ci := 4) (v := .int (nI g)) (C := "OscillatorRow") (T := T_R) (N := 14) hx hb hT i_R hown hK hP 0 rfl rfl 10 (by decide) (hT _ k_124) (fun _ h9 => h9) rfl d_R_fitFineness_11 ?_
      have hPc := hP.sub (ws' := []) [] rfl
      have hDc := hD.sub (ws' := []) [] (by decide) rfl
      refine gc_i (w1 := fun (u : Unit) => []) (wc := []) (wr := [(o, .inr (4, [.int (nI n), .ref sp, .ref m0, .ref m1, .ref m2, .ref m3, .ref wt, .ref hi, .int (nI tol), .int (nI tm), .int (nI g), .int (nI sd), .int (nI rj), .long er]))]) hP hD hS hA [] [0] rfl rfl (by decide) (by decide) (va_runS (As := [.int (nI g)]) (rest := [.ref o]) ⟨hx, hb, hml, hown, hT⟩ (c_R_ticks l D cI cL cW cZ (nI g) H.size) (cwS 1 hT (good_S k_202 k_203 k_1 k_204) rfl rfl rfl (by decide +kernel) ⟨Nat.le_of_ble_eq_true rfl, Nat.le_of_ble_eq_true rfl⟩) (pre_S hPc hDc hK hN) rfl rfl hl.1 rfl (lv_room (Nat.le_of_ble_eq_true rfl)) d_R_fitFineness_14 ⟨(Nat.le_of_ble_eq_true rfl), (Nat.le_of_ble_eq_true rfl)⟩) (fun r u H locs hw hP hD hS => ?_)
      try dsimp only at hw
      have hP : va_P D vwCl [(o, .inr (4, [.int (nI n), .ref sp, .ref m0, .ref m1, .ref m2, .ref m3, .ref wt, .ref hi, .int (nI tol), .int (nI tm), .int (nI g), .int (nI sd), .int (nI rj), .long er]))] H := hP
      have hD : va_D A [(o, .inr (4, [.int (nI n), .ref sp, .ref m0, .ref m1, .ref m2, .ref m3, .ref wt, .ref hi, .int (nI tol), .int (nI tm), .int (nI g), .int (nI sd), .int (nI rj), .long er]))] := hD
      subst hw
      refine lv_iload_n hx hb d_R_fitFineness_17 rfl (lv_at hl 1 rfl) ?_
      have hPc := hP.sub (ws' := [(o, .inr (4, [.int (nI n), .ref sp, .ref m0, .ref m1, .ref m2, .ref m3, .ref wt, .ref hi, .int (nI tol), .int (nI tm), .int (nI g), .int (nI sd), .int (nI rj), .long er]))]) [0] rfl
      have hDc := hD.sub (ws' := [(o, .inr (4, [.int (nI n), .ref sp, .ref m0, .ref m1, .ref m2, .ref m3, .ref wt, .ref hi, .int (nI tol), .int (nI tm), .int (nI g), .int (nI sd), .int (nI rj), .long er]))]) [0] (by decide) rfl
      refine gc_i (w1 := fun (u : Unit) => [(o, .inr (4, [.int (nI n), .ref sp, .ref m0, .ref m1, .ref m2, .ref m3, .ref wt, .ref hi, .int (nI tol), .int (nI tm), .int (nI g), .int (nI sd), .int (nI rj), .long er]))]) (wc := [(o, .inr (4, [.int (nI n), .ref sp, .ref m0, .ref m1, .ref m2, .ref m3, .ref wt, .ref hi, .int (nI tol), .int (nI tm), .int (nI g), .int (nI sd), .int (nI rj), .long er]))]) (wr := []) hP hD hS hA [0] [] rfl rfl (by decide) (by decide) (va_runV (As := [.int (256 >>> ((nI g) &&& 31)), .int lf]) (rest := []) ⟨hx, hb, hml, hown, hT⟩ (c_R_fits l D cI cL cW cZ o n sp m0 m1 m2 m3 wt hi tol tm g sd rj er (256 >>> ((nI g) &&& 31)) lf H.size) (cwV 2 hT (good_V k_205 k_207 p_2 k_1 k_208) rfl rfl rfl (by decide +kernel) ⟨Nat.le_of_ble_eq_true rfl, Nat.le_of_ble_eq_true rfl⟩) (pre_V hPc hDc hK hN (ci := 4) rfl rfl) rfl rfl hl.1 rfl (lv_room (Nat.le_of_ble_eq_true rfl)) d_R_fitFineness_18 ⟨(Nat.le_of_ble_eq_true rfl), (Nat.le_of_ble_eq_true rfl)⟩) (fun r u H locs hw hP hD hS => ?_)
      try dsimp only at hw
      have hP : va_P D vwCl [(o, .inr (4, [.int (nI n), .ref sp, .ref m0, .ref m1, .ref m2, .ref m3, .ref wt, .ref hi, .int (nI tol), .int (nI tm), .int (nI g), .int (nI sd), .int (nI rj), .long er]))] H := hP
      have hD : va_D A [(o, .inr (4, [.int (nI n), .ref sp, .ref m0, .ref m1, .ref m2, .ref m3, .ref wt, .ref hi, .int (nI tol), .int (nI tm), .int (nI g), .int (nI sd), .int (nI rj), .long er]))] := hD
      subst hw
      refine lv_if_ne (tgt := 37) hx hb d_R_fitFineness_21 (by decide) (fun c21 => ?_) (fun c21 => ?_)
      · exact re_v (g) hx hb hr hlocks (by rw [← hz]; exact (zFit_stop c6 c21).symm) (hP.sub [0] rfl) hK (hD.sub [0] (by decide) rfl) hS d_R_fitFineness_37
      · refine lv_aload_n hx hb d_R_fitFineness_24 rfl (lv_at hl 0 rfl) ?_
        refine lv_dup hx hb d_R_fitFineness_25 rfl ?_
        refine va_get (D := D) (ci := 4) (v := .int (nI g)) (C := "OscillatorRow") (T := T_R) (N := 14) hx hb hT i_R hown hK hP 0 rfl rfl 10 (by decide) (hT _ k_124) (fun _ h9 => h9) rfl d_R_fitFineness_26 ?_
        refine lv_iconst (v := 1) hx hb d_R_fitFineness_29 (by decide) ?_
        refine lv_iadd hx hb d_R_fitFineness_30 ?_
        refine top_i (y := (nI (g + 1))) (nI_1 g) ?_
        refine va_put (D := D) (ci := 4) (v := .int (nI (g + 1))) (ty := (.int)) (C := "OscillatorRow") (T := T_R) (N := 14) hx hb hT i_R t_R t_R_ok n_R_ok hown hK hP hD hS 0 rfl rfl 10 (by decide) (hT _ k_124) (fun _ h9 => h9) rfl (by decide +kernel) rfl rfl (Nat.le_of_ble_eq_true rfl) d_R_fitFineness_31 (fun H locs hP hD hS => ?_)
        have hP : va_P D vwCl [(o, .inr (4, [.int (nI n), .ref sp, .ref m0, .ref m1, .ref m2, .ref m3, .ref wt, .ref hi, .int (nI tol), .int (nI tm), .int (nI (g + 1)), .int (nI sd), .int (nI rj), .long er]))] H := hP
        have hD : va_D A [(o, .inr (4, [.int (nI n), .ref sp, .ref m0, .ref m1, .ref m2, .ref m3, .ref wt, .ref hi, .int (nI tol), .int (nI tm), .int (nI (g + 1)), .int (nI sd), .int (nI rj), .long er]))] := hD
        refine lv_goto (tgt := 0) hx hb d_R_fitFineness_34 (by decide) ?_
        exact ih (g + 1) _ _ _ ⟨(by omega), (by rw [← hz]; exact (zFit_go c6 c21).symm), hP.sub [0] rfl, hD.sub [0] (by decide) rfl, hS, lv_sub hl [0, 1] rfl⟩
end
section
set_option maxHeartbeats 4000000 in
set_option maxRecDepth 100000 in
theorem c_R_wset (l : Launch) (D : va_G) (cI cL cW cZ : ClassId) (o : Nat) (n : Nat) (sp : Nat) (m0 : Nat) (m1 : Nat) (m2 : Nat) (m3 : Nat) (wt : Nat) (hi : Nat) (tol : Nat) (tm : Nat) (fs : Nat) (sd : Nat) (rj : Nat) (er : Int64) (wf : Nat → Option Nat) (w0 : Nat) (w1 : Nat) (w2 : Nat) (w3 : Nat) (wb : Nat → Nat) (wl : Nat → Int64) (wu : Nat → Int32) (wa : Nat → Int32) (sz : Nat) (hw0 : wf 0 = some w0) (hw1 : wf 1 = some w1) (hw2 : wf 2 = some w2) (hw3 : wf 3 = some w3) : Met l y_R_watchesSet w_R_watchesSet ({ frames := 1, cells := 0, slots := 0, locals := 20 }) (va_Pc [.ref o] (gP D vwCl (tyv cI cL cW cZ) [(o, .inr (4, [.int (nI n), .ref sp, .ref m0, .ref m1, .ref m2, .ref m3, .ref wt, .ref hi, .int (nI tol), .int (nI tm), .int (nI fs), .int (nI sd), .int (nI rj), .long er])), (wt, .inl (cW, 4, .inr (.inr (.inr (.inr wf))))), (w0, .inr (3, [.int (nI (wb 0)), .long (wl 0), .int (wu 0), .int (wa 0)])), (w1, .inr (3, [.int (nI (wb 1)), .long (wl 1), .int (wu 1), .int (wa 1)])), (w2, .inr (3, [.int (nI (wb 2)), .long (wl 2), .int (wu 2), .int (wa 2)])), (w3, .inr (3, [.int (nI (wb 3)), .long (wl 3), .int (wu 3), .int (wa 3)]))] sz)) (va_Qi (fun (r : Int32) (u : Unit) => r = zCnt wa) (fun u t => gB D vwCl (tyv cI cL cW cZ) (va_A [(o, .inr (4, [.int (nI n), .ref sp, .ref m0, .ref m1, .ref m2, .ref m3, .ref wt, .ref hi, .int (nI tol), .int (nI tm), .int (nI fs), .int (nI sd), .int (nI rj), .long er])), (wt, .inl (cW, 4, .inr (.inr (.inr (.inr wf))))), (w0, .inr (3, [.int (nI (wb 0)), .long (wl 0), .int (wu 0), .int (wa 0)])), (w1, .inr (3, [.int (nI (wb 1)), .long (wl 1), .int (wu 1), .int (wa 1)])), (w2, .inr (3, [.int (nI (wb 2)), .long (wl 2), .int (wu 2), .int (wa 2)])), (w3, .inr (3, [.int (nI (wb 3)), .long (wl 3), .int (wu 3), .int (wa 3)]))] sz) [(o, .inr (4, [.int (nI n), .ref sp, .ref m0, .ref m1, .ref m2, .ref m3, .ref wt, .ref hi, .int (nI tol), .int (nI tm), .int (nI fs), .int (nI sd), .int (nI rj), .long er])), (wt, .inl (cW, 4, .inr (.inr (.inr (.inr wf))))), (w0, .inr (3, [.int (nI (wb 0)), .long (wl 0), .int (wu 0), .int (wa 0)])), (w1, .inr (3, [.int (nI (wb 1)), .long (wl 1), .int (wu 1), .int (wa 1)])), (w2, .inr (3, [.int (nI (wb 2)), .long (wl 2), .int (wu 2), .int (wa 2)])), (w3, .inr (3, [.int (nI (wb 3)), .long (wl 3), .int (wu 3), .int (wa 3)]))] t) (va_A [(o, .inr (4, [.int (nI n), .ref sp, .ref m0, .ref m1, .ref m2, .ref m3, .ref wt, .ref hi, .int (nI tol), .int (nI tm), .int (nI fs), .int (nI sd), .int (nI rj), .long er])), (wt, .inl (cW, 4, .inr (.inr (.inr (.inr wf))))), (w0, .inr (3, [.int (nI (wb 0)), .long (wl 0), .int (wu 0), .int (wa 0)])), (w1, .inr (3, [.int (nI (wb 1)), .long (wl 1), .int (wu 1), .int (wa 1)])), (w2, .inr (3, [.int (nI (wb 2)), .long (wl 2), .int (wu 2), .int (wa 2)])), (w3, .inr (3, [.int (nI (wb 3)), .long (wl 3), .int (wu 3), .int (wa 3)]))] sz)) 0 0 (va_A [(o, .inr (4, [.int (nI n), .ref sp, .ref m0, .ref m1, .ref m2, .ref m3, .ref wt, .ref hi, .int (nI tol), .int (nI tm), .int (nI fs), .int (nI sd), .int (nI rj), .long er])), (wt, .inl (cW, 4, .inr (.inr (.inr (.inr wf))))), (w0, .inr (3, [.int (nI (wb 0)), .long (wl 0), .int (wu 0), .int (wa 0)])), (w1, .inr (3, [.int (nI (wb 1)), .long (wl 1), .int (wu 1), .int (wa 1)])), (w2, .inr (3, [.int (nI (wb 2)), .long (wl 2), .int (wu 2), .int (wa 2)])), (w3, .inr (3, [.int (nI (wb 3)), .long (wl 3), .int (wu 3), .int (wa 3)]))] sz) := by
  refine met_go (cc := prog_1_method_18_code) (maxL := 3) (ret := (some .int)) (QA := fun A => va_Qi (fun (r : Int32) (u : Unit) => r = zCnt wa) (fun u t => gB D vwCl (tyv cI cL cW cZ) A [(o, .inr (4, [.int (nI n), .ref sp, .ref m0, .ref m1, .ref m2, .ref m3, .ref wt, .ref hi, .int (nI tol), .int (nI tm), .int (nI fs), .int (nI sd), .int (nI rj), .long er])), (wt, .inl (cW, 4, .inr (.inr (.inr (.inr wf))))), (w0, .inr (3, [.int (nI (wb 0)), .long (wl 0), .int (wu 0), .int (wa 0)])), (w1, .inr (3, [.int (nI (wb 1)), .long (wl 1), .int (wu 1), .int (wa 1)])), (w2, .inr (3, [.int (nI (wb 2)), .long (wl 2), .int (wu 2), .int (wa 2)])), (w3, .inr (3, [.int (nI (wb 3)), .long (wl 3), .int (wu 3), .int (wa 3)]))] t) A) (by decide) (Nat.le_of_ble_eq_true rfl) ?_
  intro p e s m below meth c A ls hx hb hr hml hT hN hown hlocks hin hl hP hK hD hA hS
  have hl : lv_has ls 3 [(0, .ref o)] := hl
  refine lv_iconst (v := nI 0) hx hb d_R_watchesSet_0 (by decide) ?_
  refine lv_istore_n (lv' := [(1, .int (nI 0)), (0, .ref o)]) hx hb d_R_watchesSet_1 rfl hl (by decide) rfl (fun ls hl => ?_)
  refine lv_iconst (v := nI 0) hx hb d_R_watchesSet_2 (by decide) ?_
  refine lv_istore_n (lv' := [(2, .int (nI 0)), (1, .int (nI 0)), (0, .ref o)]) hx hb d_R_watchesSet_3 rfl hl (by decide) rfl (fun ls hl => ?_)
  refine lv_iload_n hx hb d_R_watchesSet_4 rfl (lv_at hl 0 rfl) ?_
  refine lv_iconst (v := 4) hx hb d_R_watchesSet_5 (by decide) ?_
  refine lv_icmp_ge (tgt := 30) hx hb d_R_watchesSet_6 (by decide) (fun c6 => ?_) (fun c6 => ?_)
  · exact absurd c6 (by decide)
  · refine lv_aload_n hx hb d_R_watchesSet_9 rfl (lv_at hl 2 rfl) ?_
    refine va_get (D := D) (ci := 4) (v := .ref wt) (C := "OscillatorRow") (T := T_R) (N := 14) hx hb hT i_R hown hK hP 0 rfl rfl 6 (by decide) (hT _ k_120) (fun _ h9 => h9) rfl d_R_watchesSet_10 ?_
    refine lv_iload_n hx hb d_R_watchesSet_13 rfl (lv_at hl 0 rfl) ?_
    refine ra_aald (j := 0) hx hb hK hP 1 2 rfl rfl (by omega) (by omega) d_R_watchesSet_14 ?_
    refine top_q hw0 ?_
    have hPc := hP.sub (ws' := [(w0, .inr (3, [.int (nI (wb 0)), .long (wl 0), .int (wu 0), .int (wa 0)]))]) [2] rfl
    have hDc := hD.sub (ws' := [(w0, .inr (3, [.int (nI (wb 0)), .long (wl 0), .int (wu 0), .int (wa 0)]))]) [2] (by decide) rfl
    refine gc_i (w1 := fun (u : Unit) => [(w0, .inr (3, [.int (nI (wb 0)), .long (wl 0), .int (wu 0), .int (wa 0)]))]) (wc := [(w0, .inr (3, [.int (nI (wb 0)), .long (wl 0), .int (wu 0), .int (wa 0)]))]) (wr := [(o, .inr (4, [.int (nI n), .ref sp, .ref m0, .ref m1, .ref m2, .ref m3, .ref wt, .ref hi, .int (nI tol), .int (nI tm), .int (nI fs), .int (nI sd), .int (nI rj), .long er])), (wt, .inl (cW, 4, .inr (.inr (.inr (.inr wf))))), (w1, .inr (3, [.int (nI (wb 1)), .long (wl 1), .int (wu 1), .int (wa 1)])), (w2, .inr (3, [.int (nI (wb 2)), .long (wl 2), .int (wu 2), .int (wa 2)])), (w3, .inr (3, [.int (nI (wb 3)), .long (wl 3), .int (wu 3), .int (wa 3)]))]) hP hD hS hA [2] [0, 1, 3, 4, 5] rfl rfl (by decide) (by decide) (va_runV (As := []) (rest := []) ⟨hx, hb, hml, hown, hT⟩ (c_W_isset l D cI cL cW cZ w0 (nI (wb 0)) (wl 0) (wu 0) (wa 0) s.heap.size) (cwV 0 hT (good_V k_320 k_273 k_274 k_5 k_275) rfl rfl rfl (by decide +kernel) ⟨Nat.le_of_ble_eq_true rfl, Nat.le_of_ble_eq_true rfl⟩) (pre_V hPc hDc hK hN (ci := 3) rfl rfl) rfl rfl hl.1 rfl (lv_room (Nat.le_of_ble_eq_true rfl)) d_R_watchesSet_15 ⟨(Nat.le_of_ble_eq_true rfl), (Nat.le_of_ble_eq_true rfl)⟩) (fun r u H locs hw hP hD hS => ?_)
    try dsimp only at hw
    have hP : va_P D vwCl [(o, .inr (4, [.int (nI n), .ref sp, .ref m0, .ref m1, .ref m2, .ref m3, .ref wt, .ref hi, .int (nI tol), .int (nI tm), .int (nI fs), .int (nI sd), .int (nI rj), .long er])), (wt, .inl (cW, 4, .inr (.inr (.inr (.inr wf))))), (w1, .inr (3, [.int (nI (wb 1)), .long (wl 1), .int (wu 1), .int (wa 1)])), (w2, .inr (3, [.int (nI (wb 2)), .long (wl 2), .int (wu 2), .int (wa 2)])), (w3, .inr (3, [.int (nI (wb 3)), .long (wl 3), .int (wu 3), .int (wa 3)])), (w0, .inr (3, [.int (nI (wb 0)), .long (wl 0), .int (wu 0), .int (wa 0)]))] H := hP
    have hD : va_D A [(o, .inr (4, [.int (nI n), .ref sp, .ref m0, .ref m1, .ref m2, .ref m3, .ref wt, .ref hi, .int (nI tol), .int (nI tm), .int (nI fs), .int (nI sd), .int (nI rj), .long er])), (wt, .inl (cW, 4, .inr (.inr (.inr (.inr wf))))), (w1, .inr (3, [.int (nI (wb 1)), .long (wl 1), .int (wu 1), .int (wa 1)])), (w2, .inr (3, [.int (nI (wb 2)), .long (wl 2), .int (wu 2), .int (wa 2)])), (w3, .inr (3, [.int (nI (wb 3)), .long (wl 3), .int (wu 3), .int (wa 3)])), (w0, .inr (3, [.int (nI (wb 0)), .long (wl 0), .int (wu 0), .int (wa 0)]))] := hD
    subst hw
    refine lv_if_eq (tgt := 24) hx hb d_R_watchesSet_18 (by decide) (fun c18 => ?_) (fun c18 => ?_)
    · refine lv_iinc (v := (nI 1)) (lv' := [(2, .int (nI 1)), (1, .int (nI 0)), (0, .ref o)]) hx hb d_R_watchesSet_24 hl (k := 0) rfl (by decide) (by decide) rfl (fun ls hl => ?_)
      refine lv_goto (tgt := 4) hx hb d_R_watchesSet_27 (by decide) ?_
      refine lv_iload_n hx hb d_R_watchesSet_4 rfl (lv_at hl 0 rfl) ?_
      refine lv_iconst (v := 4) hx hb d_R_watchesSet_5 (by decide) ?_
      refine lv_icmp_ge (tgt := 30) hx hb d_R_watchesSet_6 (by decide) (fun c6_2 => ?_) (fun c6_2 => ?_)
      · exact absurd c6_2 (by decide)
      · refine lv_aload_n hx hb d_R_watchesSet_9 rfl (lv_at hl 2 rfl) ?_
        refine va_get (D := D) (ci := 4) (v := .ref wt) (C := "OscillatorRow") (T := T_R) (N := 14) hx hb hT i_R hown hK hP 0 rfl rfl 6 (by decide) (hT _ k_120) (fun _ h9 => h9) rfl d_R_watchesSet_10 ?_
        refine lv_iload_n hx hb d_R_watchesSet_13 rfl (lv_at hl 0 rfl) ?_
        refine ra_aald (j := 1) hx hb hK hP 1 2 rfl rfl (by omega) (by omega) d_R_watchesSet_14 ?_
        refine top_q hw1 ?_
        have hPc := hP.sub (ws' := [(w1, .inr (3, [.int (nI (wb 1)), .long (wl 1), .int (wu 1), .int (wa 1)]))]) [2] rfl
        have hDc := hD.sub (ws' := [(w1, .inr (3, [.int (nI (wb 1)), .long (wl 1), .int (wu 1), .int (wa 1)]))]) [2] (by decide) rfl
        refine gc_i (w1 := fun (u : Unit) => [(w1, .inr (3, [.int (nI (wb 1)), .long (wl 1), .int (wu 1), .int (wa 1)]))]) (wc := [(w1, .inr (3, [.int (nI (wb 1)), .long (wl 1), .int (wu 1), .int (wa 1)]))]) (wr := [(o, .inr (4, [.int (nI n), .ref sp, .ref m0, .ref m1, .ref m2, .ref m3, .ref wt, .ref hi, .int (nI tol), .int (nI tm), .int (nI fs), .int (nI sd), .int (nI rj), .long er])), (wt, .inl (cW, 4, .inr (.inr (.inr (.inr wf))))), (w2, .inr (3, [.int (nI (wb 2)), .long (wl 2), .int (wu 2), .int (wa 2)])), (w3, .inr (3, [.int (nI (wb 3)), .long (wl 3), .int (wu 3), .int (wa 3)])), (w0, .inr (3, [.int (nI (wb 0)), .long (wl 0), .int (wu 0), .int (wa 0)]))]) hP hD hS hA [2] [0, 1, 3, 4, 5] rfl rfl (by decide) (by decide) (va_runV (As := []) (rest := []) ⟨hx, hb, hml, hown, hT⟩ (c_W_isset l D cI cL cW cZ w1 (nI (wb 1)) (wl 1) (wu 1) (wa 1) H.size) (cwV 0 hT (good_V k_320 k_273 k_274 k_5 k_275) rfl rfl rfl (by decide +kernel) ⟨Nat.le_of_ble_eq_true rfl, Nat.le_of_ble_eq_true rfl⟩) (pre_V hPc hDc hK hN (ci := 3) rfl rfl) rfl rfl hl.1 rfl (lv_room (Nat.le_of_ble_eq_true rfl)) d_R_watchesSet_15 ⟨(Nat.le_of_ble_eq_true rfl), (Nat.le_of_ble_eq_true rfl)⟩) (fun r u H locs hw hP hD hS => ?_)
        try dsimp only at hw
        have hP : va_P D vwCl [(o, .inr (4, [.int (nI n), .ref sp, .ref m0, .ref m1, .ref m2, .ref m3, .ref wt, .ref hi, .int (nI tol), .int (nI tm), .int (nI fs), .int (nI sd), .int (nI rj), .long er])), (wt, .inl (cW, 4, .inr (.inr (.inr (.inr wf))))), (w2, .inr (3, [.int (nI (wb 2)), .long (wl 2), .int (wu 2), .int (wa 2)])), (w3, .inr (3, [.int (nI (wb 3)), .long (wl 3), .int (wu 3), .int (wa 3)])), (w0, .inr (3, [.int (nI (wb 0)), .long (wl 0), .int (wu 0), .int (wa 0)])), (w1, .inr (3, [.int (nI (wb 1)), .long (wl 1), .int (wu 1), .int (wa 1)]))] H := hP
        have hD : va_D A [(o, .inr (4, [.int (nI n), .ref sp, .ref m0, .ref m1, .ref m2, .ref m3, .ref wt, .ref hi, .int (nI tol), .int (nI tm), .int (nI fs), .int (nI sd), .int (nI rj), .long er])), (wt, .inl (cW, 4, .inr (.inr (.inr (.inr wf))))), (w2, .inr (3, [.int (nI (wb 2)), .long (wl 2), .int (wu 2), .int (wa 2)])), (w3, .inr (3, [.int (nI (wb 3)), .long (wl 3), .int (wu 3), .int (wa 3)])), (w0, .inr (3, [.int (nI (wb 0)), .long (wl 0), .int (wu 0), .int (wa 0)])), (w1, .inr (3, [.int (nI (wb 1)), .long (wl 1), .int (wu 1), .int (wa 1)]))] := hD
        subst hw
        refine lv_if_eq (tgt := 24) hx hb d_R_watchesSet_18 (by decide) (fun c18_2 => ?_) (fun c18_2 => ?_)
        · refine lv_iinc (v := (nI 2)) (lv' := [(2, .int (nI 2)), (1, .int (nI 0)), (0, .ref o)]) hx hb d_R_watchesSet_24 hl (k := 0) rfl (by decide) (by decide) rfl (fun ls hl => ?_)
          refine lv_goto (tgt := 4) hx hb d_R_watchesSet_27 (by decide) ?_
          refine lv_iload_n hx hb d_R_watchesSet_4 rfl (lv_at hl 0 rfl) ?_
          refine lv_iconst (v := 4) hx hb d_R_watchesSet_5 (by decide) ?_
          refine lv_icmp_ge (tgt := 30) hx hb d_R_watchesSet_6 (by decide) (fun c6_3 => ?_) (fun c6_3 => ?_)
          · exact absurd c6_3 (by decide)
          · refine lv_aload_n hx hb d_R_watchesSet_9 rfl (lv_at hl 2 rfl) ?_
            refine va_get (D := D) (ci := 4) (v := .ref wt) (C := "OscillatorRow") (T := T_R) (N := 14) hx hb hT i_R hown hK hP 0 rfl rfl 6 (by decide) (hT _ k_120) (fun _ h9 => h9) rfl d_R_watchesSet_10 ?_
            refine lv_iload_n hx hb d_R_watchesSet_13 rfl (lv_at hl 0 rfl) ?_
            refine ra_aald (j := 2) hx hb hK hP 1 2 rfl rfl (by omega) (by omega) d_R_watchesSet_14 ?_
            refine top_q hw2 ?_
            have hPc := hP.sub (ws' := [(w2, .inr (3, [.int (nI (wb 2)), .long (wl 2), .int (wu 2), .int (wa 2)]))]) [2] rfl
            have hDc := hD.sub (ws' := [(w2, .inr (3, [.int (nI (wb 2)), .long (wl 2), .int (wu 2), .int (wa 2)]))]) [2] (by decide) rfl
            refine gc_i (w1 := fun (u : Unit) => [(w2, .inr (3, [.int (nI (wb 2)), .long (wl 2), .int (wu 2), .int (wa 2)]))]) (wc := [(w2, .inr (3, [.int (nI (wb 2)), .long (wl 2), .int (wu 2), .int (wa 2)]))]) (wr := [(o, .inr (4, [.int (nI n), .ref sp, .ref m0, .ref m1, .ref m2, .ref m3, .ref wt, .ref hi, .int (nI tol), .int (nI tm), .int (nI fs), .int (nI sd), .int (nI rj), .long er])), (wt, .inl (cW, 4, .inr (.inr (.inr (.inr wf))))), (w3, .inr (3, [.int (nI (wb 3)), .long (wl 3), .int (wu 3), .int (wa 3)])), (w0, .inr (3, [.int (nI (wb 0)), .long (wl 0), .int (wu 0), .int (wa 0)])), (w1, .inr (3, [.int (nI (wb 1)), .long (wl 1), .int (wu 1), .int (wa 1)]))]) hP hD hS hA [2] [0, 1, 3, 4, 5] rfl rfl (by decide) (by decide) (va_runV (As := []) (rest := []) ⟨hx, hb, hml, hown, hT⟩ (c_W_isset l D cI cL cW cZ w2 (nI (wb 2)) (wl 2) (wu 2) (wa 2) H.size) (cwV 0 hT (good_V k_320 k_273 k_274 k_5 k_275) rfl rfl rfl (by decide +kernel) ⟨Nat.le_of_ble_eq_true rfl, Nat.le_of_ble_eq_true rfl⟩) (pre_V hPc hDc hK hN (ci := 3) rfl rfl) rfl rfl hl.1 rfl (lv_room (Nat.le_of_ble_eq_true rfl)) d_R_watchesSet_15 ⟨(Nat.le_of_ble_eq_true rfl), (Nat.le_of_ble_eq_true rfl)⟩) (fun r u H locs hw hP hD hS => ?_)
            try dsimp only at hw
            have hP : va_P D vwCl [(o, .inr (4, [.int (nI n), .ref sp, .ref m0, .ref m1, .ref m2, .ref m3, .ref wt, .ref hi, .int (nI tol), .int (nI tm), .int (nI fs), .int (nI sd), .int (nI rj), .long er])), (wt, .inl (cW, 4, .inr (.inr (.inr (.inr wf))))), (w3, .inr (3, [.int (nI (wb 3)), .long (wl 3), .int (wu 3), .int (wa 3)])), (w0, .inr (3, [.int (nI (wb 0)), .long (wl 0), .int (wu 0), .int (wa 0)])), (w1, .inr (3, [.int (nI (wb 1)), .long (wl 1), .int (wu 1), .int (wa 1)])), (w2, .inr (3, [.int (nI (wb 2)), .long (wl 2), .int (wu 2), .int (wa 2)]))] H := hP
            have hD : va_D A [(o, .inr (4, [.int (nI n), .ref sp, .ref m0, .ref m1, .ref m2, .ref m3, .ref wt, .ref hi, .int (nI tol), .int (nI tm), .int (nI fs), .int (nI sd), .int (nI rj), .long er])), (wt, .inl (cW, 4, .inr (.inr (.inr (.inr wf))))), (w3, .inr (3, [.int (nI (wb 3)), .long (wl 3), .int (wu 3), .int (wa 3)])), (w0, .inr (3, [.int (nI (wb 0)), .long (wl 0), .int (wu 0), .int (wa 0)])), (w1, .inr (3, [.int (nI (wb 1)), .long (wl 1), .int (wu 1), .int (wa 1)])), (w2, .inr (3, [.int (nI (wb 2)), .long (wl 2), .int (wu 2), .int (wa 2)]))] := hD
            subst hw
            refine lv_if_eq (tgt := 24) hx hb d_R_watchesSet_18 (by decide) (fun c18_3 => ?_) (fun c18_3 => ?_)
            · refine lv_iinc (v := (nI 3)) (lv' := [(2, .int (nI 3)), (1, .int (nI 0)), (0, .ref o)]) hx hb d_R_watchesSet_24 hl (k := 0) rfl (by decide) (by decide) rfl (fun ls hl => ?_)
              refine lv_goto (tgt := 4) hx hb d_R_watchesSet_27 (by decide) ?_
              refine lv_iload_n hx hb d_R_watchesSet_4 rfl (lv_at hl 0 rfl) ?_
              refine lv_iconst (v := 4) hx hb d_R_watchesSet_5 (by decide) ?_
              refine lv_icmp_ge (tgt := 30) hx hb d_R_watchesSet_6 (by decide) (fun c6_4 => ?_) (fun c6_4 => ?_)
              · exact absurd c6_4 (by decide)
              · refine lv_aload_n hx hb d_R_watchesSet_9 rfl (lv_at hl 2 rfl) ?_
                refine va_get (D := D) (ci := 4) (v := .ref wt) (C := "OscillatorRow") (T := T_R) (N := 14) hx hb hT i_R hown hK hP 0 rfl rfl 6 (by decide) (hT _ k_120) (fun _ h9 => h9) rfl d_R_watchesSet_10 ?_
                refine lv_iload_n hx hb d_R_watchesSet_13 rfl (lv_at hl 0 rfl) ?_
                refine ra_aald (j := 3) hx hb hK hP 1 2 rfl rfl (by omega) (by omega) d_R_watchesSet_14 ?_
                refine top_q hw3 ?_
                have hPc := hP.sub (ws' := [(w3, .inr (3, [.int (nI (wb 3)), .long (wl 3), .int (wu 3), .int (wa 3)]))]) [2] rfl
                have hDc := hD.sub (ws' := [(w3, .inr (3, [.int (nI (wb 3)), .long (wl 3), .int (wu 3), .int (wa 3)]))]) [2] (by decide) rfl
                refine gc_i (w1 := fun (u : Unit) => [(w3, .inr (3, [.int (nI (wb 3)), .long (wl 3), .int (wu 3), .int (wa 3)]))]) (wc := [(w3, .inr (3, [.int (nI (wb 3)), .long (wl 3), .int (wu 3), .int (wa 3)]))]) (wr := [(o, .inr (4, [.int (nI n), .ref sp, .ref m0, .ref m1, .ref m2, .ref m3, .ref wt, .ref hi, .int (nI tol), .int (nI tm), .int (nI fs), .int (nI sd), .int (nI rj), .long er])), (wt, .inl (cW, 4, .inr (.inr (.inr (.inr wf))))), (w0, .inr (3, [.int (nI (wb 0)), .long (wl 0), .int (wu 0), .int (wa 0)])), (w1, .inr (3, [.int (nI (wb 1)), .long (wl 1), .int (wu 1), .int (wa 1)])), (w2, .inr (3, [.int (nI (wb 2)), .long (wl 2), .int (wu 2), .int (wa 2)]))]) hP hD hS hA [2] [0, 1, 3, 4, 5] rfl rfl (by decide) (by decide) (va_runV (As := []) (rest := []) ⟨hx, hb, hml, hown, hT⟩ (c_W_isset l D cI cL cW cZ w3 (nI (wb 3)) (wl 3) (wu 3) (wa 3) H.size) (cwV 0 hT (good_V k_320 k_273 k_274 k_5 k_275) rfl rfl rfl (by decide +kernel) ⟨Nat.le_of_ble_eq_true rfl, Nat.le_of_ble_eq_true rfl⟩) (pre_V hPc hDc hK hN (ci := 3) rfl rfl) rfl rfl hl.1 rfl (lv_room (Nat.le_of_ble_eq_true rfl)) d_R_watchesSet_15 ⟨(Nat.le_of_ble_eq_true rfl), (Nat.le_of_ble_eq_true rfl)⟩) (fun r u H locs hw hP hD hS => ?_)
                try dsimp only at hw
                have hP : va_P D vwCl [(o, .inr (4, [.int (nI n), .ref sp, .ref m0, .ref m1, .ref m2, .ref m3, .ref wt, .ref hi, .int (nI tol), .int (nI tm), .int (nI fs), .int (nI sd), .int (nI rj), .long er])), (wt, .inl (cW, 4, .inr (.inr (.inr (.inr wf))))), (w0, .inr (3, [.int (nI (wb 0)), .long (wl 0), .int (wu 0), .int (wa 0)])), (w1, .inr (3, [.int (nI (wb 1)), .long (wl 1), .int (wu 1), .int (wa 1)])), (w2, .inr (3, [.int (nI (wb 2)), .long (wl 2), .int (wu 2), .int (wa 2)])), (w3, .inr (3, [.int (nI (wb 3)), .long (wl 3), .int (wu 3), .int (wa 3)]))] H := hP
                have hD : va_D A [(o, .inr (4, [.int (nI n), .ref sp, .ref m0, .ref m1, .ref m2, .ref m3, .ref wt, .ref hi, .int (nI tol), .int (nI tm), .int (nI fs), .int (nI sd), .int (nI rj), .long er])), (wt, .inl (cW, 4, .inr (.inr (.inr (.inr wf))))), (w0, .inr (3, [.int (nI (wb 0)), .long (wl 0), .int (wu 0), .int (wa 0)])), (w1, .inr (3, [.int (nI (wb 1)), .long (wl 1), .int (wu 1), .int (wa 1)])), (w2, .inr (3, [.int (nI (wb 2)), .long (wl 2), .int (wu 2), .int (wa 2)])), (w3, .inr (3, [.int (nI (wb 3)), .long (wl 3), .int (wu 3), .int (wa 3)]))] := hD
                subst hw
                refine lv_if_eq (tgt := 24) hx hb d_R_watchesSet_18 (by decide) (fun c18_4 => ?_) (fun c18_4 => ?_)
                · refine lv_iinc (v := (nI 4)) (lv' := [(2, .int (nI 4)), (1, .int (nI 0)), (0, .ref o)]) hx hb d_R_watchesSet_24 hl (k := 0) rfl (by decide) (by decide) rfl (fun ls hl => ?_)
                  refine lv_goto (tgt := 4) hx hb d_R_watchesSet_27 (by decide) ?_
                  refine lv_iload_n hx hb d_R_watchesSet_4 rfl (lv_at hl 0 rfl) ?_
                  refine lv_iconst (v := 4) hx hb d_R_watchesSet_5 (by decide) ?_
                  refine lv_icmp_ge (tgt := 30) hx hb d_R_watchesSet_6 (by decide) (fun c6_5 => ?_) (fun c6_5 => ?_)
                  · refine lv_iload_n hx hb d_R_watchesSet_30 rfl (lv_at hl 1 rfl) ?_
                    exact re_i (v := nI 0) () hx hb hr hlocks (by rw [zCnt, c18, c18_2, c18_3, c18_4]; decide) (hP.sub [0, 1, 2, 3, 4, 5] rfl) hK (hD.sub [0, 1, 2, 3, 4, 5] (by decide) rfl) hS d_R_watchesSet_31
                  · exact absurd c6_5 (by decide)
                · refine lv_iinc (v := (nI 1)) (lv' := [(1, .int (nI 1)), (2, .int (nI 3)), (0, .ref o)]) hx hb d_R_watchesSet_21 hl (k := 1) rfl (by decide) (by decide) rfl (fun ls hl => ?_)
                  refine lv_iinc (v := (nI 4)) (lv' := [(2, .int (nI 4)), (1, .int (nI 1)), (0, .ref o)]) hx hb d_R_watchesSet_24 hl (k := 1) rfl (by decide) (by decide) rfl (fun ls hl => ?_)
                  refine lv_goto (tgt := 4) hx hb d_R_watchesSet_27 (by decide) ?_
                  refine lv_iload_n hx hb d_R_watchesSet_4 rfl (lv_at hl 0 rfl) ?_
                  refine lv_iconst (v := 4) hx hb d_R_watchesSet_5 (by decide) ?_
                  refine lv_icmp_ge (tgt := 30) hx hb d_R_watchesSet_6 (by decide) (fun c6_5 => ?_) (fun c6_5 => ?_)
                  · refine lv_iload_n hx hb d_R_watchesSet_30 rfl (lv_at hl 1 rfl) ?_
                    exact re_i (v := nI 1) () hx hb hr hlocks (by rw [zCnt, c18, c18_2, c18_3, zSet_1 c18_4]; decide) (hP.sub [0, 1, 2, 3, 4, 5] rfl) hK (hD.sub [0, 1, 2, 3, 4, 5] (by decide) rfl) hS d_R_watchesSet_31
                  · exact absurd c6_5 (by decide)
            · refine lv_iinc (v := (nI 1)) (lv' := [(1, .int (nI 1)), (2, .int (nI 2)), (0, .ref o)]) hx hb d_R_watchesSet_21 hl (k := 1) rfl (by decide) (by decide) rfl (fun ls hl => ?_)
              refine lv_iinc (v := (nI 3)) (lv' := [(2, .int (nI 3)), (1, .int (nI 1)), (0, .ref o)]) hx hb d_R_watchesSet_24 hl (k := 1) rfl (by decide) (by decide) rfl (fun ls hl => ?_)
              refine lv_goto (tgt := 4) hx hb d_R_watchesSet_27 (by decide) ?_
              refine lv_iload_n hx hb d_R_watchesSet_4 rfl (lv_at hl 0 rfl) ?_
              refine lv_iconst (v := 4) hx hb d_R_watchesSet_5 (by decide) ?_
              refine lv_icmp_ge (tgt := 30) hx hb d_R_watchesSet_6 (by decide) (fun c6_4 => ?_) (fun c6_4 => ?_)
              · exact absurd c6_4 (by decide)
              · refine lv_aload_n hx hb d_R_watchesSet_9 rfl (lv_at hl 2 rfl) ?_
                refine va_get (D := D) (ci := 4) (v := .ref wt) (C := "OscillatorRow") (T := T_R) (N := 14) hx hb hT i_R hown hK hP 0 rfl rfl 6 (by decide) (hT _ k_120) (fun _ h9 => h9) rfl d_R_watchesSet_10 ?_
                refine lv_iload_n hx hb d_R_watchesSet_13 rfl (lv_at hl 0 rfl) ?_
                refine ra_aald (j := 3) hx hb hK hP 1 2 rfl rfl (by omega) (by omega) d_R_watchesSet_14 ?_
                refine top_q hw3 ?_
                have hPc := hP.sub (ws' := [(w3, .inr (3, [.int (nI (wb 3)), .long (wl 3), .int (wu 3), .int (wa 3)]))]) [2] rfl
                have hDc := hD.sub (ws' := [(w3, .inr (3, [.int (nI (wb 3)), .long (wl 3), .int (wu 3), .int (wa 3)]))]) [2] (by decide) rfl
                refine gc_i (w1 := fun (u : Unit) => [(w3, .inr (3, [.int (nI (wb 3)), .long (wl 3), .int (wu 3), .int (wa 3)]))]) (wc := [(w3, .inr (3, [.int (nI (wb 3)), .long (wl 3), .int (wu 3), .int (wa 3)]))]) (wr := [(o, .inr (4, [.int (nI n), .ref sp, .ref m0, .ref m1, .ref m2, .ref m3, .ref wt, .ref hi, .int (nI tol), .int (nI tm), .int (nI fs), .int (nI sd), .int (nI rj), .long er])), (wt, .inl (cW, 4, .inr (.inr (.inr (.inr wf))))), (w0, .inr (3, [.int (nI (wb 0)), .long (wl 0), .int (wu 0), .int (wa 0)])), (w1, .inr (3, [.int (nI (wb 1)), .long (wl 1), .int (wu 1), .int (wa 1)])), (w2, .inr (3, [.int (nI (wb 2)), .long (wl 2), .int (wu 2), .int (wa 2)]))]) hP hD hS hA [2] [0, 1, 3, 4, 5] rfl rfl (by decide) (by decide) (va_runV (As := []) (rest := []) ⟨hx, hb, hml, hown, hT⟩ (c_W_isset l D cI cL cW cZ w3 (nI (wb 3)) (wl 3) (wu 3) (wa 3) H.size) (cwV 0 hT (good_V k_320 k_273 k_274 k_5 k_275) rfl rfl rfl (by decide +kernel) ⟨Nat.le_of_ble_eq_true rfl, Nat.le_of_ble_eq_true rfl⟩) (pre_V hPc hDc hK hN (ci := 3) rfl rfl) rfl rfl hl.1 rfl (lv_room (Nat.le_of_ble_eq_true rfl)) d_R_watchesSet_15 ⟨(Nat.le_of_ble_eq_true rfl), (Nat.le_of_ble_eq_true rfl)⟩) (fun r u H locs hw hP hD hS => ?_)
                try dsimp only at hw
                have hP : va_P D vwCl [(o, .inr (4, [.int (nI n), .ref sp, .ref m0, .ref m1, .ref m2, .ref m3, .ref wt, .ref hi, .int (nI tol), .int (nI tm), .int (nI fs), .int (nI sd), .int (nI rj), .long er])), (wt, .inl (cW, 4, .inr (.inr (.inr (.inr wf))))), (w0, .inr (3, [.int (nI (wb 0)), .long (wl 0), .int (wu 0), .int (wa 0)])), (w1, .inr (3, [.int (nI (wb 1)), .long (wl 1), .int (wu 1), .int (wa 1)])), (w2, .inr (3, [.int (nI (wb 2)), .long (wl 2), .int (wu 2), .int (wa 2)])), (w3, .inr (3, [.int (nI (wb 3)), .long (wl 3), .int (wu 3), .int (wa 3)]))] H := hP
                have hD : va_D A [(o, .inr (4, [.int (nI n), .ref sp, .ref m0, .ref m1, .ref m2, .ref m3, .ref wt, .ref hi, .int (nI tol), .int (nI tm), .int (nI fs), .int (nI sd), .int (nI rj), .long er])), (wt, .inl (cW, 4, .inr (.inr (.inr (.inr wf))))), (w0, .inr (3, [.int (nI (wb 0)), .long (wl 0), .int (wu 0), .int (wa 0)])), (w1, .inr (3, [.int (nI (wb 1)), .long (wl 1), .int (wu 1), .int (wa 1)])), (w2, .inr (3, [.int (nI (wb 2)), .long (wl 2), .int (wu 2), .int (wa 2)])), (w3, .inr (3, [.int (nI (wb 3)), .long (wl 3), .int (wu 3), .int (wa 3)]))] := hD
                subst hw
                refine lv_if_eq (tgt := 24) hx hb d_R_watchesSet_18 (by decide) (fun c18_4 => ?_) (fun c18_4 => ?_)
                · refine lv_iinc (v := (nI 4)) (lv' := [(2, .int (nI 4)), (1, .int (nI 1)), (0, .ref o)]) hx hb d_R_watchesSet_24 hl (k := 0) rfl (by decide) (by decide) rfl (fun ls hl => ?_)
                  refine lv_goto (tgt := 4) hx hb d_R_watchesSet_27 (by decide) ?_
                  refine lv_iload_n hx hb d_R_watchesSet_4 rfl (lv_at hl 0 rfl) ?_
                  refine lv_iconst (v := 4) hx hb d_R_watchesSet_5 (by decide) ?_
                  refine lv_icmp_ge (tgt := 30) hx hb d_R_watchesSet_6 (by decide) (fun c6_5 => ?_) (fun c6_5 => ?_)
                  · refine lv_iload_n hx hb d_R_watchesSet_30 rfl (lv_at hl 1 rfl) ?_
                    exact re_i (v := nI 1) () hx hb hr hlocks (by rw [zCnt, c18, c18_2, zSet_1 c18_3, c18_4]; decide) (hP.sub [0, 1, 2, 3, 4, 5] rfl) hK (hD.sub [0, 1, 2, 3, 4, 5] (by decide) rfl) hS d_R_watchesSet_31
                  · exact absurd c6_5 (by decide)
                · refine lv_iinc (v := (nI 2)) (lv' := [(1, .int (nI 2)), (2, .int (nI 3)), (0, .ref o)]) hx hb d_R_watchesSet_21 hl (k := 1) rfl (by decide) (by decide) rfl (fun ls hl => ?_)
                  refine lv_iinc (v := (nI 4)) (lv' := [(2, .int (nI 4)), (1, .int (nI 2)), (0, .ref o)]) hx hb d_R_watchesSet_24 hl (k := 1) rfl (by decide) (by decide) rfl (fun ls hl => ?_)
                  refine lv_goto (tgt := 4) hx hb d_R_watchesSet_27 (by decide) ?_
                  refine lv_iload_n hx hb d_R_watchesSet_4 rfl (lv_at hl 0 rfl) ?_
                  refine lv_iconst (v := 4) hx hb d_R_watchesSet_5 (by decide) ?_
                  refine lv_icmp_ge (tgt := 30) hx hb d_R_watchesSet_6 (by decide) (fun c6_5 => ?_) (fun c6_5 => ?_)
                  · refine lv_iload_n hx hb d_R_watchesSet_30 rfl (lv_at hl 1 rfl) ?_
                    exact re_i (v := nI 2) () hx hb hr hlocks (by rw [zCnt, c18, c18_2, zSet_1 c18_3, zSet_1 c18_4]; decide) (hP.sub [0, 1, 2, 3, 4, 5] rfl) hK (hD.sub [0, 1, 2, 3, 4, 5] (by decide) rfl) hS d_R_watchesSet_31
                  · exact absurd c6_5 (by decide)
        · refine lv_iinc (v := (nI 1)) (lv' := [(1, .int (nI 1)), (2, .int (nI 1)), (0, .ref o)]) hx hb d_R_watchesSet_21 hl (k := 1) rfl (by decide) (by decide) rfl (fun ls hl => ?_)
          refine lv_iinc (v := (nI 2)) (lv' := [(2, .int (nI 2)), (1, .int (nI 1)), (0, .ref o)]) hx hb d_R_watchesSet_24 hl (k := 1) rfl (by decide) (by decide) rfl (fun ls hl => ?_)
          refine lv_goto (tgt := 4) hx hb d_R_watchesSet_27 (by decide) ?_
          refine lv_iload_n hx hb d_R_watchesSet_4 rfl (lv_at hl 0 rfl) ?_
          refine lv_iconst (v := 4) hx hb d_R_watchesSet_5 (by decide) ?_
          refine lv_icmp_ge (tgt := 30) hx hb d_R_watchesSet_6 (by decide) (fun c6_3 => ?_) (fun c6_3 => ?_)
          · exact absurd c6_3 (by decide)
          · refine lv_aload_n hx hb d_R_watchesSet_9 rfl (lv_at hl 2 rfl) ?_
            refine va_get (D := D) (ci := 4) (v := .ref wt) (C := "OscillatorRow") (T := T_R) (N := 14) hx hb hT i_R hown hK hP 0 rfl rfl 6 (by decide) (hT _ k_120) (fun _ h9 => h9) rfl d_R_watchesSet_10 ?_
            refine lv_iload_n hx hb d_R_watchesSet_13 rfl (lv_at hl 0 rfl) ?_
            refine ra_aald (j := 2) hx hb hK hP 1 2 rfl rfl (by omega) (by omega) d_R_watchesSet_14 ?_
            refine top_q hw2 ?_
            have hPc := hP.sub (ws' := [(w2, .inr (3, [.int (nI (wb 2)), .long (wl 2), .int (wu 2), .int (wa 2)]))]) [2] rfl
            have hDc := hD.sub (ws' := [(w2, .inr (3, [.int (nI (wb 2)), .long (wl 2), .int (wu 2), .int (wa 2)]))]) [2] (by decide) rfl
            refine gc_i (w1 := fun (u : Unit) => [(w2, .inr (3, [.int (nI (wb 2)), .long (wl 2), .int (wu 2), .int (wa 2)]))]) (wc := [(w2, .inr (3, [.int (nI (wb 2)), .long (wl 2), .int (wu 2), .int (wa 2)]))]) (wr := [(o, .inr (4, [.int (nI n), .ref sp, .ref m0, .ref m1, .ref m2, .ref m3, .ref wt, .ref hi, .int (nI tol), .int (nI tm), .int (nI fs), .int (nI sd), .int (nI rj), .long er])), (wt, .inl (cW, 4, .inr (.inr (.inr (.inr wf))))), (w3, .inr (3, [.int (nI (wb 3)), .long (wl 3), .int (wu 3), .int (wa 3)])), (w0, .inr (3, [.int (nI (wb 0)), .long (wl 0), .int (wu 0), .int (wa 0)])), (w1, .inr (3, [.int (nI (wb 1)), .long (wl 1), .int (wu 1), .int (wa 1)]))]) hP hD hS hA [2] [0, 1, 3, 4, 5] rfl rfl (by decide) (by decide) (va_runV (As := []) (rest := []) ⟨hx, hb, hml, hown, hT⟩ (c_W_isset l D cI cL cW cZ w2 (nI (wb 2)) (wl 2) (wu 2) (wa 2) H.size) (cwV 0 hT (good_V k_320 k_273 k_274 k_5 k_275) rfl rfl rfl (by decide +kernel) ⟨Nat.le_of_ble_eq_true rfl, Nat.le_of_ble_eq_true rfl⟩) (pre_V hPc hDc hK hN (ci := 3) rfl rfl) rfl rfl hl.1 rfl (lv_room (Nat.le_of_ble_eq_true rfl)) d_R_watchesSet_15 ⟨(Nat.le_of_ble_eq_true rfl), (Nat.le_of_ble_eq_true rfl)⟩) (fun r u H locs hw hP hD hS => ?_)
            try dsimp only at hw
            have hP : va_P D vwCl [(o, .inr (4, [.int (nI n), .ref sp, .ref m0, .ref m1, .ref m2, .ref m3, .ref wt, .ref hi, .int (nI tol), .int (nI tm), .int (nI fs), .int (nI sd), .int (nI rj), .long er])), (wt, .inl (cW, 4, .inr (.inr (.inr (.inr wf))))), (w3, .inr (3, [.int (nI (wb 3)), .long (wl 3), .int (wu 3), .int (wa 3)])), (w0, .inr (3, [.int (nI (wb 0)), .long (wl 0), .int (wu 0), .int (wa 0)])), (w1, .inr (3, [.int (nI (wb 1)), .long (wl 1), .int (wu 1), .int (wa 1)])), (w2, .inr (3, [.int (nI (wb 2)), .long (wl 2), .int (wu 2), .int (wa 2)]))] H := hP
            have hD : va_D A [(o, .inr (4, [.int (nI n), .ref sp, .ref m0, .ref m1, .ref m2, .ref m3, .ref wt, .ref hi, .int (nI tol), .int (nI tm), .int (nI fs), .int (nI sd), .int (nI rj), .long er])), (wt, .inl (cW, 4, .inr (.inr (.inr (.inr wf))))), (w3, .inr (3, [.int (nI (wb 3)), .long (wl 3), .int (wu 3), .int (wa 3)])), (w0, .inr (3, [.int (nI (wb 0)), .long (wl 0), .int (wu 0), .int (wa 0)])), (w1, .inr (3, [.int (nI (wb 1)), .long (wl 1), .int (wu 1), .int (wa 1)])), (w2, .inr (3, [.int (nI (wb 2)), .long (wl 2), .int (wu 2), .int (wa 2)]))] := hD
            subst hw
            refine lv_if_eq (tgt := 24) hx hb d_R_watchesSet_18 (by decide) (fun c18_3 => ?_) (fun c18_3 => ?_)
            · refine lv_iinc (v := (nI 3)) (lv' := [(2, .int (nI 3)), (1, .int (nI 1)), (0, .ref o)]) hx hb d_R_watchesSet_24 hl (k := 0) rfl (by decide) (by decide) rfl (fun ls hl => ?_)
              refine lv_goto (tgt := 4) hx hb d_R_watchesSet_27 (by decide) ?_
              refine lv_iload_n hx hb d_R_watchesSet_4 rfl (lv_at hl 0 rfl) ?_
              refine lv_iconst (v := 4) hx hb d_R_watchesSet_5 (by decide) ?_
              refine lv_icmp_ge (tgt := 30) hx hb d_R_watchesSet_6 (by decide) (fun c6_4 => ?_) (fun c6_4 => ?_)
              · exact absurd c6_4 (by decide)
              · refine lv_aload_n hx hb d_R_watchesSet_9 rfl (lv_at hl 2 rfl) ?_
                refine va_get (D := D) (ci := 4) (v := .ref wt) (C := "OscillatorRow") (T := T_R) (N := 14) hx hb hT i_R hown hK hP 0 rfl rfl 6 (by decide) (hT _ k_120) (fun _ h9 => h9) rfl d_R_watchesSet_10 ?_
                refine lv_iload_n hx hb d_R_watchesSet_13 rfl (lv_at hl 0 rfl) ?_
                refine ra_aald (j := 3) hx hb hK hP 1 2 rfl rfl (by omega) (by omega) d_R_watchesSet_14 ?_
                refine top_q hw3 ?_
                have hPc := hP.sub (ws' := [(w3, .inr (3, [.int (nI (wb 3)), .long (wl 3), .int (wu 3), .int (wa 3)]))]) [2] rfl
                have hDc := hD.sub (ws' := [(w3, .inr (3, [.int (nI (wb 3)), .long (wl 3), .int (wu 3), .int (wa 3)]))]) [2] (by decide) rfl
                refine gc_i (w1 := fun (u : Unit) => [(w3, .inr (3, [.int (nI (wb 3)), .long (wl 3), .int (wu 3), .int (wa 3)]))]) (wc := [(w3, .inr (3, [.int (nI (wb 3)), .long (wl 3), .int (wu 3), .int (wa 3)]))]) (wr := [(o, .inr (4, [.int (nI n), .ref sp, .ref m0, .ref m1, .ref m2, .ref m3, .ref wt, .ref hi, .int (nI tol), .int (nI tm), .int (nI fs), .int (nI sd), .int (nI rj), .long er])), (wt, .inl (cW, 4, .inr (.inr (.inr (.inr wf))))), (w0, .inr (3, [.int (nI (wb 0)), .long (wl 0), .int (wu 0), .int (wa 0)])), (w1, .inr (3, [.int (nI (wb 1)), .long (wl 1), .int (wu 1), .int (wa 1)])), (w2, .inr (3, [.int (nI (wb 2)), .long (wl 2), .int (wu 2), .int (wa 2)]))]) hP hD hS hA [2] [0, 1, 3, 4, 5] rfl rfl (by decide) (by decide) (va_runV (As := []) (rest := []) ⟨hx, hb, hml, hown, hT⟩ (c_W_isset l D cI cL cW cZ w3 (nI (wb 3)) (wl 3) (wu 3) (wa 3) H.size) (cwV 0 hT (good_V k_320 k_273 k_274 k_5 k_275) rfl rfl rfl (by decide +kernel) ⟨Nat.le_of_ble_eq_true rfl, Nat.le_of_ble_eq_true rfl⟩) (pre_V hPc hDc hK hN (ci := 3) rfl rfl) rfl rfl hl.1 rfl (lv_room (Nat.le_of_ble_eq_true rfl)) d_R_watchesSet_15 ⟨(Nat.le_of_ble_eq_true rfl), (Nat.le_of_ble_eq_true rfl)⟩) (fun r u H locs hw hP hD hS => ?_)
                try dsimp only at hw
                have hP : va_P D vwCl [(o, .inr (4, [.int (nI n), .ref sp, .ref m0, .ref m1, .ref m2, .ref m3, .ref wt, .ref hi, .int (nI tol), .int (nI tm), .int (nI fs), .int (nI sd), .int (nI rj), .long er])), (wt, .inl (cW, 4, .inr (.inr (.inr (.inr wf))))), (w0, .inr (3, [.int (nI (wb 0)), .long (wl 0), .int (wu 0), .int (wa 0)])), (w1, .inr (3, [.int (nI (wb 1)), .long (wl 1), .int (wu 1), .int (wa 1)])), (w2, .inr (3, [.int (nI (wb 2)), .long (wl 2), .int (wu 2), .int (wa 2)])), (w3, .inr (3, [.int (nI (wb 3)), .long (wl 3), .int (wu 3), .int (wa 3)]))] H := hP
                have hD : va_D A [(o, .inr (4, [.int (nI n), .ref sp, .ref m0, .ref m1, .ref m2, .ref m3, .ref wt, .ref hi, .int (nI tol), .int (nI tm), .int (nI fs), .int (nI sd), .int (nI rj), .long er])), (wt, .inl (cW, 4, .inr (.inr (.inr (.inr wf))))), (w0, .inr (3, [.int (nI (wb 0)), .long (wl 0), .int (wu 0), .int (wa 0)])), (w1, .inr (3, [.int (nI (wb 1)), .long (wl 1), .int (wu 1), .int (wa 1)])), (w2, .inr (3, [.int (nI (wb 2)), .long (wl 2), .int (wu 2), .int (wa 2)])), (w3, .inr (3, [.int (nI (wb 3)), .long (wl 3), .int (wu 3), .int (wa 3)]))] := hD
                subst hw
                refine lv_if_eq (tgt := 24) hx hb d_R_watchesSet_18 (by decide) (fun c18_4 => ?_) (fun c18_4 => ?_)
                · refine lv_iinc (v := (nI 4)) (lv' := [(2, .int (nI 4)), (1, .int (nI 1)), (0, .ref o)]) hx hb d_R_watchesSet_24 hl (k := 0) rfl (by decide) (by decide) rfl (fun ls hl => ?_)
                  refine lv_goto (tgt := 4) hx hb d_R_watchesSet_27 (by decide) ?_
                  refine lv_iload_n hx hb d_R_watchesSet_4 rfl (lv_at hl 0 rfl) ?_
                  refine lv_iconst (v := 4) hx hb d_R_watchesSet_5 (by decide) ?_
                  refine lv_icmp_ge (tgt := 30) hx hb d_R_watchesSet_6 (by decide) (fun c6_5 => ?_) (fun c6_5 => ?_)
                  · refine lv_iload_n hx hb d_R_watchesSet_30 rfl (lv_at hl 1 rfl) ?_
                    exact re_i (v := nI 1) () hx hb hr hlocks (by rw [zCnt, c18, zSet_1 c18_2, c18_3, c18_4]; decide) (hP.sub [0, 1, 2, 3, 4, 5] rfl) hK (hD.sub [0, 1, 2, 3, 4, 5] (by decide) rfl) hS d_R_watchesSet_31
                  · exact absurd c6_5 (by decide)
                · refine lv_iinc (v := (nI 2)) (lv' := [(1, .int (nI 2)), (2, .int (nI 3)), (0, .ref o)]) hx hb d_R_watchesSet_21 hl (k := 1) rfl (by decide) (by decide) rfl (fun ls hl => ?_)
                  refine lv_iinc (v := (nI 4)) (lv' := [(2, .int (nI 4)), (1, .int (nI 2)), (0, .ref o)]) hx hb d_R_watchesSet_24 hl (k := 1) rfl (by decide) (by decide) rfl (fun ls hl => ?_)
                  refine lv_goto (tgt := 4) hx hb d_R_watchesSet_27 (by decide) ?_
                  refine lv_iload_n hx hb d_R_watchesSet_4 rfl (lv_at hl 0 rfl) ?_
                  refine lv_iconst (v := 4) hx hb d_R_watchesSet_5 (by decide) ?_
                  refine lv_icmp_ge (tgt := 30) hx hb d_R_watchesSet_6 (by decide) (fun c6_5 => ?_) (fun c6_5 => ?_)
                  · refine lv_iload_n hx hb d_R_watchesSet_30 rfl (lv_at hl 1 rfl) ?_
                    exact re_i (v := nI 2) () hx hb hr hlocks (by rw [zCnt, c18, zSet_1 c18_2, c18_3, zSet_1 c18_4]; decide) (hP.sub [0, 1, 2, 3, 4, 5] rfl) hK (hD.sub [0, 1, 2, 3, 4, 5] (by decide) rfl) hS d_R_watchesSet_31
                  · exact absurd c6_5 (by decide)
            · refine lv_iinc (v := (nI 2)) (lv' := [(1, .int (nI 2)), (2, .int (nI 2)), (0, .ref o)]) hx hb d_R_watchesSet_21 hl (k := 1) rfl (by decide) (by decide) rfl (fun ls hl => ?_)
              refine lv_iinc (v := (nI 3)) (lv' := [(2, .int (nI 3)), (1, .int (nI 2)), (0, .ref o)]) hx hb d_R_watchesSet_24 hl (k := 1) rfl (by decide) (by decide) rfl (fun ls hl => ?_)
              refine lv_goto (tgt := 4) hx hb d_R_watchesSet_27 (by decide) ?_
              refine lv_iload_n hx hb d_R_watchesSet_4 rfl (lv_at hl 0 rfl) ?_
              refine lv_iconst (v := 4) hx hb d_R_watchesSet_5 (by decide) ?_
              refine lv_icmp_ge (tgt := 30) hx hb d_R_watchesSet_6 (by decide) (fun c6_4 => ?_) (fun c6_4 => ?_)
              · exact absurd c6_4 (by decide)
              · refine lv_aload_n hx hb d_R_watchesSet_9 rfl (lv_at hl 2 rfl) ?_
                refine va_get (D := D) (ci := 4) (v := .ref wt) (C := "OscillatorRow") (T := T_R) (N := 14) hx hb hT i_R hown hK hP 0 rfl rfl 6 (by decide) (hT _ k_120) (fun _ h9 => h9) rfl d_R_watchesSet_10 ?_
                refine lv_iload_n hx hb d_R_watchesSet_13 rfl (lv_at hl 0 rfl) ?_
                refine ra_aald (j := 3) hx hb hK hP 1 2 rfl rfl (by omega) (by omega) d_R_watchesSet_14 ?_
                refine top_q hw3 ?_
                have hPc := hP.sub (ws' := [(w3, .inr (3, [.int (nI (wb 3)), .long (wl 3), .int (wu 3), .int (wa 3)]))]) [2] rfl
                have hDc := hD.sub (ws' := [(w3, .inr (3, [.int (nI (wb 3)), .long (wl 3), .int (wu 3), .int (wa 3)]))]) [2] (by decide) rfl
                refine gc_i (w1 := fun (u : Unit) => [(w3, .inr (3, [.int (nI (wb 3)), .long (wl 3), .int (wu 3), .int (wa 3)]))]) (wc := [(w3, .inr (3, [.int (nI (wb 3)), .long (wl 3), .int (wu 3), .int (wa 3)]))]) (wr := [(o, .inr (4, [.int (nI n), .ref sp, .ref m0, .ref m1, .ref m2, .ref m3, .ref wt, .ref hi, .int (nI tol), .int (nI tm), .int (nI fs), .int (nI sd), .int (nI rj), .long er])), (wt, .inl (cW, 4, .inr (.inr (.inr (.inr wf))))), (w0, .inr (3, [.int (nI (wb 0)), .long (wl 0), .int (wu 0), .int (wa 0)])), (w1, .inr (3, [.int (nI (wb 1)), .long (wl 1), .int (wu 1), .int (wa 1)])), (w2, .inr (3, [.int (nI (wb 2)), .long (wl 2), .int (wu 2), .int (wa 2)]))]) hP hD hS hA [2] [0, 1, 3, 4, 5] rfl rfl (by decide) (by decide) (va_runV (As := []) (rest := []) ⟨hx, hb, hml, hown, hT⟩ (c_W_isset l D cI cL cW cZ w3 (nI (wb 3)) (wl 3) (wu 3) (wa 3) H.size) (cwV 0 hT (good_V k_320 k_273 k_274 k_5 k_275) rfl rfl rfl (by decide +kernel) ⟨Nat.le_of_ble_eq_true rfl, Nat.le_of_ble_eq_true rfl⟩) (pre_V hPc hDc hK hN (ci := 3) rfl rfl) rfl rfl hl.1 rfl (lv_room (Nat.le_of_ble_eq_true rfl)) d_R_watchesSet_15 ⟨(Nat.le_of_ble_eq_true rfl), (Nat.le_of_ble_eq_true rfl)⟩) (fun r u H locs hw hP hD hS => ?_)
                try dsimp only at hw
                have hP : va_P D vwCl [(o, .inr (4, [.int (nI n), .ref sp, .ref m0, .ref m1, .ref m2, .ref m3, .ref wt, .ref hi, .int (nI tol), .int (nI tm), .int (nI fs), .int (nI sd), .int (nI rj), .long er])), (wt, .inl (cW, 4, .inr (.inr (.inr (.inr wf))))), (w0, .inr (3, [.int (nI (wb 0)), .long (wl 0), .int (wu 0), .int (wa 0)])), (w1, .inr (3, [.int (nI (wb 1)), .long (wl 1), .int (wu 1), .int (wa 1)])), (w2, .inr (3, [.int (nI (wb 2)), .long (wl 2), .int (wu 2), .int (wa 2)])), (w3, .inr (3, [.int (nI (wb 3)), .long (wl 3), .int (wu 3), .int (wa 3)]))] H := hP
                have hD : va_D A [(o, .inr (4, [.int (nI n), .ref sp, .ref m0, .ref m1, .ref m2, .ref m3, .ref wt, .ref hi, .int (nI tol), .int (nI tm), .int (nI fs), .int (nI sd), .int (nI rj), .long er])), (wt, .inl (cW, 4, .inr (.inr (.inr (.inr wf))))), (w0, .inr (3, [.int (nI (wb 0)), .long (wl 0), .int (wu 0), .int (wa 0)])), (w1, .inr (3, [.int (nI (wb 1)), .long (wl 1), .int (wu 1), .int (wa 1)])), (w2, .inr (3, [.int (nI (wb 2)), .long (wl 2), .int (wu 2), .int (wa 2)])), (w3, .inr (3, [.int (nI (wb 3)), .long (wl 3), .int (wu 3), .int (wa 3)]))] := hD
                subst hw
                refine lv_if_eq (tgt := 24) hx hb d_R_watchesSet_18 (by decide) (fun c18_4 => ?_) (fun c18_4 => ?_)
                · refine lv_iinc (v := (nI 4)) (lv' := [(2, .int (nI 4)), (1, .int (nI 2)), (0, .ref o)]) hx hb d_R_watchesSet_24 hl (k := 0) rfl (by decide) (by decide) rfl (fun ls hl => ?_)
                  refine lv_goto (tgt := 4) hx hb d_R_watchesSet_27 (by decide) ?_
                  refine lv_iload_n hx hb d_R_watchesSet_4 rfl (lv_at hl 0 rfl) ?_
                  refine lv_iconst (v := 4) hx hb d_R_watchesSet_5 (by decide) ?_
                  refine lv_icmp_ge (tgt := 30) hx hb d_R_watchesSet_6 (by decide) (fun c6_5 => ?_) (fun c6_5 => ?_)
                  · refine lv_iload_n hx hb d_R_watchesSet_30 rfl (lv_at hl 1 rfl) ?_
                    exact re_i (v := nI 2) () hx hb hr hlocks (by rw [zCnt, c18, zSet_1 c18_2, zSet_1 c18_3, c18_4]; decide) (hP.sub [0, 1, 2, 3, 4, 5] rfl) hK (hD.sub [0, 1, 2, 3, 4, 5] (by decide) rfl) hS d_R_watchesSet_31
                  · exact absurd c6_5 (by decide)
                · refine lv_iinc (v := (nI 3)) (lv' := [(1, .int (nI 3)), (2, .int (nI 3)), (0, .ref o)]) hx hb d_R_watchesSet_21 hl (k := 1) rfl (by decide) (by decide) rfl (fun ls hl => ?_)
                  refine lv_iinc (v := (nI 4)) (lv' := [(2, .int (nI 4)), (1, .int (nI 3)), (0, .ref o)]) hx hb d_R_watchesSet_24 hl (k := 1) rfl (by decide) (by decide) rfl (fun ls hl => ?_)
                  refine lv_goto (tgt := 4) hx hb d_R_watchesSet_27 (by decide) ?_
                  refine lv_iload_n hx hb d_R_watchesSet_4 rfl (lv_at hl 0 rfl) ?_
                  refine lv_iconst (v := 4) hx hb d_R_watchesSet_5 (by decide) ?_
                  refine lv_icmp_ge (tgt := 30) hx hb d_R_watchesSet_6 (by decide) (fun c6_5 => ?_) (fun c6_5 => ?_)
                  · refine lv_iload_n hx hb d_R_watchesSet_30 rfl (lv_at hl 1 rfl) ?_
                    exact re_i (v := nI 3) () hx hb hr hlocks (by rw [zCnt, c18, zSet_1 c18_2, zSet_1 c18_3, zSet_1 c18_4]; decide) (hP.sub [0, 1, 2, 3, 4, 5] rfl) hK (hD.sub [0, 1, 2, 3, 4, 5] (by decide) rfl) hS d_R_watchesSet_31
                  · exact absurd c6_5 (by decide)
    · refine lv_iinc (v := (nI 1)) (lv' := [(1, .int (nI 1)), (2, .int (nI 0)), (0, .ref o)]) hx hb d_R_watchesSet_21 hl (k := 1) rfl (by decide) (by decide) rfl (fun ls hl => ?_)
      refine lv_iinc (v := (nI 1)) (lv' := [(2, .int (nI 1)), (1, .int (nI 1)), (0, .ref o)]) hx hb d_R_watchesSet_24 hl (k := 1) rfl (by decide) (by decide) rfl (fun ls hl => ?_)
      refine lv_goto (tgt := 4) hx hb d_R_watchesSet_27 (by decide) ?_
      refine lv_iload_n hx hb d_R_watchesSet_4 rfl (lv_at hl 0 rfl) ?_
      refine lv_iconst (v := 4) hx hb d_R_watchesSet_5 (by decide) ?_
      refine lv_icmp_ge (tgt := 30) hx hb d_R_watchesSet_6 (by decide) (fun c6_2 => ?_) (fun c6_2 => ?_)
      · exact absurd c6_2 (by decide)
      · refine lv_aload_n hx hb d_R_watchesSet_9 rfl (lv_at hl 2 rfl) ?_
        refine va_get (D := D) (ci := 4) (v := .ref wt) (C := "OscillatorRow") (T := T_R) (N := 14) hx hb hT i_R hown hK hP 0 rfl rfl 6 (by decide) (hT _ k_120) (fun _ h9 => h9) rfl d_R_watchesSet_10 ?_
        refine lv_iload_n hx hb d_R_watchesSet_13 rfl (lv_at hl 0 rfl) ?_
        refine ra_aald (j := 1) hx hb hK hP 1 2 rfl rfl (by omega) (by omega) d_R_watchesSet_14 ?_
        refine top_q hw1 ?_
        have hPc := hP.sub (ws' := [(w1, .inr (3, [.int (nI (wb 1)), .long (wl 1), .int (wu 1), .int (wa 1)]))]) [2] rfl
        have hDc := hD.sub (ws' := [(w1, .inr (3, [.int (nI (wb 1)), .long (wl 1), .int (wu 1), .int (wa 1)]))]) [2] (by decide) rfl
        refine gc_i (w1 := fun (u : Unit) => [(w1, .inr (3, [.int (nI (wb 1)), .long (wl 1), .int (wu 1), .int (wa 1)]))]) (wc := [(w1, .inr (3, [.int (nI (wb 1)), .long (wl 1), .int (wu 1), .int (wa 1)]))]) (wr := [(o, .inr (4, [.int (nI n), .ref sp, .ref m0, .ref m1, .ref m2, .ref m3, .ref wt, .ref hi, .int (nI tol), .int (nI tm), .int (nI fs), .int (nI sd), .int (nI rj), .long er])), (wt, .inl (cW, 4, .inr (.inr (.inr (.inr wf))))), (w2, .inr (3, [.int (nI (wb 2)), .long (wl 2), .int (wu 2), .int (wa 2)])), (w3, .inr (3, [.int (nI (wb 3)), .long (wl 3), .int (wu 3), .int (wa 3)])), (w0, .inr (3, [.int (nI (wb 0)), .long (wl 0), .int (wu 0), .int (wa 0)]))]) hP hD hS hA [2] [0, 1, 3, 4, 5] rfl rfl (by decide) (by decide) (va_runV (As := []) (rest := []) ⟨hx, hb, hml, hown, hT⟩ (c_W_isset l D cI cL cW cZ w1 (nI (wb 1)) (wl 1) (wu 1) (wa 1) H.size) (cwV 0 hT (good_V k_320 k_273 k_274 k_5 k_275) rfl rfl rfl (by decide +kernel) ⟨Nat.le_of_ble_eq_true rfl, Nat.le_of_ble_eq_true rfl⟩) (pre_V hPc hDc hK hN (ci := 3) rfl rfl) rfl rfl hl.1 rfl (lv_room (Nat.le_of_ble_eq_true rfl)) d_R_watchesSet_15 ⟨(Nat.le_of_ble_eq_true rfl), (Nat.le_of_ble_eq_true rfl)⟩) (fun r u H locs hw hP hD hS => ?_)
        try dsimp only at hw
        have hP : va_P D vwCl [(o, .inr (4, [.int (nI n), .ref sp, .ref m0, .ref m1, .ref m2, .ref m3, .ref wt, .ref hi, .int (nI tol), .int (nI tm), .int (nI fs), .int (nI sd), .int (nI rj), .long er])), (wt, .inl (cW, 4, .inr (.inr (.inr (.inr wf))))), (w2, .inr (3, [.int (nI (wb 2)), .long (wl 2), .int (wu 2), .int (wa 2)])), (w3, .inr (3, [.int (nI (wb 3)), .long (wl 3), .int (wu 3), .int (wa 3)])), (w0, .inr (3, [.int (nI (wb 0)), .long (wl 0), .int (wu 0), .int (wa 0)])), (w1, .inr (3, [.int (nI (wb 1)), .long (wl 1), .int (wu 1), .int (wa 1)]))] H := hP
        have hD : va_D A [(o, .inr (4, [.int (nI n), .ref sp, .ref m0, .ref m1, .ref m2, .ref m3, .ref wt, .ref hi, .int (nI tol), .int (nI tm), .int (nI fs), .int (nI sd), .int (nI rj), .long er])), (wt, .inl (cW, 4, .inr (.inr (.inr (.inr wf))))), (w2, .inr (3, [.int (nI (wb 2)), .long (wl 2), .int (wu 2), .int (wa 2)])), (w3, .inr (3, [.int (nI (wb 3)), .long (wl 3), .int (wu 3), .int (wa 3)])), (w0, .inr (3, [.int (nI (wb 0)), .long (wl 0), .int (wu 0), .int (wa 0)])), (w1, .inr (3, [.int (nI (wb 1)), .long (wl 1), .int (wu 1), .int (wa 1)]))] := hD
        subst hw
        refine lv_if_eq (tgt := 24) hx hb d_R_watchesSet_18 (by decide) (fun c18_2 => ?_) (fun c18_2 => ?_)
        · refine lv_iinc (v := (nI 2)) (lv' := [(2, .int (nI 2)), (1, .int (nI 1)), (0, .ref o)]) hx hb d_R_watchesSet_24 hl (k := 0) rfl (by decide) (by decide) rfl (fun ls hl => ?_)
          refine lv_goto (tgt := 4) hx hb d_R_watchesSet_27 (by decide) ?_
          refine lv_iload_n hx hb d_R_watchesSet_4 rfl (lv_at hl 0 rfl) ?_
          refine lv_iconst (v := 4) hx hb d_R_watchesSet_5 (by decide) ?_
          refine lv_icmp_ge (tgt := 30) hx hb d_R_watchesSet_6 (by decide) (fun c6_3 => ?_) (fun c6_3 => ?_)
          · exact absurd c6_3 (by decide)
          · refine lv_aload_n hx hb d_R_watchesSet_9 rfl (lv_at hl 2 rfl) ?_
            refine va_get (D := D) (ci := 4) (v := .ref wt) (C := "OscillatorRow") (T := T_R) (N := 14) hx hb hT i_R hown hK hP 0 rfl rfl 6 (by decide) (hT _ k_120) (fun _ h9 => h9) rfl d_R_watchesSet_10 ?_
            refine lv_iload_n hx hb d_R_watchesSet_13 rfl (lv_at hl 0 rfl) ?_
            refine ra_aald (j := 2) hx hb hK hP 1 2 rfl rfl (by omega) (by omega) d_R_watchesSet_14 ?_
            refine top_q hw2 ?_
            have hPc := hP.sub (ws' := [(w2, .inr (3, [.int (nI (wb 2)), .long (wl 2), .int (wu 2), .int (wa 2)]))]) [2] rfl
            have hDc := hD.sub (ws' := [(w2, .inr (3, [.int (nI (wb 2)), .long (wl 2), .int (wu 2), .int (wa 2)]))]) [2] (by decide) rfl
            refine gc_i (w1 := fun (u : Unit) => [(w2, .inr (3, [.int (nI (wb 2)), .long (wl 2), .int (wu 2), .int (wa 2)]))]) (wc := [(w2, .inr (3, [.int (nI (wb 2)), .long (wl 2), .int (wu 2), .int (wa 2)]))]) (wr := [(o, .inr (4, [.int (nI n), .ref sp, .ref m0, .ref m1, .ref m2, .ref m3, .ref wt, .ref hi, .int (nI tol), .int (nI tm), .int (nI fs), .int (nI sd), .int (nI rj), .long er])), (wt, .inl (cW, 4, .inr (.inr (.inr (.inr wf))))), (w3, .inr (3, [.int (nI (wb 3)), .long (wl 3), .int (wu 3), .int (wa 3)])), (w0, .inr (3, [.int (nI (wb 0)), .long (wl 0), .int (wu 0), .int (wa 0)])), (w1, .inr (3, [.int (nI (wb 1)), .long (wl 1), .int (wu 1), .int (wa 1)]))]) hP hD hS hA [2] [0, 1, 3, 4, 5] rfl rfl (by decide) (by decide) (va_runV (As := []) (rest := []) ⟨hx, hb, hml, hown, hT⟩ (c_W_isset l D cI cL cW cZ w2 (nI (wb 2)) (wl 2) (wu 2) (wa 2) H.size) (cwV 0 hT (good_V k_320 k_273 k_274 k_5 k_275) rfl rfl rfl (by decide +kernel) ⟨Nat.le_of_ble_eq_true rfl, Nat.le_of_ble_eq_true rfl⟩) (pre_V hPc hDc hK hN (ci := 3) rfl rfl) rfl rfl hl.1 rfl (lv_room (Nat.le_of_ble_eq_true rfl)) d_R_watchesSet_15 ⟨(Nat.le_of_ble_eq_true rfl), (Nat.le_of_ble_eq_true rfl)⟩) (fun r u H locs hw hP hD hS => ?_)
            try dsimp only at hw
            have hP : va_P D vwCl [(o, .inr (4, [.int (nI n), .ref sp, .ref m0, .ref m1, .ref m2, .ref m3, .ref wt, .ref hi, .int (nI tol), .int (nI tm), .int (nI fs), .int (nI sd), .int (nI rj), .long er])), (wt, .inl (cW, 4, .inr (.inr (.inr (.inr wf))))), (w3, .inr (3, [.int (nI (wb 3)), .long (wl 3), .int (wu 3), .int (wa 3)])), (w0, .inr (3, [.int (nI (wb 0)), .long (wl 0), .int (wu 0), .int (wa 0)])), (w1, .inr (3, [.int (nI (wb 1)), .long (wl 1), .int (wu 1), .int (wa 1)])), (w2, .inr (3, [.int (nI (wb 2)), .long (wl 2), .int (wu 2), .int (wa 2)]))] H := hP
            have hD : va_D A [(o, .inr (4, [.int (nI n), .ref sp, .ref m0, .ref m1, .ref m2, .ref m3, .ref wt, .ref hi, .int (nI tol), .int (nI tm), .int (nI fs), .int (nI sd), .int (nI rj), .long er])), (wt, .inl (cW, 4, .inr (.inr (.inr (.inr wf))))), (w3, .inr (3, [.int (nI (wb 3)), .long (wl 3), .int (wu 3), .int (wa 3)])), (w0, .inr (3, [.int (nI (wb 0)), .long (wl 0), .int (wu 0), .int (wa 0)])), (w1, .inr (3, [.int (nI (wb 1)), .long (wl 1), .int (wu 1), .int (wa 1)])), (w2, .inr (3, [.int (nI (wb 2)), .long (wl 2), .int (wu 2), .int (wa 2)]))] := hD
            subst hw
            refine lv_if_eq (tgt := 24) hx hb d_R_watchesSet_18 (by decide) (fun c18_3 => ?_) (fun c18_3 => ?_)
            · refine lv_iinc (v := (nI 3)) (lv' := [(2, .int (nI 3)), (1, .int (nI 1)), (0, .ref o)]) hx hb d_R_watchesSet_24 hl (k := 0) rfl (by decide) (by decide) rfl (fun ls hl => ?_)
              refine lv_goto (tgt := 4) hx hb d_R_watchesSet_27 (by decide) ?_
              refine lv_iload_n hx hb d_R_watchesSet_4 rfl (lv_at hl 0 rfl) ?_
              refine lv_iconst (v := 4) hx hb d_R_watchesSet_5 (by decide) ?_
              refine lv_icmp_ge (tgt := 30) hx hb d_R_watchesSet_6 (by decide) (fun c6_4 => ?_) (fun c6_4 => ?_)
              · exact absurd c6_4 (by decide)
              · refine lv_aload_n hx hb d_R_watchesSet_9 rfl (lv_at hl 2 rfl) ?_
                refine va_get (D := D) (ci := 4) (v := .ref wt) (C := "OscillatorRow") (T := T_R) (N := 14) hx hb hT i_R hown hK hP 0 rfl rfl 6 (by decide) (hT _ k_120) (fun _ h9 => h9) rfl d_R_watchesSet_10 ?_
                refine lv_iload_n hx hb d_R_watchesSet_13 rfl (lv_at hl 0 rfl) ?_
                refine ra_aald (j := 3) hx hb hK hP 1 2 rfl rfl (by omega) (by omega) d_R_watchesSet_14 ?_
                refine top_q hw3 ?_
                have hPc := hP.sub (ws' := [(w3, .inr (3, [.int (nI (wb 3)), .long (wl 3), .int (wu 3), .int (wa 3)]))]) [2] rfl
                have hDc := hD.sub (ws' := [(w3, .inr (3, [.int (nI (wb 3)), .long (wl 3), .int (wu 3), .int (wa 3)]))]) [2] (by decide) rfl
                refine gc_i (w1 := fun (u : Unit) => [(w3, .inr (3, [.int (nI (wb 3)), .long (wl 3), .int (wu 3), .int (wa 3)]))]) (wc := [(w3, .inr (3, [.int (nI (wb 3)), .long (wl 3), .int (wu 3), .int (wa 3)]))]) (wr := [(o, .inr (4, [.int (nI n), .ref sp, .ref m0, .ref m1, .ref m2, .ref m3, .ref wt, .ref hi, .int (nI tol), .int (nI tm), .int (nI fs), .int (nI sd), .int (nI rj), .long er])), (wt, .inl (cW, 4, .inr (.inr (.inr (.inr wf))))), (w0, .inr (3, [.int (nI (wb 0)), .long (wl 0), .int (wu 0), .int (wa 0)])), (w1, .inr (3, [.int (nI (wb 1)), .long (wl 1), .int (wu 1), .int (wa 1)])), (w2, .inr (3, [.int (nI (wb 2)), .long (wl 2), .int (wu 2), .int (wa 2)]))]) hP hD hS hA [2] [0, 1, 3, 4, 5] rfl rfl (by decide) (by decide) (va_runV (As := []) (rest := []) ⟨hx, hb, hml, hown, hT⟩ (c_W_isset l D cI cL cW cZ w3 (nI (wb 3)) (wl 3) (wu 3) (wa 3) H.size) (cwV 0 hT (good_V k_320 k_273 k_274 k_5 k_275) rfl rfl rfl (by decide +kernel) ⟨Nat.le_of_ble_eq_true rfl, Nat.le_of_ble_eq_true rfl⟩) (pre_V hPc hDc hK hN (ci := 3) rfl rfl) rfl rfl hl.1 rfl (lv_room (Nat.le_of_ble_eq_true rfl)) d_R_watchesSet_15 ⟨(Nat.le_of_ble_eq_true rfl), (Nat.le_of_ble_eq_true rfl)⟩) (fun r u H locs hw hP hD hS => ?_)
                try dsimp only at hw
                have hP : va_P D vwCl [(o, .inr (4, [.int (nI n), .ref sp, .ref m0, .ref m1, .ref m2, .ref m3, .ref wt, .ref hi, .int (nI tol), .int (nI tm), .int (nI fs), .int (nI sd), .int (nI rj), .long er])), (wt, .inl (cW, 4, .inr (.inr (.inr (.inr wf))))), (w0, .inr (3, [.int (nI (wb 0)), .long (wl 0), .int (wu 0), .int (wa 0)])), (w1, .inr (3, [.int (nI (wb 1)), .long (wl 1), .int (wu 1), .int (wa 1)])), (w2, .inr (3, [.int (nI (wb 2)), .long (wl 2), .int (wu 2), .int (wa 2)])), (w3, .inr (3, [.int (nI (wb 3)), .long (wl 3), .int (wu 3), .int (wa 3)]))] H := hP
                have hD : va_D A [(o, .inr (4, [.int (nI n), .ref sp, .ref m0, .ref m1, .ref m2, .ref m3, .ref wt, .ref hi, .int (nI tol), .int (nI tm), .int (nI fs), .int (nI sd), .int (nI rj), .long er])), (wt, .inl (cW, 4, .inr (.inr (.inr (.inr wf))))), (w0, .inr (3, [.int (nI (wb 0)), .long (wl 0), .int (wu 0), .int (wa 0)])), (w1, .inr (3, [.int (nI (wb 1)), .long (wl 1), .int (wu 1), .int (wa 1)])), (w2, .inr (3, [.int (nI (wb 2)), .long (wl 2), .int (wu 2), .int (wa 2)])), (w3, .inr (3, [.int (nI (wb 3)), .long (wl 3), .int (wu 3), .int (wa 3)]))] := hD
                subst hw
                refine lv_if_eq (tgt := 24) hx hb d_R_watchesSet_18 (by decide) (fun c18_4 => ?_) (fun c18_4 => ?_)
                · refine lv_iinc (v := (nI 4)) (lv' := [(2, .int (nI 4)), (1, .int (nI 1)), (0, .ref o)]) hx hb d_R_watchesSet_24 hl (k := 0) rfl (by decide) (by decide) rfl (fun ls hl => ?_)
                  refine lv_goto (tgt := 4) hx hb d_R_watchesSet_27 (by decide) ?_
                  refine lv_iload_n hx hb d_R_watchesSet_4 rfl (lv_at hl 0 rfl) ?_
                  refine lv_iconst (v := 4) hx hb d_R_watchesSet_5 (by decide) ?_
                  refine lv_icmp_ge (tgt := 30) hx hb d_R_watchesSet_6 (by decide) (fun c6_5 => ?_) (fun c6_5 => ?_)
                  · refine lv_iload_n hx hb d_R_watchesSet_30 rfl (lv_at hl 1 rfl) ?_
                    exact re_i (v := nI 1) () hx hb hr hlocks (by rw [zCnt, zSet_1 c18, c18_2, c18_3, c18_4]; decide) (hP.sub [0, 1, 2, 3, 4, 5] rfl) hK (hD.sub [0, 1, 2, 3, 4, 5] (by decide) rfl) hS d_R_watchesSet_31
                  · exact absurd c6_5 (by decide)
                · refine lv_iinc (v := (nI 2)) (lv' := [(1, .int (nI 2)), (2, .int (nI 3)), (0, .ref o)]) hx hb d_R_watchesSet_21 hl (k := 1) rfl (by decide) (by decide) rfl (fun ls hl => ?_)
                  refine lv_iinc (v := (nI 4)) (lv' := [(2, .int (nI 4)), (1, .int (nI 2)), (0, .ref o)]) hx hb d_R_watchesSet_24 hl (k := 1) rfl (by decide) (by decide) rfl (fun ls hl => ?_)
                  refine lv_goto (tgt := 4) hx hb d_R_watchesSet_27 (by decide) ?_
                  refine lv_iload_n hx hb d_R_watchesSet_4 rfl (lv_at hl 0 rfl) ?_
                  refine lv_iconst (v := 4) hx hb d_R_watchesSet_5 (by decide) ?_
                  refine lv_icmp_ge (tgt := 30) hx hb d_R_watchesSet_6 (by decide) (fun c6_5 => ?_) (fun c6_5 => ?_)
                  · refine lv_iload_n hx hb d_R_watchesSet_30 rfl (lv_at hl 1 rfl) ?_
                    exact re_i (v := nI 2) () hx hb hr hlocks (by rw [zCnt, zSet_1 c18, c18_2, c18_3, zSet_1 c18_4]; decide) (hP.sub [0, 1, 2, 3, 4, 5] rfl) hK (hD.sub [0, 1, 2, 3, 4, 5] (by decide) rfl) hS d_R_watchesSet_31
                  · exact absurd c6_5 (by decide)
            · refine lv_iinc (v := (nI 2)) (lv' := [(1, .int (nI 2)), (2, .int (nI 2)), (0, .ref o)]) hx hb d_R_watchesSet_21 hl (k := 1) rfl (by decide) (by decide) rfl (fun ls hl => ?_)
              refine lv_iinc (v := (nI 3)) (lv' := [(2, .int (nI 3)), (1, .int (nI 2)), (0, .ref o)]) hx hb d_R_watchesSet_24 hl (k := 1) rfl (by decide) (by decide) rfl (fun ls hl => ?_)
              refine lv_goto (tgt := 4) hx hb d_R_watchesSet_27 (by decide) ?_
              refine lv_iload_n hx hb d_R_watchesSet_4 rfl (lv_at hl 0 rfl) ?_
              refine lv_iconst (v := 4) hx hb d_R_watchesSet_5 (by decide) ?_
              refine lv_icmp_ge (tgt := 30) hx hb d_R_watchesSet_6 (by decide) (fun c6_4 => ?_) (fun c6_4 => ?_)
              · exact absurd c6_4 (by decide)
              · refine lv_aload_n hx hb d_R_watchesSet_9 rfl (lv_at hl 2 rfl) ?_
                refine va_get (D := D) (ci := 4) (v := .ref wt) (C := "OscillatorRow") (T := T_R) (N := 14) hx hb hT i_R hown hK hP 0 rfl rfl 6 (by decide) (hT _ k_120) (fun _ h9 => h9) rfl d_R_watchesSet_10 ?_
                refine lv_iload_n hx hb d_R_watchesSet_13 rfl (lv_at hl 0 rfl) ?_
                refine ra_aald (j := 3) hx hb hK hP 1 2 rfl rfl (by omega) (by omega) d_R_watchesSet_14 ?_
                refine top_q hw3 ?_
                have hPc := hP.sub (ws' := [(w3, .inr (3, [.int (nI (wb 3)), .long (wl 3), .int (wu 3), .int (wa 3)]))]) [2] rfl
                have hDc := hD.sub (ws' := [(w3, .inr (3, [.int (nI (wb 3)), .long (wl 3), .int (wu 3), .int (wa 3)]))]) [2] (by decide) rfl
                refine gc_i (w1 := fun (u : Unit) => [(w3, .inr (3, [.int (nI (wb 3)), .long (wl 3), .int (wu 3), .int (wa 3)]))]) (wc := [(w3, .inr (3, [.int (nI (wb 3)), .long (wl 3), .int (wu 3), .int (wa 3)]))]) (wr := [(o, .inr (4, [.int (nI n), .ref sp, .ref m0, .ref m1, .ref m2, .ref m3, .ref wt, .ref hi, .int (nI tol), .int (nI tm), .int (nI fs), .int (nI sd), .int (nI rj), .long er])), (wt, .inl (cW, 4, .inr (.inr (.inr (.inr wf))))), (w0, .inr (3, [.int (nI (wb 0)), .long (wl 0), .int (wu 0), .int (wa 0)])), (w1, .inr (3, [.int (nI (wb 1)), .long (wl 1), .int (wu 1), .int (wa 1)])), (w2, .inr (3, [.int (nI (wb 2)), .long (wl 2), .int (wu 2), .int (wa 2)]))]) hP hD hS hA [2] [0, 1, 3, 4, 5] rfl rfl (by decide) (by decide) (va_runV (As := []) (rest := []) ⟨hx, hb, hml, hown, hT⟩ (c_W_isset l D cI cL cW cZ w3 (nI (wb 3)) (wl 3) (wu 3) (wa 3) H.size) (cwV 0 hT (good_V k_320 k_273 k_274 k_5 k_275) rfl rfl rfl (by decide +kernel) ⟨Nat.le_of_ble_eq_true rfl, Nat.le_of_ble_eq_true rfl⟩) (pre_V hPc hDc hK hN (ci := 3) rfl rfl) rfl rfl hl.1 rfl (lv_room (Nat.le_of_ble_eq_true rfl)) d_R_watchesSet_15 ⟨(Nat.le_of_ble_eq_true rfl), (Nat.le_of_ble_eq_true rfl)⟩) (fun r u H locs hw hP hD hS => ?_)
                try dsimp only at hw
                have hP : va_P D vwCl [(o, .inr (4, [.int (nI n), .ref sp, .ref m0, .ref m1, .ref m2, .ref m3, .ref wt, .ref hi, .int (nI tol), .int (nI tm), .int (nI fs), .int (nI sd), .int (nI rj), .long er])), (wt, .inl (cW, 4, .inr (.inr (.inr (.inr wf))))), (w0, .inr (3, [.int (nI (wb 0)), .long (wl 0), .int (wu 0), .int (wa 0)])), (w1, .inr (3, [.int (nI (wb 1)), .long (wl 1), .int (wu 1), .int (wa 1)])), (w2, .inr (3, [.int (nI (wb 2)), .long (wl 2), .int (wu 2), .int (wa 2)])), (w3, .inr (3, [.int (nI (wb 3)), .long (wl 3), .int (wu 3), .int (wa 3)]))] H := hP
                have hD : va_D A [(o, .inr (4, [.int (nI n), .ref sp, .ref m0, .ref m1, .ref m2, .ref m3, .ref wt, .ref hi, .int (nI tol), .int (nI tm), .int (nI fs), .int (nI sd), .int (nI rj), .long er])), (wt, .inl (cW, 4, .inr (.inr (.inr (.inr wf))))), (w0, .inr (3, [.int (nI (wb 0)), .long (wl 0), .int (wu 0), .int (wa 0)])), (w1, .inr (3, [.int (nI (wb 1)), .long (wl 1), .int (wu 1), .int (wa 1)])), (w2, .inr (3, [.int (nI (wb 2)), .long (wl 2), .int (wu 2), .int (wa 2)])), (w3, .inr (3, [.int (nI (wb 3)), .long (wl 3), .int (wu 3), .int (wa 3)]))] := hD
                subst hw
                refine lv_if_eq (tgt := 24) hx hb d_R_watchesSet_18 (by decide) (fun c18_4 => ?_) (fun c18_4 => ?_)
                · refine lv_iinc (v := (nI 4)) (lv' := [(2, .int (nI 4)), (1, .int (nI 2)), (0, .ref o)]) hx hb d_R_watchesSet_24 hl (k := 0) rfl (by decide) (by decide) rfl (fun ls hl => ?_)
                  refine lv_goto (tgt := 4) hx hb d_R_watchesSet_27 (by decide) ?_
                  refine lv_iload_n hx hb d_R_watchesSet_4 rfl (lv_at hl 0 rfl) ?_
                  refine lv_iconst (v := 4) hx hb d_R_watchesSet_5 (by decide) ?_
                  refine lv_icmp_ge (tgt := 30) hx hb d_R_watchesSet_6 (by decide) (fun c6_5 => ?_) (fun c6_5 => ?_)
                  · refine lv_iload_n hx hb d_R_watchesSet_30 rfl (lv_at hl 1 rfl) ?_
                    exact re_i (v := nI 2) () hx hb hr hlocks (by rw [zCnt, zSet_1 c18, c18_2, zSet_1 c18_3, c18_4]; decide) (hP.sub [0, 1, 2, 3, 4, 5] rfl) hK (hD.sub [0, 1, 2, 3, 4, 5] (by decide) rfl) hS d_R_watchesSet_31
                  · exact absurd c6_5 (by decide)
                · refine lv_iinc (v := (nI 3)) (lv' := [(1, .int (nI 3)), (2, .int (nI 3)), (0, .ref o)]) hx hb d_R_watchesSet_21 hl (k := 1) rfl (by decide) (by decide) rfl (fun ls hl => ?_)
                  refine lv_iinc (v := (nI 4)) (lv' := [(2, .int (nI 4)), (1, .int (nI 3)), (0, .ref o)]) hx hb d_R_watchesSet_24 hl (k := 1) rfl (by decide) (by decide) rfl (fun ls hl => ?_)
                  refine lv_goto (tgt := 4) hx hb d_R_watchesSet_27 (by decide) ?_
                  refine lv_iload_n hx hb d_R_watchesSet_4 rfl (lv_at hl 0 rfl) ?_
                  refine lv_iconst (v := 4) hx hb d_R_watchesSet_5 (by decide) ?_
                  refine lv_icmp_ge (tgt := 30) hx hb d_R_watchesSet_6 (by decide) (fun c6_5 => ?_) (fun c6_5 => ?_)
                  · refine lv_iload_n hx hb d_R_watchesSet_30 rfl (lv_at hl 1 rfl) ?_
                    exact re_i (v := nI 3) () hx hb hr hlocks (by rw [zCnt, zSet_1 c18, c18_2, zSet_1 c18_3, zSet_1 c18_4]; decide) (hP.sub [0, 1, 2, 3, 4, 5] rfl) hK (hD.sub [0, 1, 2, 3, 4, 5] (by decide) rfl) hS d_R_watchesSet_31
                  · exact absurd c6_5 (by decide)
        · refine lv_iinc (v := (nI 2)) (lv' := [(1, .int (nI 2)), (2, .int (nI 1)), (0, .ref o)]) hx hb d_R_watchesSet_21 hl (k := 1) rfl (by decide) (by decide) rfl (fun ls hl => ?_)
          refine lv_iinc (v := (nI 2)) (lv' := [(2, .int (nI 2)), (1, .int (nI 2)), (0, .ref o)]) hx hb d_R_watchesSet_24 hl (k := 1) rfl (by decide) (by decide) rfl (fun ls hl => ?_)
          refine lv_goto (tgt := 4) hx hb d_R_watchesSet_27 (by decide) ?_
          refine lv_iload_n hx hb d_R_watchesSet_4 rfl (lv_at hl 0 rfl) ?_
          refine lv_iconst (v := 4) hx hb d_R_watchesSet_5 (by decide) ?_
          refine lv_icmp_ge (tgt := 30) hx hb d_R_watchesSet_6 (by decide) (fun c6_3 => ?_) (fun c6_3 => ?_)
          · exact absurd c6_3 (by decide)
          · refine lv_aload_n hx hb d_R_watchesSet_9 rfl (lv_at hl 2 rfl) ?_
            refine va_get (D := D) (ci := 4) (v := .ref wt) (C := "OscillatorRow") (T := T_R) (N := 14) hx hb hT i_R hown hK hP 0 rfl rfl 6 (by decide) (hT _ k_120) (fun _ h9 => h9) rfl d_R_watchesSet_10 ?_
            refine lv_iload_n hx hb d_R_watchesSet_13 rfl (lv_at hl 0 rfl) ?_
            refine ra_aald (j := 2) hx hb hK hP 1 2 rfl rfl (by omega) (by omega) d_R_watchesSet_14 ?_
            refine top_q hw2 ?_
            have hPc := hP.sub (ws' := [(w2, .inr (3, [.int (nI (wb 2)), .long (wl 2), .int (wu 2), .int (wa 2)]))]) [2] rfl
            have hDc := hD.sub (ws' := [(w2, .inr (3, [.int (nI (wb 2)), .long (wl 2), .int (wu 2), .int (wa 2)]))]) [2] (by decide) rfl
            refine gc_i (w1 := fun (u : Unit) => [(w2, .inr (3, [.int (nI (wb 2)), .long (wl 2), .int (wu 2), .int (wa 2)]))]) (wc := [(w2, .inr (3, [.int (nI (wb 2)), .long (wl 2), .int (wu 2), .int (wa 2)]))]) (wr := [(o, .inr (4, [.int (nI n), .ref sp, .ref m0, .ref m1, .ref m2, .ref m3, .ref wt, .ref hi, .int (nI tol), .int (nI tm), .int (nI fs), .int (nI sd), .int (nI rj), .long er])), (wt, .inl (cW, 4, .inr (.inr (.inr (.inr wf))))), (w3, .inr (3, [.int (nI (wb 3)), .long (wl 3), .int (wu 3), .int (wa 3)])), (w0, .inr (3, [.int (nI (wb 0)), .long (wl 0), .int (wu 0), .int (wa 0)])), (w1, .inr (3, [.int (nI (wb 1)), .long (wl 1), .int (wu 1), .int (wa 1)]))]) hP hD hS hA [2] [0, 1, 3, 4, 5] rfl rfl (by decide) (by decide) (va_runV (As := []) (rest := []) ⟨hx, hb, hml, hown, hT⟩ (c_W_isset l D cI cL cW cZ w2 (nI (wb 2)) (wl 2) (wu 2) (wa 2) H.size) (cwV 0 hT (good_V k_320 k_273 k_274 k_5 k_275) rfl rfl rfl (by decide +kernel) ⟨Nat.le_of_ble_eq_true rfl, Nat.le_of_ble_eq_true rfl⟩) (pre_V hPc hDc hK hN (ci := 3) rfl rfl) rfl rfl hl.1 rfl (lv_room (Nat.le_of_ble_eq_true rfl)) d_R_watchesSet_15 ⟨(Nat.le_of_ble_eq_true rfl), (Nat.le_of_ble_eq_true rfl)⟩) (fun r u H locs hw hP hD hS => ?_)
            try dsimp only at hw
            have hP : va_P D vwCl [(o, .inr (4, [.int (nI n), .ref sp, .ref m0, .ref m1, .ref m2, .ref m3, .ref wt, .ref hi, .int (nI tol), .int (nI tm), .int (nI fs), .int (nI sd), .int (nI rj), .long er])), (wt, .inl (cW, 4, .inr (.inr (.inr (.inr wf))))), (w3, .inr (3, [.int (nI (wb 3)), .long (wl 3), .int (wu 3), .int (wa 3)])), (w0, .inr (3, [.int (nI (wb 0)), .long (wl 0), .int (wu 0), .int (wa 0)])), (w1, .inr (3, [.int (nI (wb 1)), .long (wl 1), .int (wu 1), .int (wa 1)])), (w2, .inr (3, [.int (nI (wb 2)), .long (wl 2), .int (wu 2), .int (wa 2)]))] H := hP
            have hD : va_D A [(o, .inr (4, [.int (nI n), .ref sp, .ref m0, .ref m1, .ref m2, .ref m3, .ref wt, .ref hi, .int (nI tol), .int (nI tm), .int (nI fs), .int (nI sd), .int (nI rj), .long er])), (wt, .inl (cW, 4, .inr (.inr (.inr (.inr wf))))), (w3, .inr (3, [.int (nI (wb 3)), .long (wl 3), .int (wu 3), .int (wa 3)])), (w0, .inr (3, [.int (nI (wb 0)), .long (wl 0), .int (wu 0), .int (wa 0)])), (w1, .inr (3, [.int (nI (wb 1)), .long (wl 1), .int (wu 1), .int (wa 1)])), (w2, .inr (3, [.int (nI (wb 2)), .long (wl 2), .int (wu 2), .int (wa 2)]))] := hD
            subst hw
            refine lv_if_eq (tgt := 24) hx hb d_R_watchesSet_18 (by decide) (fun c18_3 => ?_) (fun c18_3 => ?_)
            · refine lv_iinc (v := (nI 3)) (lv' := [(2, .int (nI 3)), (1, .int (nI 2)), (0, .ref o)]) hx hb d_R_watchesSet_24 hl (k := 0) rfl (by decide) (by decide) rfl (fun ls hl => ?_)
              refine lv_goto (tgt := 4) hx hb d_R_watchesSet_27 (by decide) ?_
              refine lv_iload_n hx hb d_R_watchesSet_4 rfl (lv_at hl 0 rfl) ?_
              refine lv_iconst (v := 4) hx hb d_R_watchesSet_5 (by decide) ?_
              refine lv_icmp_ge (tgt := 30) hx hb d_R_watchesSet_6 (by decide) (fun c6_4 => ?_) (fun c6_4 => ?_)
              · exact absurd c6_4 (by decide)
              · refine lv_aload_n hx hb d_R_watchesSet_9 rfl (lv_at hl 2 rfl) ?_
                refine va_get (D := D) (ci := 4) (v := .ref wt) (C := "OscillatorRow") (T := T_R) (N := 14) hx hb hT i_R hown hK hP 0 rfl rfl 6 (by decide) (hT _ k_120) (fun _ h9 => h9) rfl d_R_watchesSet_10 ?_
                refine lv_iload_n hx hb d_R_watchesSet_13 rfl (lv_at hl 0 rfl) ?_
                refine ra_aald (j := 3) hx hb hK hP 1 2 rfl rfl (by omega) (by omega) d_R_watchesSet_14 ?_
                refine top_q hw3 ?_
                have hPc := hP.sub (ws' := [(w3, .inr (3, [.int (nI (wb 3)), .long (wl 3), .int (wu 3), .int (wa 3)]))]) [2] rfl
                have hDc := hD.sub (ws' := [(w3, .inr (3, [.int (nI (wb 3)), .long (wl 3), .int (wu 3), .int (wa 3)]))]) [2] (by decide) rfl
                refine gc_i (w1 := fun (u : Unit) => [(w3, .inr (3, [.int (nI (wb 3)), .long (wl 3), .int (wu 3), .int (wa 3)]))]) (wc := [(w3, .inr (3, [.int (nI (wb 3)), .long (wl 3), .int (wu 3), .int (wa 3)]))]) (wr := [(o, .inr (4, [.int (nI n), .ref sp, .ref m0, .ref m1, .ref m2, .ref m3, .ref wt, .ref hi, .int (nI tol), .int (nI tm), .int (nI fs), .int (nI sd), .int (nI rj), .long er])), (wt, .inl (cW, 4, .inr (.inr (.inr (.inr wf))))), (w0, .inr (3, [.int (nI (wb 0)), .long (wl 0), .int (wu 0), .int (wa 0)])), (w1, .inr (3, [.int (nI (wb 1)), .long (wl 1), .int (wu 1), .int (wa 1)])), (w2, .inr (3, [.int (nI (wb 2)), .long (wl 2), .int (wu 2), .int (wa 2)]))]) hP hD hS hA [2] [0, 1, 3, 4, 5] rfl rfl (by decide) (by decide) (va_runV (As := []) (rest := []) ⟨hx, hb, hml, hown, hT⟩ (c_W_isset l D cI cL cW cZ w3 (nI (wb 3)) (wl 3) (wu 3) (wa 3) H.size) (cwV 0 hT (good_V k_320 k_273 k_274 k_5 k_275) rfl rfl rfl (by decide +kernel) ⟨Nat.le_of_ble_eq_true rfl, Nat.le_of_ble_eq_true rfl⟩) (pre_V hPc hDc hK hN (ci := 3) rfl rfl) rfl rfl hl.1 rfl (lv_room (Nat.le_of_ble_eq_true rfl)) d_R_watchesSet_15 ⟨(Nat.le_of_ble_eq_true rfl), (Nat.le_of_ble_eq_true rfl)⟩) (fun r u H locs hw hP hD hS => ?_)
                try dsimp only at hw
                have hP : va_P D vwCl [(o, .inr (4, [.int (nI n), .ref sp, .ref m0, .ref m1, .ref m2, .ref m3, .ref wt, .ref hi, .int (nI tol), .int (nI tm), .int (nI fs), .int (nI sd), .int (nI rj), .long er])), (wt, .inl (cW, 4, .inr (.inr (.inr (.inr wf))))), (w0, .inr (3, [.int (nI (wb 0)), .long (wl 0), .int (wu 0), .int (wa 0)])), (w1, .inr (3, [.int (nI (wb 1)), .long (wl 1), .int (wu 1), .int (wa 1)])), (w2, .inr (3, [.int (nI (wb 2)), .long (wl 2), .int (wu 2), .int (wa 2)])), (w3, .inr (3, [.int (nI (wb 3)), .long (wl 3), .int (wu 3), .int (wa 3)]))] H := hP
                have hD : va_D A [(o, .inr (4, [.int (nI n), .ref sp, .ref m0, .ref m1, .ref m2, .ref m3, .ref wt, .ref hi, .int (nI tol), .int (nI tm), .int (nI fs), .int (nI sd), .int (nI rj), .long er])), (wt, .inl (cW, 4, .inr (.inr (.inr (.inr wf))))), (w0, .inr (3, [.int (nI (wb 0)), .long (wl 0), .int (wu 0), .int (wa 0)])), (w1, .inr (3, [.int (nI (wb 1)), .long (wl 1), .int (wu 1), .int (wa 1)])), (w2, .inr (3, [.int (nI (wb 2)), .long (wl 2), .int (wu 2), .int (wa 2)])), (w3, .inr (3, [.int (nI (wb 3)), .long (wl 3), .int (wu 3), .int (wa 3)]))] := hD
                subst hw
                refine lv_if_eq (tgt := 24) hx hb d_R_watchesSet_18 (by decide) (fun c18_4 => ?_) (fun c18_4 => ?_)
                · refine lv_iinc (v := (nI 4)) (lv' := [(2, .int (nI 4)), (1, .int (nI 2)), (0, .ref o)]) hx hb d_R_watchesSet_24 hl (k := 0) rfl (by decide) (by decide) rfl (fun ls hl => ?_)
                  refine lv_goto (tgt := 4) hx hb d_R_watchesSet_27 (by decide) ?_
                  refine lv_iload_n hx hb d_R_watchesSet_4 rfl (lv_at hl 0 rfl) ?_
                  refine lv_iconst (v := 4) hx hb d_R_watchesSet_5 (by decide) ?_
                  refine lv_icmp_ge (tgt := 30) hx hb d_R_watchesSet_6 (by decide) (fun c6_5 => ?_) (fun c6_5 => ?_)
                  · refine lv_iload_n hx hb d_R_watchesSet_30 rfl (lv_at hl 1 rfl) ?_
                    exact re_i (v := nI 2) () hx hb hr hlocks (by rw [zCnt, zSet_1 c18, zSet_1 c18_2, c18_3, c18_4]; decide) (hP.sub [0, 1, 2, 3, 4, 5] rfl) hK (hD.sub [0, 1, 2, 3, 4, 5] (by decide) rfl) hS d_R_watchesSet_31
                  · exact absurd c6_5 (by decide)
                · refine lv_iinc (v := (nI 3)) (lv' := [(1, .int (nI 3)), (2, .int (nI 3)), (0, .ref o)]) hx hb d_R_watchesSet_21 hl (k := 1) rfl (by decide) (by decide) rfl (fun ls hl => ?_)
                  refine lv_iinc (v := (nI 4)) (lv' := [(2, .int (nI 4)), (1, .int (nI 3)), (0, .ref o)]) hx hb d_R_watchesSet_24 hl (k := 1) rfl (by decide) (by decide) rfl (fun ls hl => ?_)
                  refine lv_goto (tgt := 4) hx hb d_R_watchesSet_27 (by decide) ?_
                  refine lv_iload_n hx hb d_R_watchesSet_4 rfl (lv_at hl 0 rfl) ?_
                  refine lv_iconst (v := 4) hx hb d_R_watchesSet_5 (by decide) ?_
                  refine lv_icmp_ge (tgt := 30) hx hb d_R_watchesSet_6 (by decide) (fun c6_5 => ?_) (fun c6_5 => ?_)
                  · refine lv_iload_n hx hb d_R_watchesSet_30 rfl (lv_at hl 1 rfl) ?_
                    exact re_i (v := nI 3) () hx hb hr hlocks (by rw [zCnt, zSet_1 c18, zSet_1 c18_2, c18_3, zSet_1 c18_4]; decide) (hP.sub [0, 1, 2, 3, 4, 5] rfl) hK (hD.sub [0, 1, 2, 3, 4, 5] (by decide) rfl) hS d_R_watchesSet_31
                  · exact absurd c6_5 (by decide)
            · refine lv_iinc (v := (nI 3)) (lv' := [(1, .int (nI 3)), (2, .int (nI 2)), (0, .ref o)]) hx hb d_R_watchesSet_21 hl (k := 1) rfl (by decide) (by decide) rfl (fun ls hl => ?_)
              refine lv_iinc (v := (nI 3)) (lv' := [(2, .int (nI 3)), (1, .int (nI 3)), (0, .ref o)]) hx hb d_R_watchesSet_24 hl (k := 1) rfl (by decide) (by decide) rfl (fun ls hl => ?_)
              refine lv_goto (tgt := 4) hx hb d_R_watchesSet_27 (by decide) ?_
              refine lv_iload_n hx hb d_R_watchesSet_4 rfl (lv_at hl 0 rfl) ?_
              refine lv_iconst (v := 4) hx hb d_R_watchesSet_5 (by decide) ?_
              refine lv_icmp_ge (tgt := 30) hx hb d_R_watchesSet_6 (by decide) (fun c6_4 => ?_) (fun c6_4 => ?_)
              · exact absurd c6_4 (by decide)
              · refine lv_aload_n hx hb d_R_watchesSet_9 rfl (lv_at hl 2 rfl) ?_
                refine va_get (D := D) (ci := 4) (v := .ref wt) (C := "OscillatorRow") (T := T_R) (N := 14) hx hb hT i_R hown hK hP 0 rfl rfl 6 (by decide) (hT _ k_120) (fun _ h9 => h9) rfl d_R_watchesSet_10 ?_
                refine lv_iload_n hx hb d_R_watchesSet_13 rfl (lv_at hl 0 rfl) ?_
                refine ra_aald (j := 3) hx hb hK hP 1 2 rfl rfl (by omega) (by omega) d_R_watchesSet_14 ?_
                refine top_q hw3 ?_
                have hPc := hP.sub (ws' := [(w3, .inr (3, [.int (nI (wb 3)), .long (wl 3), .int (wu 3), .int (wa 3)]))]) [2] rfl
                have hDc := hD.sub (ws' := [(w3, .inr (3, [.int (nI (wb 3)), .long (wl 3), .int (wu 3), .int (wa 3)]))]) [2] (by decide) rfl
                refine gc_i (w1 := fun (u : Unit) => [(w3, .inr (3, [.int (nI (wb 3)), .long (wl 3), .int (wu 3), .int (wa 3)]))]) (wc := [(w3, .inr (3, [.int (nI (wb 3)), .long (wl 3), .int (wu 3), .int (wa 3)]))]) (wr := [(o, .inr (4, [.int (nI n), .ref sp, .ref m0, .ref m1, .ref m2, .ref m3, .ref wt, .ref hi, .int (nI tol), .int (nI tm), .int (nI fs), .int (nI sd), .int (nI rj), .long er])), (wt, .inl (cW, 4, .inr (.inr (.inr (.inr wf))))), (w0, .inr (3, [.int (nI (wb 0)), .long (wl 0), .int (wu 0), .int (wa 0)])), (w1, .inr (3, [.int (nI (wb 1)), .long (wl 1), .int (wu 1), .int (wa 1)])), (w2, .inr (3, [.int (nI (wb 2)), .long (wl 2), .int (wu 2), .int (wa 2)]))]) hP hD hS hA [2] [0, 1, 3, 4, 5] rfl rfl (by decide) (by decide) (va_runV (As := []) (rest := []) ⟨hx, hb, hml, hown, hT⟩ (c_W_isset l D cI cL cW cZ w3 (nI (wb 3)) (wl 3) (wu 3) (wa 3) H.size) (cwV 0 hT (good_V k_320 k_273 k_274 k_5 k_275) rfl rfl rfl (by decide +kernel) ⟨Nat.le_of_ble_eq_true rfl, Nat.le_of_ble_eq_true rfl⟩) (pre_V hPc hDc hK hN (ci := 3) rfl rfl) rfl rfl hl.1 rfl (lv_room (Nat.le_of_ble_eq_true rfl)) d_R_watchesSet_15 ⟨(Nat.le_of_ble_eq_true rfl), (Nat.le_of_ble_eq_true rfl)⟩) (fun r u H locs hw hP hD hS => ?_)
                try dsimp only at hw
                have hP : va_P D vwCl [(o, .inr (4, [.int (nI n), .ref sp, .ref m0, .ref m1, .ref m2, .ref m3, .ref wt, .ref hi, .int (nI tol), .int (nI tm), .int (nI fs), .int (nI sd), .int (nI rj), .long er])), (wt, .inl (cW, 4, .inr (.inr (.inr (.inr wf))))), (w0, .inr (3, [.int (nI (wb 0)), .long (wl 0), .int (wu 0), .int (wa 0)])), (w1, .inr (3, [.int (nI (wb 1)), .long (wl 1), .int (wu 1), .int (wa 1)])), (w2, .inr (3, [.int (nI (wb 2)), .long (wl 2), .int (wu 2), .int (wa 2)])), (w3, .inr (3, [.int (nI (wb 3)), .long (wl 3), .int (wu 3), .int (wa 3)]))] H := hP
                have hD : va_D A [(o, .inr (4, [.int (nI n), .ref sp, .ref m0, .ref m1, .ref m2, .ref m3, .ref wt, .ref hi, .int (nI tol), .int (nI tm), .int (nI fs), .int (nI sd), .int (nI rj), .long er])), (wt, .inl (cW, 4, .inr (.inr (.inr (.inr wf))))), (w0, .inr (3, [.int (nI (wb 0)), .long (wl 0), .int (wu 0), .int (wa 0)])), (w1, .inr (3, [.int (nI (wb 1)), .long (wl 1), .int (wu 1), .int (wa 1)])), (w2, .inr (3, [.int (nI (wb 2)), .long (wl 2), .int (wu 2), .int (wa 2)])), (w3, .inr (3, [.int (nI (wb 3)), .long (wl 3), .int (wu 3), .int (wa 3)]))] := hD
                subst hw
                refine lv_if_eq (tgt := 24) hx hb d_R_watchesSet_18 (by decide) (fun c18_4 => ?_) (fun c18_4 => ?_)
                · refine lv_iinc (v := (nI 4)) (lv' := [(2, .int (nI 4)), (1, .int (nI 3)), (0, .ref o)]) hx hb d_R_watchesSet_24 hl (k := 0) rfl (by decide) (by decide) rfl (fun ls hl => ?_)
                  refine lv_goto (tgt := 4) hx hb d_R_watchesSet_27 (by decide) ?_
                  refine lv_iload_n hx hb d_R_watchesSet_4 rfl (lv_at hl 0 rfl) ?_
                  refine lv_iconst (v := 4) hx hb d_R_watchesSet_5 (by decide) ?_
                  refine lv_icmp_ge (tgt := 30) hx hb d_R_watchesSet_6 (by decide) (fun c6_5 => ?_) (fun c6_5 => ?_)
                  · refine lv_iload_n hx hb d_R_watchesSet_30 rfl (lv_at hl 1 rfl) ?_
                    exact re_i (v := nI 3) () hx hb hr hlocks (by rw [zCnt, zSet_1 c18, zSet_1 c18_2, zSet_1 c18_3, c18_4]; decide) (hP.sub [0, 1, 2, 3, 4, 5] rfl) hK (hD.sub [0, 1, 2, 3, 4, 5] (by decide) rfl) hS d_R_watchesSet_31
                  · exact absurd c6_5 (by decide)
                · refine lv_iinc (v := (nI 4)) (lv' := [(1, .int (nI 4)), (2, .int (nI 3)), (0, .ref o)]) hx hb d_R_watchesSet_21 hl (k := 1) rfl (by decide) (by decide) rfl (fun ls hl => ?_)
                  refine lv_iinc (v := (nI 4)) (lv' := [(2, .int (nI 4)), (1, .int (nI 4)), (0, .ref o)]) hx hb d_R_watchesSet_24 hl (k := 1) rfl (by decide) (by decide) rfl (fun ls hl => ?_)
                  refine lv_goto (tgt := 4) hx hb d_R_watchesSet_27 (by decide) ?_
                  refine lv_iload_n hx hb d_R_watchesSet_4 rfl (lv_at hl 0 rfl) ?_
                  refine lv_iconst (v := 4) hx hb d_R_watchesSet_5 (by decide) ?_
                  refine lv_icmp_ge (tgt := 30) hx hb d_R_watchesSet_6 (by decide) (fun c6_5 => ?_) (fun c6_5 => ?_)
                  · refine lv_iload_n hx hb d_R_watchesSet_30 rfl (lv_at hl 1 rfl) ?_
                    exact re_i (v := nI 4) () hx hb hr hlocks (by rw [zCnt, zSet_1 c18, zSet_1 c18_2, zSet_1 c18_3, zSet_1 c18_4]; decide) (hP.sub [0, 1, 2, 3, 4, 5] rfl) hK (hD.sub [0, 1, 2, 3, 4, 5] (by decide) rfl) hS d_R_watchesSet_31
                  · exact absurd c6_5 (by decide)
set_option maxHeartbeats 4000000 in
set_option maxRecDepth 100000 in
theorem c_R_count (l : Launch) (D : va_G) (cI cL cW cZ : ClassId) (o : Nat) (n : Nat) (sp : Nat) (m0 : Nat) (m1 : Nat) (m2 : Nat) (m3 : Nat) (wt : Nat) (hi : Nat) (tol : Nat) (tm : Nat) (fs : Nat) (sd : Nat) (rj : Nat) (er : Int64) (wf : Nat → Option Nat) (w0 : Nat) (w1 : Nat) (w2 : Nat) (w3 : Nat) (wb : Nat → Nat) (wl : Nat → Int64) (wu : Nat → Int32) (wa : Nat → Int32) (a1 : Nat) (a2 : Nat) (a3 : Nat) (ct : Nat) (f1 : Nat → Int32) (f2 : Nat → Int32) (f3 : Nat → Int32) (ia : Int32) (sz : Nat) (hn : n ≤ 4) (hw0 : wf 0 = some w0) (hw1 : wf 1 = some w1) (hw2 : wf 2 = some w2) (hw3 : wf 3 = some w3) : Met l y_R_count w_R_count ({ frames := 2, cells := 0, slots := 0, locals := 42 }) (va_Pc [.ref o, .int ia] (gP D vwCl (tyv cI cL cW cZ) [(o, .inr (4, [.int (nI n), .ref sp, .ref m0, .ref m1, .ref m2, .ref m3, .ref wt, .ref hi, .int (nI tol), .int (nI tm), .int (nI fs), .int (nI sd), .int (nI rj), .long er])), (wt, .inl (cW, 4, .inr (.inr (.inr (.inr wf))))), (w0, .inr (3, [.int (nI (wb 0)), .long (wl 0), .int (wu 0), .int (wa 0)])), (w1, .inr (3, [.int (nI (wb 1)), .long (wl 1), .int (wu 1), .int (wa 1)])), (w2, .inr (3, [.int (nI (wb 2)), .long (wl 2), .int (wu 2), .int (wa 2)])), (w3, .inr (3, [.int (nI (wb 3)), .long (wl 3), .int (wu 3), .int (wa 3)])), (hi, .inr (0, [.ref a1, .ref a2, .ref a3, .int (nI ct)])), (a1, .inl (cI, 40, .inl f1)), (a2, .inl (cI, 40, .inl f2)), (a3, .inl (cI, 40, .inl f3))] sz)) (va_Qi (fun (r : Int32) (u : Unit) => r = zCcount n tm fs sd rj ct er wa ia) (fun u t => gB D vwCl (tyv cI cL cW cZ) (va_A [(o, .inr (4, [.int (nI n), .ref sp, .ref m0, .ref m1, .ref m2, .ref m3, .ref wt, .ref hi, .int (nI tol), .int (nI tm), .int (nI fs), .int (nI sd), .int (nI rj), .long er])), (wt, .inl (cW, 4, .inr (.inr (.inr (.inr wf))))), (w0, .inr (3, [.int (nI (wb 0)), .long (wl 0), .int (wu 0), .int (wa 0)])), (w1, .inr (3, [.int (nI (wb 1)), .long (wl 1), .int (wu 1), .int (wa 1)])), (w2, .inr (3, [.int (nI (wb 2)), .long (wl 2), .int (wu 2), .int (wa 2)])), (w3, .inr (3, [.int (nI (wb 3)), .long (wl 3), .int (wu 3), .int (wa 3)])), (hi, .inr (0, [.ref a1, .ref a2, .ref a3, .int (nI ct)])), (a1, .inl (cI, 40, .inl f1)), (a2, .inl (cI, 40, .inl f2)), (a3, .inl (cI, 40, .inl f3))] sz) [(o, .inr (4, [.int (nI n), .ref sp, .ref m0, .ref m1, .ref m2, .ref m3, .ref wt, .ref hi, .int (nI tol), .int (nI tm), .int (nI fs), .int (nI sd), .int (nI rj), .long er])), (wt, .inl (cW, 4, .inr (.inr (.inr (.inr wf))))), (w0, .inr (3, [.int (nI (wb 0)), .long (wl 0), .int (wu 0), .int (wa 0)])), (w1, .inr (3, [.int (nI (wb 1)), .long (wl 1), .int (wu 1), .int (wa 1)])), (w2, .inr (3, [.int (nI (wb 2)), .long (wl 2), .int (wu 2), .int (wa 2)])), (w3, .inr (3, [.int (nI (wb 3)), .long (wl 3), .int (wu 3), .int (wa 3)])), (hi, .inr (0, [.ref a1, .ref a2, .ref a3, .int (nI ct)])), (a1, .inl (cI, 40, .inl f1)), (a2, .inl (cI, 40, .inl f2)), (a3, .inl (cI, 40, .inl f3))] t) (va_A [(o, .inr (4, [.int (nI n), .ref sp, .ref m0, .ref m1, .ref m2, .ref m3, .ref wt, .ref hi, .int (nI tol), .int (nI tm), .int (nI fs), .int (nI sd), .int (nI rj), .long er])), (wt, .inl (cW, 4, .inr (.inr (.inr (.inr wf))))), (w0, .inr (3, [.int (nI (wb 0)), .long (wl 0), .int (wu 0), .int (wa 0)])), (w1, .inr (3, [.int (nI (wb 1)), .long (wl 1), .int (wu 1), .int (wa 1)])), (w2, .inr (3, [.int (nI (wb 2)), .long (wl 2), .int (wu 2), .int (wa 2)])), (w3, .inr (3, [.int (nI (wb 3)), .long (wl 3), .int (wu 3), .int (wa 3)])), (hi, .inr (0, [.ref a1, .ref a2, .ref a3, .int (nI ct)])), (a1, .inl (cI, 40, .inl f1)), (a2, .inl (cI, 40, .inl f2)), (a3, .inl (cI, 40, .inl f3))] sz)) 0 0 (va_A [(o, .inr (4, [.int (nI n), .ref sp, .ref m0, .ref m1, .ref m2, .ref m3, .ref wt, .ref hi, .int (nI tol), .int (nI tm), .int (nI fs), .int (nI sd), .int (nI rj), .long er])), (wt, .inl (cW, 4, .inr (.inr (.inr (.inr wf))))), (w0, .inr (3, [.int (nI (wb 0)), .long (wl 0), .int (wu 0), .int (wa 0)])), (w1, .inr (3, [.int (nI (wb 1)), .long (wl 1), .int (wu 1), .int (wa 1)])), (w2, .inr (3, [.int (nI (wb 2)), .long (wl 2), .int (wu 2), .int (wa 2)])), (w3, .inr (3, [.int (nI (wb 3)), .long (wl 3), .int (wu 3), .int (wa 3)])), (hi, .inr (0, [.ref a1, .ref a2, .ref a3, .int (nI ct)])), (a1, .inl (cI, 40, .inl f1)), (a2, .inl (cI, 40, .inl f2)), (a3, .inl (cI, 40, .inl f3))] sz) := by
  refine met_go (cc := prog_1_method_14_code) (maxL := 2) (ret := (some .int)) (QA := fun A => va_Qi (fun (r : Int32) (u : Unit) => r = zCcount n tm fs sd rj ct er wa ia) (fun u t => gB D vwCl (tyv cI cL cW cZ) A [(o, .inr (4, [.int (nI n), .ref sp, .ref m0, .ref m1, .ref m2, .ref m3, .ref wt, .ref hi, .int (nI tol), .int (nI tm), .int (nI fs), .int (nI sd), .int (nI rj), .long er])), (wt, .inl (cW, 4, .inr (.inr (.inr (.inr wf))))), (w0, .inr (3, [.int (nI (wb 0)), .long (wl 0), .int (wu 0), .int (wa 0)])), (w1, .inr (3, [.int (nI (wb 1)), .long (wl 1), .int (wu 1), .int (wa 1)])), (w2, .inr (3, [.int (nI (wb 2)), .long (wl 2), .int (wu 2), .int (wa 2)])), (w3, .inr (3, [.int (nI (wb 3)), .long (wl 3), .int (wu 3), .int (wa 3)])), (hi, .inr (0, [.ref a1, .ref a2, .ref a3, .int (nI ct)])), (a1, .inl (cI, 40, .inl f1)), (a2, .inl (cI, 40, .inl f2)), (a3, .inl (cI, 40, .inl f3))] t) A) (by decide) (Nat.le_of_ble_eq_true rfl) ?_
  intro p e s m below meth c A ls hx hb hr hml hT hN hown hlocks hin hl hP hK hD hA hS
  have hl : lv_has ls 2 [(0, .ref o), (1, .int ia)] := hl
  refine lv_iload_n hx hb d_R_count_0 rfl (lv_at hl 1 rfl) ?_
  by_cases k1_0 : ia = 0
  · refine lv_tableIn (tgt := 48) hx hb d_R_count_1 (by rw [k1_0]; decide) (by rw [k1_0]; decide) (by rw [k1_0]; rfl) (by decide) ?_
    refine lv_aload_n hx hb d_R_count_48 rfl (lv_at hl 0 rfl) ?_
    refine va_get (D := D) (ci := 4) (v := .int (nI tm)) (C := "OscillatorRow") (T := T_R) (N := 14) hx hb hT i_R hown hK hP 0 rfl rfl 9 (by decide) (hT _ k_123) (fun _ h9 => h9) rfl d_R_count_49 ?_
    exact re_i (v := nI tm) () hx hb hr hlocks (by rw [zCcount, if_pos k1_0]) (hP.sub [0, 1, 2, 3, 4, 5, 6, 7, 8, 9] rfl) hK (hD.sub [0, 1, 2, 3, 4, 5, 6, 7, 8, 9] (by decide) rfl) hS d_R_count_52
  by_cases k1_1 : ia = 1
  · refine lv_tableIn (tgt := 53) hx hb d_R_count_1 (by rw [k1_1]; decide) (by rw [k1_1]; decide) (by rw [k1_1]; rfl) (by decide) ?_
    refine lv_aload_n hx hb d_R_count_53 rfl (lv_at hl 0 rfl) ?_
    refine va_get (D := D) (ci := 4) (v := .int (nI fs)) (C := "OscillatorRow") (T := T_R) (N := 14) hx hb hT i_R hown hK hP 0 rfl rfl 10 (by decide) (hT _ k_124) (fun _ h9 => h9) rfl d_R_count_54 ?_
    exact re_i (v := nI fs) () hx hb hr hlocks (by rw [zCcount, if_neg k1_0, if_pos k1_1]) (hP.sub [0, 1, 2, 3, 4, 5, 6, 7, 8, 9] rfl) hK (hD.sub [0, 1, 2, 3, 4, 5, 6, 7, 8, 9] (by decide) rfl) hS d_R_count_57
  by_cases k1_2 : ia = 2
  · refine lv_tableIn (tgt := 58) hx hb d_R_count_1 (by rw [k1_2]; decide) (by rw [k1_2]; decide) (by rw [k1_2]; rfl) (by decide) ?_
    refine lv_aload_n hx hb d_R_count_58 rfl (lv_at hl 0 rfl) ?_
    refine va_get (D := D) (ci := 4) (v := .int (nI sd)) (C := "OscillatorRow") (T := T_R) (N := 14) hx hb hT i_R hown hK hP 0 rfl rfl 11 (by decide) (hT _ k_125) (fun _ h9 => h9) rfl d_R_count_59 ?_
    exact re_i (v := nI sd) () hx hb hr hlocks (by rw [zCcount, if_neg k1_0, if_neg k1_1, if_pos k1_2]) (hP.sub [0, 1, 2, 3, 4, 5, 6, 7, 8, 9] rfl) hK (hD.sub [0, 1, 2, 3, 4, 5, 6, 7, 8, 9] (by decide) rfl) hS d_R_count_62
  by_cases k1_3 : ia = 3
  · refine lv_tableIn (tgt := 63) hx hb d_R_count_1 (by rw [k1_3]; decide) (by rw [k1_3]; decide) (by rw [k1_3]; rfl) (by decide) ?_
    refine lv_aload_n hx hb d_R_count_63 rfl (lv_at hl 0 rfl) ?_
    refine va_get (D := D) (ci := 4) (v := .int (nI rj)) (C := "OscillatorRow") (T := T_R) (N := 14) hx hb hT i_R hown hK hP 0 rfl rfl 12 (by decide) (hT _ k_126) (fun _ h9 => h9) rfl d_R_count_64 ?_
    exact re_i (v := nI rj) () hx hb hr hlocks (by rw [zCcount, if_neg k1_0, if_neg k1_1, if_neg k1_2, if_pos k1_3]) (hP.sub [0, 1, 2, 3, 4, 5, 6, 7, 8, 9] rfl) hK (hD.sub [0, 1, 2, 3, 4, 5, 6, 7, 8, 9] (by decide) rfl) hS d_R_count_67
  by_cases k1_4 : ia = 4
  · refine lv_tableIn (tgt := 68) hx hb d_R_count_1 (by rw [k1_4]; decide) (by rw [k1_4]; decide) (by rw [k1_4]; rfl) (by decide) ?_
    refine lv_aload_n hx hb d_R_count_68 rfl (lv_at hl 0 rfl) ?_
    refine va_get (D := D) (ci := 4) (v := .ref hi) (C := "OscillatorRow") (T := T_R) (N := 14) hx hb hT i_R hown hK hP 0 rfl rfl 7 (by decide) (hT _ k_121) (fun _ h9 => h9) rfl d_R_count_69 ?_
    refine va_getN (D := D) (ci := 0) (v := .int (nI ct)) (C := "OscillatorRow$Hits") (T := T_H) (N := 4) hx hb hT i_H hown hK hP 6 rfl rfl 3 (by decide) (va_Nw.use rfl (hN _ j_104)) (fun _ h9 => h9) rfl d_R_count_72 ?_
    exact re_i (v := nI ct) () hx hb hr hlocks (by rw [zCcount, if_neg k1_0, if_neg k1_1, if_neg k1_2, if_neg k1_3, if_pos k1_4]) (hP.sub [0, 1, 2, 3, 4, 5, 6, 7, 8, 9] rfl) hK (hD.sub [0, 1, 2, 3, 4, 5, 6, 7, 8, 9] (by decide) rfl) hS d_R_count_75
  by_cases k1_5 : ia = 5
  · refine lv_tableIn (tgt := 76) hx hb d_R_count_1 (by rw [k1_5]; decide) (by rw [k1_5]; decide) (by rw [k1_5]; rfl) (by decide) ?_
    refine lv_aload_n hx hb d_R_count_76 rfl (lv_at hl 0 rfl) ?_
    refine va_get (D := D) (ci := 4) (v := .long er) (C := "OscillatorRow") (T := T_R) (N := 14) hx hb hT i_R hown hK hP 0 rfl rfl 13 (by decide) (hT _ k_127) (fun _ h9 => h9) rfl d_R_count_77 ?_
    refine lv_l2i hx hb d_R_count_80 rfl ?_
    exact re_i (v := er.toInt32) () hx hb hr hlocks (by rw [zCcount, if_neg k1_0, if_neg k1_1, if_neg k1_2, if_neg k1_3, if_neg k1_4, if_pos k1_5]) (hP.sub [0, 1, 2, 3, 4, 5, 6, 7, 8, 9] rfl) hK (hD.sub [0, 1, 2, 3, 4, 5, 6, 7, 8, 9] (by decide) rfl) hS d_R_count_81
  by_cases k1_6 : ia = 6
  · refine lv_tableIn (tgt := 82) hx hb d_R_count_1 (by rw [k1_6]; decide) (by rw [k1_6]; decide) (by rw [k1_6]; rfl) (by decide) ?_
    refine lv_aload_n hx hb d_R_count_82 rfl (lv_at hl 0 rfl) ?_
    refine va_get (D := D) (ci := 4) (v := .int (nI n)) (C := "OscillatorRow") (T := T_R) (N := 14) hx hb hT i_R hown hK hP 0 rfl rfl 0 (by decide) (hT _ k_114) (fun _ h9 => h9) rfl d_R_count_83 ?_
    exact re_i (v := nI n) () hx hb hr hlocks (by rw [zCcount, if_neg k1_0, if_neg k1_1, if_neg k1_2, if_neg k1_3, if_neg k1_4, if_neg k1_5, if_pos k1_6]) (hP.sub [0, 1, 2, 3, 4, 5, 6, 7, 8, 9] rfl) hK (hD.sub [0, 1, 2, 3, 4, 5, 6, 7, 8, 9] (by decide) rfl) hS d_R_count_86
  by_cases k1_7 : ia = 7
  · refine lv_tableIn (tgt := 87) hx hb d_R_count_1 (by rw [k1_7]; decide) (by rw [k1_7]; decide) (by rw [k1_7]; rfl) (by decide) ?_
    refine lv_aload_n hx hb d_R_count_87 rfl (lv_at hl 0 rfl) ?_
    have hPc := hP.sub (ws' := [(o, .inr (4, [.int (nI n), .ref sp, .ref m0, .ref m1, .ref m2, .ref m3, .ref wt, .ref hi, .int (nI tol), .int (nI tm), .int (nI fs), .int (nI sd), .int (nI rj), .long er])), (wt, .inl (cW, 4, .inr (.inr (.inr (.inr wf))))), (w0, .inr (3, [.int (nI (wb 0)), .long (wl 0), .int (wu 0), .int (wa 0)])), (w1, .inr (3, [.int (nI (wb 1)), .long (wl 1), .int (wu 1), .int (wa 1)])), (w2, .inr (3, [.int (nI (wb 2)), .long (wl 2), .int (wu 2), .int (wa 2)])), (w3, .inr (3, [.int (nI (wb 3)), .long (wl 3), .int (wu 3), .int (wa 3)]))]) [0, 1, 2, 3, 4, 5] rfl
    have hDc := hD.sub (ws' := [(o, .inr (4, [.int (nI n), .ref sp, .ref m0, .ref m1, .ref m2, .ref m3, .ref wt, .ref hi, .int (nI tol), .int (nI tm), .int (nI fs), .int (nI sd), .int (nI rj), .long er])), (wt, .inl (cW, 4, .inr (.inr (.inr (.inr wf))))), (w0, .inr (3, [.int (nI (wb 0)), .long (wl 0), .int (wu 0), .int (wa 0)])), (w1, .inr (3, [.int (nI (wb 1)), .long (wl 1), .int (wu 1), .int (wa 1)])), (w2, .inr (3, [.int (nI (wb 2)), .long (wl 2), .int (wu 2), .int (wa 2)])), (w3, .inr (3, [.int (nI (wb 3)), .long (wl 3), .int (wu 3), .int (wa 3)]))]) [0, 1, 2, 3, 4, 5] (by decide) rfl
    refine gc_i (w1 := fun (u : Unit) => [(o, .inr (4, [.int (nI n), .ref sp, .ref m0, .ref m1, .ref m2, .ref m3, .ref wt, .ref hi, .int (nI tol), .int (nI tm), .int (nI fs), .int (nI sd), .int (nI rj), .long er])), (wt, .inl (cW, 4, .inr (.inr (.inr (.inr wf))))), (w0, .inr (3, [.int (nI (wb 0)), .long (wl 0), .int (wu 0), .int (wa 0)])), (w1, .inr (3, [.int (nI (wb 1)), .long (wl 1), .int (wu 1), .int (wa 1)])), (w2, .inr (3, [.int (nI (wb 2)), .long (wl 2), .int (wu 2), .int (wa 2)])), (w3, .inr (3, [.int (nI (wb 3)), .long (wl 3), .int (wu 3), .int (wa 3)]))]) (wc := [(o, .inr (4, [.int (nI n), .ref sp, .ref m0, .ref m1, .ref m2, .ref m3, .ref wt, .ref hi, .int (nI tol), .int (nI tm), .int (nI fs), .int (nI sd), .int (nI rj), .long er])), (wt, .inl (cW, 4, .inr (.inr (.inr (.inr wf))))), (w0, .inr (3, [.int (nI (wb 0)), .long (wl 0), .int (wu 0), .int (wa 0)])), (w1, .inr (3, [.int (nI (wb 1)), .long (wl 1), .int (wu 1), .int (wa 1)])), (w2, .inr (3, [.int (nI (wb 2)), .long (wl 2), .int (wu 2), .int (wa 2)])), (w3, .inr (3, [.int (nI (wb 3)), .long (wl 3), .int (wu 3), .int (wa 3)]))]) (wr := [(hi, .inr (0, [.ref a1, .ref a2, .ref a3, .int (nI ct)])), (a1, .inl (cI, 40, .inl f1)), (a2, .inl (cI, 40, .inl f2)), (a3, .inl (cI, 40, .inl f3))]) hP hD hS hA [0, 1, 2, 3, 4, 5] [6, 7, 8, 9] rfl rfl (by decide) (by decide) (va_runV (As := []) (rest := []) ⟨hx, hb, hml, hown, hT⟩ (c_R_wset l D cI cL cW cZ o n sp m0 m1 m2 m3 wt hi tol tm fs sd rj er wf w0 w1 w2 w3 wb wl wu wa s.heap.size hw0 hw1 hw2 hw3) (cwV 0 hT (good_V k_316 k_318 p_9 k_1 k_319) rfl rfl rfl (by decide +kernel) ⟨Nat.le_of_ble_eq_true rfl, Nat.le_of_ble_eq_true rfl⟩) (pre_V hPc hDc hK hN (ci := 4) rfl rfl) rfl rfl hl.1 rfl (lv_room (Nat.le_of_ble_eq_true rfl)) d_R_count_88 ⟨(Nat.le_of_ble_eq_true rfl), (Nat.le_of_ble_eq_true rfl)⟩) (fun r u H locs hw hP hD hS => ?_)
    try dsimp only at hw
    have hP : va_P D vwCl [(hi, .inr (0, [.ref a1, .ref a2, .ref a3, .int (nI ct)])), (a1, .inl (cI, 40, .inl f1)), (a2, .inl (cI, 40, .inl f2)), (a3, .inl (cI, 40, .inl f3)), (o, .inr (4, [.int (nI n), .ref sp, .ref m0, .ref m1, .ref m2, .ref m3, .ref wt, .ref hi, .int (nI tol), .int (nI tm), .int (nI fs), .int (nI sd), .int (nI rj), .long er])), (wt, .inl (cW, 4, .inr (.inr (.inr (.inr wf))))), (w0, .inr (3, [.int (nI (wb 0)), .long (wl 0), .int (wu 0), .int (wa 0)])), (w1, .inr (3, [.int (nI (wb 1)), .long (wl 1), .int (wu 1), .int (wa 1)])), (w2, .inr (3, [.int (nI (wb 2)), .long (wl 2), .int (wu 2), .int (wa 2)])), (w3, .inr (3, [.int (nI (wb 3)), .long (wl 3), .int (wu 3), .int (wa 3)]))] H := hP
    have hD : va_D A [(hi, .inr (0, [.ref a1, .ref a2, .ref a3, .int (nI ct)])), (a1, .inl (cI, 40, .inl f1)), (a2, .inl (cI, 40, .inl f2)), (a3, .inl (cI, 40, .inl f3)), (o, .inr (4, [.int (nI n), .ref sp, .ref m0, .ref m1, .ref m2, .ref m3, .ref wt, .ref hi, .int (nI tol), .int (nI tm), .int (nI fs), .int (nI sd), .int (nI rj), .long er])), (wt, .inl (cW, 4, .inr (.inr (.inr (.inr wf))))), (w0, .inr (3, [.int (nI (wb 0)), .long (wl 0), .int (wu 0), .int (wa 0)])), (w1, .inr (3, [.int (nI (wb 1)), .long (wl 1), .int (wu 1), .int (wa 1)])), (w2, .inr (3, [.int (nI (wb 2)), .long (wl 2), .int (wu 2), .int (wa 2)])), (w3, .inr (3, [.int (nI (wb 3)), .long (wl 3), .int (wu 3), .int (wa 3)]))] := hD
    subst hw
    exact re_i (v := zCnt wa) () hx hb hr hlocks (by rw [zCcount, if_neg k1_0, if_neg k1_1, if_neg k1_2, if_neg k1_3, if_neg k1_4, if_neg k1_5, if_neg k1_6, if_pos k1_7]) (hP.sub [4, 5, 6, 7, 8, 9, 0, 1, 2, 3] rfl) hK (hD.sub [4, 5, 6, 7, 8, 9, 0, 1, 2, 3] (by decide) rfl) hS d_R_count_91
  refine lv_tableOut (tgt := 92) hx hb d_R_count_1 (tb_out (fun z z1 z2 ez => ?_)) (by decide) ?_
  · rcases (show z = 0 ∨ z = 1 ∨ z = 2 ∨ z = 3 ∨ z = 4 ∨ z = 5 ∨ z = 6 ∨ z = 7 by omega) with rfl | rfl | rfl | rfl | rfl | rfl | rfl | rfl
    · exact k1_0 (Int32.toInt_inj.mp (ez.trans (by decide)))
    · exact k1_1 (Int32.toInt_inj.mp (ez.trans (by decide)))
    · exact k1_2 (Int32.toInt_inj.mp (ez.trans (by decide)))
    · exact k1_3 (Int32.toInt_inj.mp (ez.trans (by decide)))
    · exact k1_4 (Int32.toInt_inj.mp (ez.trans (by decide)))
    · exact k1_5 (Int32.toInt_inj.mp (ez.trans (by decide)))
    · exact k1_6 (Int32.toInt_inj.mp (ez.trans (by decide)))
    · exact k1_7 (Int32.toInt_inj.mp (ez.trans (by decide)))
  refine lv_iconst (v := (-1)) hx hb d_R_count_92 (by decide) ?_
  exact re_i (v := (-1)) () hx hb hr hlocks (by rw [zCcount, if_neg k1_0, if_neg k1_1, if_neg k1_2, if_neg k1_3, if_neg k1_4, if_neg k1_5, if_neg k1_6, if_neg k1_7]) (hP.sub [0, 1, 2, 3, 4, 5, 6, 7, 8, 9] rfl) hK (hD.sub [0, 1, 2, 3, 4, 5, 6, 7, 8, 9] (by decide) rfl) hS d_R_count_93
set_option maxHeartbeats 4000000 in
set_option maxRecDepth 100000 in
theorem c_R_watch (l : Launch) (D : va_G) (cI cL cW cZ : ClassId) (o : Nat) (n : Nat) (sp : Nat) (m0 : Nat) (m1 : Nat) (m2 : Nat) (m3 : Nat) (wt : Nat) (hi : Nat) (tol : Nat) (tm : Nat) (fs : Nat) (sd : Nat) (rj : Nat) (er : Int64) (wf : Nat → Option Nat) (w0 : Nat) (w1 : Nat) (w2 : Nat) (w3 : Nat) (wb : Nat → Nat) (wl : Nat → Int64) (wu : Nat → Int32) (wa : Nat → Int32) (ia : Int32) (ib : Int32) (ic : Int32) (id : Int32) (ie : Int32) (sz : Nat) (hn : n ≤ 4) (hw0 : wf 0 = some w0) (hw1 : wf 1 = some w1) (hw2 : wf 2 = some w2) (hw3 : wf 3 = some w3) (hup : id = 0 ∨ id = 1) : Met l y_R_watch w_R_watch ({ frames := 1, cells := 0, slots := 0, locals := 21 }) (va_Pc [.ref o, .int ia, .int ib, .int ic, .int id, .int ie] (gP D vwCl (tyv cI cL cW cZ) [(o, .inr (4, [.int (nI n), .ref sp, .ref m0, .ref m1, .ref m2, .ref m3, .ref wt, .ref hi, .int (nI tol), .int (nI tm), .int (nI fs), .int (nI sd), .int (nI rj), .long er])), (wt, .inl (cW, 4, .inr (.inr (.inr (.inr wf))))), (w0, .inr (3, [.int (nI (wb 0)), .long (wl 0), .int (wu 0), .int (wa 0)])), (w1, .inr (3, [.int (nI (wb 1)), .long (wl 1), .int (wu 1), .int (wa 1)])), (w2, .inr (3, [.int (nI (wb 2)), .long (wl 2), .int (wu 2), .int (wa 2)])), (w3, .inr (3, [.int (nI (wb 3)), .long (wl 3), .int (wu 3), .int (wa 3)]))] sz)) (va_Qi (fun (r : Int32) (u : (Nat → Nat) × (Nat → Int64) × (Nat → Int32) × (Nat → Int32)) => (r, u.1, u.2.1, u.2.2.1, u.2.2.2) = zCwatch n ia ib ic id ie wb wl wu wa) (fun u t => gB D vwCl (tyv cI cL cW cZ) (va_A [(o, .inr (4, [.int (nI n), .ref sp, .ref m0, .ref m1, .ref m2, .ref m3, .ref wt, .ref hi, .int (nI tol), .int (nI tm), .int (nI fs), .int (nI sd), .int (nI rj), .long er])), (wt, .inl (cW, 4, .inr (.inr (.inr (.inr wf))))), (w0, .inr (3, [.int (nI (wb 0)), .long (wl 0), .int (wu 0), .int (wa 0)])), (w1, .inr (3, [.int (nI (wb 1)), .long (wl 1), .int (wu 1), .int (wa 1)])), (w2, .inr (3, [.int (nI (wb 2)), .long (wl 2), .int (wu 2), .int (wa 2)])), (w3, .inr (3, [.int (nI (wb 3)), .long (wl 3), .int (wu 3), .int (wa 3)]))] sz) [(o, .inr (4, [.int (nI n), .ref sp, .ref m0, .ref m1, .ref m2, .ref m3, .ref wt, .ref hi, .int (nI tol), .int (nI tm), .int (nI fs), .int (nI sd), .int (nI rj), .long er])), (wt, .inl (cW, 4, .inr (.inr (.inr (.inr wf))))), (w0, .inr (3, [.int (nI (u.1 0)), .long (u.2.1 0), .int (u.2.2.1 0), .int (u.2.2.2 0)])), (w1, .inr (3, [.int (nI (u.1 1)), .long (u.2.1 1), .int (u.2.2.1 1), .int (u.2.2.2 1)])), (w2, .inr (3, [.int (nI (u.1 2)), .long (u.2.1 2), .int (u.2.2.1 2), .int (u.2.2.2 2)])), (w3, .inr (3, [.int (nI (u.1 3)), .long (u.2.1 3), .int (u.2.2.1 3), .int (u.2.2.2 3)]))] t) (va_A [(o, .inr (4, [.int (nI n), .ref sp, .ref m0, .ref m1, .ref m2, .ref m3, .ref wt, .ref hi, .int (nI tol), .int (nI tm), .int (nI fs), .int (nI sd), .int (nI rj), .long er])), (wt, .inl (cW, 4, .inr (.inr (.inr (.inr wf))))), (w0, .inr (3, [.int (nI (wb 0)), .long (wl 0), .int (wu 0), .int (wa 0)])), (w1, .inr (3, [.int (nI (wb 1)), .long (wl 1), .int (wu 1), .int (wa 1)])), (w2, .inr (3, [.int (nI (wb 2)), .long (wl 2), .int (wu 2), .int (wa 2)])), (w3, .inr (3, [.int (nI (wb 3)), .long (wl 3), .int (wu 3), .int (wa 3)]))] sz)) 0 0 (va_A [(o, .inr (4, [.int (nI n), .ref sp, .ref m0, .ref m1, .ref m2, .ref m3, .ref wt, .ref hi, .int (nI tol), .int (nI tm), .int (nI fs), .int (nI sd), .int (nI rj), .long er])), (wt, .inl (cW, 4, .inr (.inr (.inr (.inr wf))))), (w0, .inr (3, [.int (nI (wb 0)), .long (wl 0), .int (wu 0), .int (wa 0)])), (w1, .inr (3, [.int (nI (wb 1)), .long (wl 1), .int (wu 1), .int (wa 1)])), (w2, .inr (3, [.int (nI (wb 2)), .long (wl 2), .int (wu 2), .int (wa 2)])), (w3, .inr (3, [.int (nI (wb 3)), .long (wl 3), .int (wu 3), .int (wa 3)]))] sz) := by
  refine met_go (cc := prog_1_method_7_code) (maxL := 7) (ret := (some .int)) (QA := fun A => va_Qi (fun (r : Int32) (u : (Nat → Nat) × (Nat → Int64) × (Nat → Int32) × (Nat → Int32)) => (r, u.1, u.2.1, u.2.2.1, u.2.2.2) = zCwatch n ia ib ic id ie wb wl wu wa) (fun u t => gB D vwCl (tyv cI cL cW cZ) A [(o, .inr (4, [.int (nI n), .ref sp, .ref m0, .ref m1, .ref m2, .ref m3, .ref wt, .ref hi, .int (nI tol), .int (nI tm), .int (nI fs), .int (nI sd), .int (nI rj), .long er])), (wt, .inl (cW, 4, .inr (.inr (.inr (.inr wf))))), (w0, .inr (3, [.int (nI (u.1 0)), .long (u.2.1 0), .int (u.2.2.1 0), .int (u.2.2.2 0)])), (w1, .inr (3, [.int (nI (u.1 1)), .long (u.2.1 1), .int (u.2.2.1 1), .int (u.2.2.2 1)])), (w2, .inr (3, [.int (nI (u.1 2)), .long (u.2.1 2), .int (u.2.2.1 2), .int (u.2.2.2 2)])), (w3, .inr (3, [.int (nI (u.1 3)), .long (u.2.1 3), .int (u.2.2.1 3), .int (u.2.2.2 3)]))] t) A) (by decide) (Nat.le_of_ble_eq_true rfl) ?_
  intro p e s m below meth c A ls hx hb hr hml hT hN hown hlocks hin hl hP hK hD hA hS
  have hl : lv_has ls 7 [(0, .ref o), (1, .int ia), (2, .int ib), (3, .int ic), (4, .int id), (5, .int ie)] := hl
  refine lv_iload_n hx hb d_R_watch_0 rfl (lv_at hl 1 rfl) ?_
  refine lv_if_lt (tgt := 24) hx hb d_R_watch_1 (by decide) (fun c1 => ?_) (fun c1 => ?_)
  · refine lv_iconst (v := (-1)) hx hb d_R_watch_24 (by decide) ?_
    exact re_i (v := (-1)) (wb, wl, wu, wa) hx hb hr hlocks (by rw [zCwatch, if_pos c1] <;> rw [nI_clamp (by omega), nI_clamp (by omega)]) (hP.sub [0, 1, 2, 3, 4, 5] rfl) hK (hD.sub [0, 1, 2, 3, 4, 5] (by decide) rfl) hS d_R_watch_25
  · refine lv_iload_n hx hb d_R_watch_4 rfl (lv_at hl 1 rfl) ?_
    refine lv_iconst (v := 4) hx hb d_R_watch_5 (by decide) ?_
    refine lv_icmp_ge (tgt := 24) hx hb d_R_watch_6 (by decide) (fun c6 => ?_) (fun c6 => ?_)
    · refine lv_iconst (v := (-1)) hx hb d_R_watch_24 (by decide) ?_
      exact re_i (v := (-1)) (wb, wl, wu, wa) hx hb hr hlocks (by rw [zCwatch, if_neg c1, if_pos c6] <;> rw [nI_clamp (by omega), nI_clamp (by omega)]) (hP.sub [0, 1, 2, 3, 4, 5] rfl) hK (hD.sub [0, 1, 2, 3, 4, 5] (by decide) rfl) hS d_R_watch_25
    · refine lv_aload_n hx hb d_R_watch_9 rfl (lv_at hl 0 rfl) ?_
      refine lv_iload_n hx hb d_R_watch_10 rfl (lv_at hl 2 rfl) ?_
      have hPc := hP.sub (ws' := [(o, .inr (4, [.int (nI n), .ref sp, .ref m0, .ref m1, .ref m2, .ref m3, .ref wt, .ref hi, .int (nI tol), .int (nI tm), .int (nI fs), .int (nI sd), .int (nI rj), .long er]))]) [0] rfl
      have hDc := hD.sub (ws' := [(o, .inr (4, [.int (nI n), .ref sp, .ref m0, .ref m1, .ref m2, .ref m3, .ref wt, .ref hi, .int (nI tol), .int (nI tm), .int (nI fs), .int (nI sd), .int (nI rj), .long er]))]) [0] (by decide) rfl
      refine gc_i (w1 := fun (u : Unit) => [(o, .inr (4, [.int (nI n), .ref sp, .ref m0, .ref m1, .ref m2, .ref m3, .ref wt, .ref hi, .int (nI tol), .int (nI tm), .int (nI fs), .int (nI sd), .int (nI rj), .long er]))]) (wc := [(o, .inr (4, [.int (nI n), .ref sp, .ref m0, .ref m1, .ref m2, .ref m3, .ref wt, .ref hi, .int (nI tol), .int (nI tm), .int (nI fs), .int (nI sd), .int (nI rj), .long er]))]) (wr := [(wt, .inl (cW, 4, .inr (.inr (.inr (.inr wf))))), (w0, .inr (3, [.int (nI (wb 0)), .long (wl 0), .int (wu 0), .int (wa 0)])), (w1, .inr (3, [.int (nI (wb 1)), .long (wl 1), .int (wu 1), .int (wa 1)])), (w2, .inr (3, [.int (nI (wb 2)), .long (wl 2), .int (wu 2), .int (wa 2)])), (w3, .inr (3, [.int (nI (wb 3)), .long (wl 3), .int (wu 3), .int (wa 3)]))]) hP hD hS hA [0] [1, 2, 3, 4, 5] rfl rfl (by decide) (by decide) (va_runV (As := [.int ib]) (rest := []) ⟨hx, hb, hml, hown, hT⟩ (c_R_isbody l D cI cL cW cZ o n sp m0 m1 m2 m3 wt hi tol tm fs sd rj er ib s.heap.size) (cwV 1 hT (good_V k_161 k_163 p_0 k_1 k_164) rfl rfl rfl (by decide +kernel) ⟨Nat.le_of_ble_eq_true rfl, Nat.le_of_ble_eq_true rfl⟩) (pre_V hPc hDc hK hN (ci := 4) rfl rfl) rfl rfl hl.1 rfl (lv_room (Nat.le_of_ble_eq_true rfl)) d_R_watch_11 ⟨(Nat.le_of_ble_eq_true rfl), (Nat.le_of_ble_eq_true rfl)⟩) (fun r u H locs hw hP hD hS => ?_)
      try dsimp only at hw
      have hP : va_P D vwCl [(wt, .inl (cW, 4, .inr (.inr (.inr (.inr wf))))), (w0, .inr (3, [.int (nI (wb 0)), .long (wl 0), .int (wu 0), .int (wa 0)])), (w1, .inr (3, [.int (nI (wb 1)), .long (wl 1), .int (wu 1), .int (wa 1)])), (w2, .inr (3, [.int (nI (wb 2)), .long (wl 2), .int (wu 2), .int (wa 2)])), (w3, .inr (3, [.int (nI (wb 3)), .long (wl 3), .int (wu 3), .int (wa 3)])), (o, .inr (4, [.int (nI n), .ref sp, .ref m0, .ref m1, .ref m2, .ref m3, .ref wt, .ref hi, .int (nI tol), .int (nI tm), .int (nI fs), .int (nI sd), .int (nI rj), .long er]))] H := hP
      have hD : va_D A [(wt, .inl (cW, 4, .inr (.inr (.inr (.inr wf))))), (w0, .inr (3, [.int (nI (wb 0)), .long (wl 0), .int (wu 0), .int (wa 0)])), (w1, .inr (3, [.int (nI (wb 1)), .long (wl 1), .int (wu 1), .int (wa 1)])), (w2, .inr (3, [.int (nI (wb 2)), .long (wl 2), .int (wu 2), .int (wa 2)])), (w3, .inr (3, [.int (nI (wb 3)), .long (wl 3), .int (wu 3), .int (wa 3)])), (o, .inr (4, [.int (nI n), .ref sp, .ref m0, .ref m1, .ref m2, .ref m3, .ref wt, .ref hi, .int (nI tol), .int (nI tm), .int (nI fs), .int (nI sd), .int (nI rj), .long er]))] := hD
      subst hw
      refine lv_if_eq (tgt := 24) hx hb d_R_watch_14 (by decide) (fun c14 => ?_) (fun c14 => ?_)
      · refine lv_iconst (v := (-1)) hx hb d_R_watch_24 (by decide) ?_
        exact re_i (v := (-1)) (wb, wl, wu, wa) hx hb hr hlocks (by rw [zCwatch, if_neg c1, if_neg c6, if_pos c14] <;> rw [nI_clamp (by omega), nI_clamp (by omega)]) (hP.sub [5, 0, 1, 2, 3, 4] rfl) hK (hD.sub [5, 0, 1, 2, 3, 4] (by decide) rfl) hS d_R_watch_25
      · refine lv_iload_n hx hb d_R_watch_17 rfl (lv_at hl 3 rfl) ?_
        have hPc := hP.sub (ws' := []) [] rfl
        have hDc := hD.sub (ws' := []) [] (by decide) rfl
        refine gc_i (w1 := fun (u : Unit) => []) (wc := []) (wr := [(wt, .inl (cW, 4, .inr (.inr (.inr (.inr wf))))), (w0, .inr (3, [.int (nI (wb 0)), .long (wl 0), .int (wu 0), .int (wa 0)])), (w1, .inr (3, [.int (nI (wb 1)), .long (wl 1), .int (wu 1), .int (wa 1)])), (w2, .inr (3, [.int (nI (wb 2)), .long (wl 2), .int (wu 2), .int (wa 2)])), (w3, .inr (3, [.int (nI (wb 3)), .long (wl 3), .int (wu 3), .int (wa 3)])), (o, .inr (4, [.int (nI n), .ref sp, .ref m0, .ref m1, .ref m2, .ref m3, .ref wt, .ref hi, .int (nI tol), .int (nI tm), .int (nI fs), .int (nI sd), .int (nI rj), .long er]))]) hP hD hS hA [] [0, 1, 2, 3, 4, 5] rfl rfl (by decide) (by decide) (va_runS (As := [.int ic]) (rest := []) ⟨hx, hb, hml, hown, hT⟩ (c_R_uni l D cI cL cW cZ ic H.size) (cwS 1 hT (good_S k_176 k_177 k_1 k_178) rfl rfl rfl (by decide +kernel) ⟨Nat.le_of_ble_eq_true rfl, Nat.le_of_ble_eq_true rfl⟩) (pre_S hPc hDc hK hN) rfl rfl hl.1 rfl (lv_room (Nat.le_of_ble_eq_true rfl)) d_R_watch_18 ⟨(Nat.le_of_ble_eq_true rfl), (Nat.le_of_ble_eq_true rfl)⟩) (fun r u H locs hw hP hD hS => ?_)
        try dsimp only at hw
        have hP : va_P D vwCl [(wt, .inl (cW, 4, .inr (.inr (.inr (.inr wf))))), (w0, .inr (3, [.int (nI (wb 0)), .long (wl 0), .int (wu 0), .int (wa 0)])), (w1, .inr (3, [.int (nI (wb 1)), .long (wl 1), .int (wu 1), .int (wa 1)])), (w2, .inr (3, [.int (nI (wb 2)), .long (wl 2), .int (wu 2), .int (wa 2)])), (w3, .inr (3, [.int (nI (wb 3)), .long (wl 3), .int (wu 3), .int (wa 3)])), (o, .inr (4, [.int (nI n), .ref sp, .ref m0, .ref m1, .ref m2, .ref m3, .ref wt, .ref hi, .int (nI tol), .int (nI tm), .int (nI fs), .int (nI sd), .int (nI rj), .long er]))] H := hP
        have hD : va_D A [(wt, .inl (cW, 4, .inr (.inr (.inr (.inr wf))))), (w0, .inr (3, [.int (nI (wb 0)), .long (wl 0), .int (wu 0), .int (wa 0)])), (w1, .inr (3, [.int (nI (wb 1)), .long (wl 1), .int (wu 1), .int (wa 1)])), (w2, .inr (3, [.int (nI (wb 2)), .long (wl 2), .int (wu 2), .int (wa 2)])), (w3, .inr (3, [.int (nI (wb 3)), .long (wl 3), .int (wu 3), .int (wa 3)])), (o, .inr (4, [.int (nI n), .ref sp, .ref m0, .ref m1, .ref m2, .ref m3, .ref wt, .ref hi, .int (nI tol), .int (nI tm), .int (nI fs), .int (nI sd), .int (nI rj), .long er]))] := hD
        subst hw
        refine lv_if_ne (tgt := 26) hx hb d_R_watch_21 (by decide) (fun c21 => ?_) (fun c21 => ?_)
        · refine lv_iload hx hb d_R_watch_26 (lv_at hl 5 rfl) ?_
          refine lv_iconst (v := (-1)) hx hb d_R_watch_28 (by decide) ?_
          refine lv_icmp_lt (tgt := 38) hx hb d_R_watch_29 (by decide) (fun c29 => ?_) (fun c29 => ?_)
          · refine lv_iconst (v := (-1)) hx hb d_R_watch_38 (by decide) ?_
            exact re_i (v := (-1)) (wb, wl, wu, wa) hx hb hr hlocks (by rw [zCwatch, if_neg c1, if_neg c6, if_neg c14, if_pos c21, if_pos c29] <;> rw [nI_clamp (by omega), nI_clamp (by omega)]) (hP.sub [5, 0, 1, 2, 3, 4] rfl) hK (hD.sub [5, 0, 1, 2, 3, 4] (by decide) rfl) hS d_R_watch_39
          · refine lv_iload hx hb d_R_watch_32 (lv_at hl 5 rfl) ?_
            refine lv_iconst (v := 2) hx hb d_R_watch_34 (by decide) ?_
            refine lv_icmp_le (tgt := 40) hx hb d_R_watch_35 (by decide) (fun c35 => ?_) (fun c35 => ?_)
            · obtain ⟨j, hj, rfl⟩ := zW_ix c1 c6
              obtain ⟨jb, hjb, rfl⟩ := zBody_ix c14 hn
              rcases (show j = 0 ∨ j = 1 ∨ j = 2 ∨ j = 3 by omega) with rfl | rfl | rfl | rfl
              · refine lv_aload_n hx hb d_R_watch_40 rfl (lv_at hl 0 rfl) ?_
                refine va_get (D := D) (ci := 4) (v := .ref wt) (C := "OscillatorRow") (T := T_R) (N := 14) hx hb hT i_R hown hK hP 5 rfl rfl 6 (by decide) (hT _ k_120) (fun _ h9 => h9) rfl d_R_watch_41 ?_
                refine lv_iload_n hx hb d_R_watch_44 rfl (lv_at hl 1 rfl) ?_
                refine ra_aald (j := 0) hx hb hK hP 0 2 rfl rfl (by omega) (by omega) d_R_watch_45 ?_
                refine top_q hw0 ?_
                refine lv_astore (lv' := [(6, .ref w0), (0, .ref o), (1, .int (nI 0)), (2, .int (nI jb)), (3, .int ic), (4, .int id), (5, .int ie)]) hx hb d_R_watch_46 hl (by decide) rfl (fun ls hl => ?_)
                refine lv_aload hx hb d_R_watch_48 (lv_at hl 0 rfl) ?_
                refine lv_iload_n hx hb d_R_watch_50 rfl (lv_at hl 3 rfl) ?_
                refine va_putN (D := D) (ci := 3) (v := .int (nI jb)) (ty := (.int)) (C := "OscillatorRow$Watch") (T := T_W) (N := 4) hx hb hT i_W t_W t_W_ok n_W_ok hown hK hP hD hS 1 rfl rfl 0 (by decide) (va_Nw.use rfl (hN _ j_75)) (fun _ h9 => h9) rfl (by decide +kernel) rfl rfl (Nat.le_of_ble_eq_true rfl) d_R_watch_51 (fun H locs hP hD hS => ?_)
                have hP : va_P D vwCl [(wt, .inl (cW, 4, .inr (.inr (.inr (.inr wf))))), (w0, .inr (3, [.int (nI jb), .long (wl 0), .int (wu 0), .int (wa 0)])), (w1, .inr (3, [.int (nI (wb 1)), .long (wl 1), .int (wu 1), .int (wa 1)])), (w2, .inr (3, [.int (nI (wb 2)), .long (wl 2), .int (wu 2), .int (wa 2)])), (w3, .inr (3, [.int (nI (wb 3)), .long (wl 3), .int (wu 3), .int (wa 3)])), (o, .inr (4, [.int (nI n), .ref sp, .ref m0, .ref m1, .ref m2, .ref m3, .ref wt, .ref hi, .int (nI tol), .int (nI tm), .int (nI fs), .int (nI sd), .int (nI rj), .long er]))] H := hP
                have hD : va_D A [(wt, .inl (cW, 4, .inr (.inr (.inr (.inr wf))))), (w0, .inr (3, [.int (nI jb), .long (wl 0), .int (wu 0), .int (wa 0)])), (w1, .inr (3, [.int (nI (wb 1)), .long (wl 1), .int (wu 1), .int (wa 1)])), (w2, .inr (3, [.int (nI (wb 2)), .long (wl 2), .int (wu 2), .int (wa 2)])), (w3, .inr (3, [.int (nI (wb 3)), .long (wl 3), .int (wu 3), .int (wa 3)])), (o, .inr (4, [.int (nI n), .ref sp, .ref m0, .ref m1, .ref m2, .ref m3, .ref wt, .ref hi, .int (nI tol), .int (nI tm), .int (nI fs), .int (nI sd), .int (nI rj), .long er]))] := hD
                refine lv_aload hx hb d_R_watch_54 (lv_at hl 0 rfl) ?_
                refine lv_iload_n hx hb d_R_watch_56 rfl (lv_at hl 4 rfl) ?_
                refine lv_i2l hx hb d_R_watch_57 rfl ?_
                refine va_putN (D := D) (ci := 3) (v := .long ic.toInt64) (ty := (.long)) (C := "OscillatorRow$Watch") (T := T_W) (N := 4) hx hb hT i_W t_W t_W_ok n_W_ok hown hK hP hD hS 1 rfl rfl 1 (by decide) (va_Nw.use rfl (hN _ j_77)) (fun _ h9 => h9) rfl (by decide +kernel) rfl rfl (Nat.le_of_ble_eq_true rfl) d_R_watch_58 (fun H locs hP hD hS => ?_)
                have hP : va_P D vwCl [(wt, .inl (cW, 4, .inr (.inr (.inr (.inr wf))))), (w0, .inr (3, [.int (nI jb), .long ic.toInt64, .int (wu 0), .int (wa 0)])), (w1, .inr (3, [.int (nI (wb 1)), .long (wl 1), .int (wu 1), .int (wa 1)])), (w2, .inr (3, [.int (nI (wb 2)), .long (wl 2), .int (wu 2), .int (wa 2)])), (w3, .inr (3, [.int (nI (wb 3)), .long (wl 3), .int (wu 3), .int (wa 3)])), (o, .inr (4, [.int (nI n), .ref sp, .ref m0, .ref m1, .ref m2, .ref m3, .ref wt, .ref hi, .int (nI tol), .int (nI tm), .int (nI fs), .int (nI sd), .int (nI rj), .long er]))] H := hP
                have hD : va_D A [(wt, .inl (cW, 4, .inr (.inr (.inr (.inr wf))))), (w0, .inr (3, [.int (nI jb), .long ic.toInt64, .int (wu 0), .int (wa 0)])), (w1, .inr (3, [.int (nI (wb 1)), .long (wl 1), .int (wu 1), .int (wa 1)])), (w2, .inr (3, [.int (nI (wb 2)), .long (wl 2), .int (wu 2), .int (wa 2)])), (w3, .inr (3, [.int (nI (wb 3)), .long (wl 3), .int (wu 3), .int (wa 3)])), (o, .inr (4, [.int (nI n), .ref sp, .ref m0, .ref m1, .ref m2, .ref m3, .ref wt, .ref hi, .int (nI tol), .int (nI tm), .int (nI fs), .int (nI sd), .int (nI rj), .long er]))] := hD
                refine lv_aload hx hb d_R_watch_61 (lv_at hl 0 rfl) ?_
                refine lv_iload hx hb d_R_watch_63 (lv_at hl 5 rfl) ?_
                refine va_putN (D := D) (ci := 3) (v := .int id) (ty := (.boolean)) (C := "OscillatorRow$Watch") (T := T_W) (N := 4) hx hb hT i_W t_W t_W_ok n_W_ok hown hK hP hD hS 1 rfl rfl 2 (by decide) (va_Nw.use rfl (hN _ j_79)) (fun _ h9 => h9) rfl (by decide +kernel) (nz_01 hup) (by rcases hup with h9 | h9 <;> rw [h9] <;> rfl) (Nat.le_of_ble_eq_true rfl) d_R_watch_65 (fun H locs hP hD hS => ?_)
                have hP : va_P D vwCl [(wt, .inl (cW, 4, .inr (.inr (.inr (.inr wf))))), (w0, .inr (3, [.int (nI jb), .long ic.toInt64, .int id, .int (wa 0)])), (w1, .inr (3, [.int (nI (wb 1)), .long (wl 1), .int (wu 1), .int (wa 1)])), (w2, .inr (3, [.int (nI (wb 2)), .long (wl 2), .int (wu 2), .int (wa 2)])), (w3, .inr (3, [.int (nI (wb 3)), .long (wl 3), .int (wu 3), .int (wa 3)])), (o, .inr (4, [.int (nI n), .ref sp, .ref m0, .ref m1, .ref m2, .ref m3, .ref wt, .ref hi, .int (nI tol), .int (nI tm), .int (nI fs), .int (nI sd), .int (nI rj), .long er]))] H := hP
                have hD : va_D A [(wt, .inl (cW, 4, .inr (.inr (.inr (.inr wf))))), (w0, .inr (3, [.int (nI jb), .long ic.toInt64, .int id, .int (wa 0)])), (w1, .inr (3, [.int (nI (wb 1)), .long (wl 1), .int (wu 1), .int (wa 1)])), (w2, .inr (3, [.int (nI (wb 2)), .long (wl 2), .int (wu 2), .int (wa 2)])), (w3, .inr (3, [.int (nI (wb 3)), .long (wl 3), .int (wu 3), .int (wa 3)])), (o, .inr (4, [.int (nI n), .ref sp, .ref m0, .ref m1, .ref m2, .ref m3, .ref wt, .ref hi, .int (nI tol), .int (nI tm), .int (nI fs), .int (nI sd), .int (nI rj), .long er]))] := hD
                refine lv_aload hx hb d_R_watch_68 (lv_at hl 0 rfl) ?_
                refine lv_iload hx hb d_R_watch_70 (lv_at hl 6 rfl) ?_
                refine va_putN (D := D) (ci := 3) (v := .int ie) (ty := (.int)) (C := "OscillatorRow$Watch") (T := T_W) (N := 4) hx hb hT i_W t_W t_W_ok n_W_ok hown hK hP hD hS 1 rfl rfl 3 (by decide) (va_Nw.use rfl (hN _ j_81)) (fun _ h9 => h9) rfl (by decide +kernel) rfl rfl (Nat.le_of_ble_eq_true rfl) d_R_watch_72 (fun H locs hP hD hS => ?_)
                have hP : va_P D vwCl [(wt, .inl (cW, 4, .inr (.inr (.inr (.inr wf))))), (w0, .inr (3, [.int (nI jb), .long ic.toInt64, .int id, .int ie])), (w1, .inr (3, [.int (nI (wb 1)), .long (wl 1), .int (wu 1), .int (wa 1)])), (w2, .inr (3, [.int (nI (wb 2)), .long (wl 2), .int (wu 2), .int (wa 2)])), (w3, .inr (3, [.int (nI (wb 3)), .long (wl 3), .int (wu 3), .int (wa 3)])), (o, .inr (4, [.int (nI n), .ref sp, .ref m0, .ref m1, .ref m2, .ref m3, .ref wt, .ref hi, .int (nI tol), .int (nI tm), .int (nI fs), .int (nI sd), .int (nI rj), .long er]))] H := hP
                have hD : va_D A [(wt, .inl (cW, 4, .inr (.inr (.inr (.inr wf))))), (w0, .inr (3, [.int (nI jb), .long ic.toInt64, .int id, .int ie])), (w1, .inr (3, [.int (nI (wb 1)), .long (wl 1), .int (wu 1), .int (wa 1)])), (w2, .inr (3, [.int (nI (wb 2)), .long (wl 2), .int (wu 2), .int (wa 2)])), (w3, .inr (3, [.int (nI (wb 3)), .long (wl 3), .int (wu 3), .int (wa 3)])), (o, .inr (4, [.int (nI n), .ref sp, .ref m0, .ref m1, .ref m2, .ref m3, .ref wt, .ref hi, .int (nI tol), .int (nI tm), .int (nI fs), .int (nI sd), .int (nI rj), .long er]))] := hD
                refine lv_iconst (v := 0) hx hb d_R_watch_75 (by decide) ?_
                exact re_i (v := 0) ((va_up wb 0 jb), (vp_updL wl 0 ic.toInt64), (upd wu 0 id), (upd wa 0 ie)) hx hb hr hlocks (by rw [zCwatch, if_neg c1, if_neg c6, if_neg c14, if_pos c21, if_neg c29, if_pos c35] <;> rw [nI_clamp (by omega), nI_clamp (by omega)]) (hP.sub [5, 0, 1, 2, 3, 4] rfl) hK (hD.sub [5, 0, 1, 2, 3, 4] (by decide) rfl) hS d_R_watch_76
              · refine lv_aload_n hx hb d_R_watch_40 rfl (lv_at hl 0 rfl) ?_
                refine va_get (D := D) (ci := 4) (v := .ref wt) (C := "OscillatorRow") (T := T_R) (N := 14) hx hb hT i_R hown hK hP 5 rfl rfl 6 (by decide) (hT _ k_120) (fun _ h9 => h9) rfl d_R_watch_41 ?_
                refine lv_iload_n hx hb d_R_watch_44 rfl (lv_at hl 1 rfl) ?_
                refine ra_aald (j := 1) hx hb hK hP 0 2 rfl rfl (by omega) (by omega) d_R_watch_45 ?_
                refine top_q hw1 ?_
                refine lv_astore (lv' := [(6, .ref w1), (0, .ref o), (1, .int (nI 1)), (2, .int (nI jb)), (3, .int ic), (4, .int id), (5, .int ie)]) hx hb d_R_watch_46 hl (by decide) rfl (fun ls hl => ?_)
                refine lv_aload hx hb d_R_watch_48 (lv_at hl 0 rfl) ?_
                refine lv_iload_n hx hb d_R_watch_50 rfl (lv_at hl 3 rfl) ?_
                refine va_putN (D := D) (ci := 3) (v := .int (nI jb)) (ty := (.int)) (C := "OscillatorRow$Watch") (T := T_W) (N := 4) hx hb hT i_W t_W t_W_ok n_W_ok hown hK hP hD hS 2 rfl rfl 0 (by decide) (va_Nw.use rfl (hN _ j_75)) (fun _ h9 => h9) rfl (by decide +kernel) rfl rfl (Nat.le_of_ble_eq_true rfl) d_R_watch_51 (fun H locs hP hD hS => ?_)
                have hP : va_P D vwCl [(wt, .inl (cW, 4, .inr (.inr (.inr (.inr wf))))), (w0, .inr (3, [.int (nI (wb 0)), .long (wl 0), .int (wu 0), .int (wa 0)])), (w1, .inr (3, [.int (nI jb), .long (wl 1), .int (wu 1), .int (wa 1)])), (w2, .inr (3, [.int (nI (wb 2)), .long (wl 2), .int (wu 2), .int (wa 2)])), (w3, .inr (3, [.int (nI (wb 3)), .long (wl 3), .int (wu 3), .int (wa 3)])), (o, .inr (4, [.int (nI n), .ref sp, .ref m0, .ref m1, .ref m2, .ref m3, .ref wt, .ref hi, .int (nI tol), .int (nI tm), .int (nI fs), .int (nI sd), .int (nI rj), .long er]))] H := hP
                have hD : va_D A [(wt, .inl (cW, 4, .inr (.inr (.inr (.inr wf))))), (w0, .inr (3, [.int (nI (wb 0)), .long (wl 0), .int (wu 0), .int (wa 0)])), (w1, .inr (3, [.int (nI jb), .long (wl 1), .int (wu 1), .int (wa 1)])), (w2, .inr (3, [.int (nI (wb 2)), .long (wl 2), .int (wu 2), .int (wa 2)])), (w3, .inr (3, [.int (nI (wb 3)), .long (wl 3), .int (wu 3), .int (wa 3)])), (o, .inr (4, [.int (nI n), .ref sp, .ref m0, .ref m1, .ref m2, .ref m3, .ref wt, .ref hi, .int (nI tol), .int (nI tm), .int (nI fs), .int (nI sd), .int (nI rj), .long er]))] := hD
                refine lv_aload hx hb d_R_watch_54 (lv_at hl 0 rfl) ?_
                refine lv_iload_n hx hb d_R_watch_56 rfl (lv_at hl 4 rfl) ?_
                refine lv_i2l hx hb d_R_watch_57 rfl ?_
                refine va_putN (D := D) (ci := 3) (v := .long ic.toInt64) (ty := (.long)) (C := "OscillatorRow$Watch") (T := T_W) (N := 4) hx hb hT i_W t_W t_W_ok n_W_ok hown hK hP hD hS 2 rfl rfl 1 (by decide) (va_Nw.use rfl (hN _ j_77)) (fun _ h9 => h9) rfl (by decide +kernel) rfl rfl (Nat.le_of_ble_eq_true rfl) d_R_watch_58 (fun H locs hP hD hS => ?_)
                have hP : va_P D vwCl [(wt, .inl (cW, 4, .inr (.inr (.inr (.inr wf))))), (w0, .inr (3, [.int (nI (wb 0)), .long (wl 0), .int (wu 0), .int (wa 0)])), (w1, .inr (3, [.int (nI jb), .long ic.toInt64, .int (wu 1), .int (wa 1)])), (w2, .inr (3, [.int (nI (wb 2)), .long (wl 2), .int (wu 2), .int (wa 2)])), (w3, .inr (3, [.int (nI (wb 3)), .long (wl 3), .int (wu 3), .int (wa 3)])), (o, .inr (4, [.int (nI n), .ref sp, .ref m0, .ref m1, .ref m2, .ref m3, .ref wt, .ref hi, .int (nI tol), .int (nI tm), .int (nI fs), .int (nI sd), .int (nI rj), .long er]))] H := hP
                have hD : va_D A [(wt, .inl (cW, 4, .inr (.inr (.inr (.inr wf))))), (w0, .inr (3, [.int (nI (wb 0)), .long (wl 0), .int (wu 0), .int (wa 0)])), (w1, .inr (3, [.int (nI jb), .long ic.toInt64, .int (wu 1), .int (wa 1)])), (w2, .inr (3, [.int (nI (wb 2)), .long (wl 2), .int (wu 2), .int (wa 2)])), (w3, .inr (3, [.int (nI (wb 3)), .long (wl 3), .int (wu 3), .int (wa 3)])), (o, .inr (4, [.int (nI n), .ref sp, .ref m0, .ref m1, .ref m2, .ref m3, .ref wt, .ref hi, .int (nI tol), .int (nI tm), .int (nI fs), .int (nI sd), .int (nI rj), .long er]))] := hD
                refine lv_aload hx hb d_R_watch_61 (lv_at hl 0 rfl) ?_
                refine lv_iload hx hb d_R_watch_63 (lv_at hl 5 rfl) ?_
                refine va_putN (D := D) (ci := 3) (v := .int id) (ty := (.boolean)) (C := "OscillatorRow$Watch") (T := T_W) (N := 4) hx hb hT i_W t_W t_W_ok n_W_ok hown hK hP hD hS 2 rfl rfl 2 (by decide) (va_Nw.use rfl (hN _ j_79)) (fun _ h9 => h9) rfl (by decide +kernel) (nz_01 hup) (by rcases hup with h9 | h9 <;> rw [h9] <;> rfl) (Nat.le_of_ble_eq_true rfl) d_R_watch_65 (fun H locs hP hD hS => ?_)
                have hP : va_P D vwCl [(wt, .inl (cW, 4, .inr (.inr (.inr (.inr wf))))), (w0, .inr (3, [.int (nI (wb 0)), .long (wl 0), .int (wu 0), .int (wa 0)])), (w1, .inr (3, [.int (nI jb), .long ic.toInt64, .int id, .int (wa 1)])), (w2, .inr (3, [.int (nI (wb 2)), .long (wl 2), .int (wu 2), .int (wa 2)])), (w3, .inr (3, [.int (nI (wb 3)), .long (wl 3), .int (wu 3), .int (wa 3)])), (o, .inr (4, [.int (nI n), .ref sp, .ref m0, .ref m1, .ref m2, .ref m3, .ref wt, .ref hi, .int (nI tol), .int (nI tm), .int (nI fs), .int (nI sd), .int (nI rj), .long er]))] H := hP
                have hD : va_D A [(wt, .inl (cW, 4, .inr (.inr (.inr (.inr wf))))), (w0, .inr (3, [.int (nI (wb 0)), .long (wl 0), .int (wu 0), .int (wa 0)])), (w1, .inr (3, [.int (nI jb), .long ic.toInt64, .int id, .int (wa 1)])), (w2, .inr (3, [.int (nI (wb 2)), .long (wl 2), .int (wu 2), .int (wa 2)])), (w3, .inr (3, [.int (nI (wb 3)), .long (wl 3), .int (wu 3), .int (wa 3)])), (o, .inr (4, [.int (nI n), .ref sp, .ref m0, .ref m1, .ref m2, .ref m3, .ref wt, .ref hi, .int (nI tol), .int (nI tm), .int (nI fs), .int (nI sd), .int (nI rj), .long er]))] := hD
                refine lv_aload hx hb d_R_watch_68 (lv_at hl 0 rfl) ?_
                refine lv_iload hx hb d_R_watch_70 (lv_at hl 6 rfl) ?_
                refine va_putN (D := D) (ci := 3) (v := .int ie) (ty := (.int)) (C := "OscillatorRow$Watch") (T := T_W) (N := 4) hx hb hT i_W t_W t_W_ok n_W_ok hown hK hP hD hS 2 rfl rfl 3 (by decide) (va_Nw.use rfl (hN _ j_81)) (fun _ h9 => h9) rfl (by decide +kernel) rfl rfl (Nat.le_of_ble_eq_true rfl) d_R_watch_72 (fun H locs hP hD hS => ?_)
                have hP : va_P D vwCl [(wt, .inl (cW, 4, .inr (.inr (.inr (.inr wf))))), (w0, .inr (3, [.int (nI (wb 0)), .long (wl 0), .int (wu 0), .int (wa 0)])), (w1, .inr (3, [.int (nI jb), .long ic.toInt64, .int id, .int ie])), (w2, .inr (3, [.int (nI (wb 2)), .long (wl 2), .int (wu 2), .int (wa 2)])), (w3, .inr (3, [.int (nI (wb 3)), .long (wl 3), .int (wu 3), .int (wa 3)])), (o, .inr (4, [.int (nI n), .ref sp, .ref m0, .ref m1, .ref m2, .ref m3, .ref wt, .ref hi, .int (nI tol), .int (nI tm), .int (nI fs), .int (nI sd), .int (nI rj), .long er]))] H := hP
                have hD : va_D A [(wt, .inl (cW, 4, .inr (.inr (.inr (.inr wf))))), (w0, .inr (3, [.int (nI (wb 0)), .long (wl 0), .int (wu 0), .int (wa 0)])), (w1, .inr (3, [.int (nI jb), .long ic.toInt64, .int id, .int ie])), (w2, .inr (3, [.int (nI (wb 2)), .long (wl 2), .int (wu 2), .int (wa 2)])), (w3, .inr (3, [.int (nI (wb 3)), .long (wl 3), .int (wu 3), .int (wa 3)])), (o, .inr (4, [.int (nI n), .ref sp, .ref m0, .ref m1, .ref m2, .ref m3, .ref wt, .ref hi, .int (nI tol), .int (nI tm), .int (nI fs), .int (nI sd), .int (nI rj), .long er]))] := hD
                refine lv_iconst (v := 0) hx hb d_R_watch_75 (by decide) ?_
                exact re_i (v := 0) ((va_up wb 1 jb), (vp_updL wl 1 ic.toInt64), (upd wu 1 id), (upd wa 1 ie)) hx hb hr hlocks (by rw [zCwatch, if_neg c1, if_neg c6, if_neg c14, if_pos c21, if_neg c29, if_pos c35] <;> rw [nI_clamp (by omega), nI_clamp (by omega)]) (hP.sub [5, 0, 1, 2, 3, 4] rfl) hK (hD.sub [5, 0, 1, 2, 3, 4] (by decide) rfl) hS d_R_watch_76
              · refine lv_aload_n hx hb d_R_watch_40 rfl (lv_at hl 0 rfl) ?_
                refine va_get (D := D) (ci := 4) (v := .ref wt) (C := "OscillatorRow") (T := T_R) (N := 14) hx hb hT i_R hown hK hP 5 rfl rfl 6 (by decide) (hT _ k_120) (fun _ h9 => h9) rfl d_R_watch_41 ?_
                refine lv_iload_n hx hb d_R_watch_44 rfl (lv_at hl 1 rfl) ?_
                refine ra_aald (j := 2) hx hb hK hP 0 2 rfl rfl (by omega) (by omega) d_R_watch_45 ?_
                refine top_q hw2 ?_
                refine lv_astore (lv' := [(6, .ref w2), (0, .ref o), (1, .int (nI 2)), (2, .int (nI jb)), (3, .int ic), (4, .int id), (5, .int ie)]) hx hb d_R_watch_46 hl (by decide) rfl (fun ls hl => ?_)
                refine lv_aload hx hb d_R_watch_48 (lv_at hl 0 rfl) ?_
                refine lv_iload_n hx hb d_R_watch_50 rfl (lv_at hl 3 rfl) ?_
                refine va_putN (D := D) (ci := 3) (v := .int (nI jb)) (ty := (.int)) (C := "OscillatorRow$Watch") (T := T_W) (N := 4) hx hb hT i_W t_W t_W_ok n_W_ok hown hK hP hD hS 3 rfl rfl 0 (by decide) (va_Nw.use rfl (hN _ j_75)) (fun _ h9 => h9) rfl (by decide +kernel) rfl rfl (Nat.le_of_ble_eq_true rfl) d_R_watch_51 (fun H locs hP hD hS => ?_)
                have hP : va_P D vwCl [(wt, .inl (cW, 4, .inr (.inr (.inr (.inr wf))))), (w0, .inr (3, [.int (nI (wb 0)), .long (wl 0), .int (wu 0), .int (wa 0)])), (w1, .inr (3, [.int (nI (wb 1)), .long (wl 1), .int (wu 1), .int (wa 1)])), (w2, .inr (3, [.int (nI jb), .long (wl 2), .int (wu 2), .int (wa 2)])), (w3, .inr (3, [.int (nI (wb 3)), .long (wl 3), .int (wu 3), .int (wa 3)])), (o, .inr (4, [.int (nI n), .ref sp, .ref m0, .ref m1, .ref m2, .ref m3, .ref wt, .ref hi, .int (nI tol), .int (nI tm), .int (nI fs), .int (nI sd), .int (nI rj), .long er]))] H := hP
                have hD : va_D A [(wt, .inl (cW, 4, .inr (.inr (.inr (.inr wf))))), (w0, .inr (3, [.int (nI (wb 0)), .long (wl 0), .int (wu 0), .int (wa 0)])), (w1, .inr (3, [.int (nI (wb 1)), .long (wl 1), .int (wu 1), .int (wa 1)])), (w2, .inr (3, [.int (nI jb), .long (wl 2), .int (wu 2), .int (wa 2)])), (w3, .inr (3, [.int (nI (wb 3)), .long (wl 3), .int (wu 3), .int (wa 3)])), (o, .inr (4, [.int (nI n), .ref sp, .ref m0, .ref m1, .ref m2, .ref m3, .ref wt, .ref hi, .int (nI tol), .int (nI tm), .int (nI fs), .int (nI sd), .int (nI rj), .long er]))] := hD
                refine lv_aload hx hb d_R_watch_54 (lv_at hl 0 rfl) ?_
                refine lv_iload_n hx hb d_R_watch_56 rfl (lv_at hl 4 rfl) ?_
                refine lv_i2l hx hb d_R_watch_57 rfl ?_
                refine va_putN (D := D) (ci := 3) (v := .long ic.toInt64) (ty := (.long)) (C := "OscillatorRow$Watch") (T := T_W) (N := 4) hx hb hT i_W t_W t_W_ok n_W_ok hown hK hP hD hS 3 rfl rfl 1 (by decide) (va_Nw.use rfl (hN _ j_77)) (fun _ h9 => h9) rfl (by decide +kernel) rfl rfl (Nat.le_of_ble_eq_true rfl) d_R_watch_58 (fun H locs hP hD hS => ?_)
                have hP : va_P D vwCl [(wt, .inl (cW, 4, .inr (.inr (.inr (.inr wf))))), (w0, .inr (3, [.int (nI (wb 0)), .long (wl 0), .int (wu 0), .int (wa 0)])), (w1, .inr (3, [.int (nI (wb 1)), .long (wl 1), .int (wu 1), .int (wa 1)])), (w2, .inr (3, [.int (nI jb), .long ic.toInt64, .int (wu 2), .int (wa 2)])), (w3, .inr (3, [.int (nI (wb 3)), .long (wl 3), .int (wu 3), .int (wa 3)])), (o, .inr (4, [.int (nI n), .ref sp, .ref m0, .ref m1, .ref m2, .ref m3, .ref wt, .ref hi, .int (nI tol), .int (nI tm), .int (nI fs), .int (nI sd), .int (nI rj), .long er]))] H := hP
                have hD : va_D A [(wt, .inl (cW, 4, .inr (.inr (.inr (.inr wf))))), (w0, .inr (3, [.int (nI (wb 0)), .long (wl 0), .int (wu 0), .int (wa 0)])), (w1, .inr (3, [.int (nI (wb 1)), .long (wl 1), .int (wu 1), .int (wa 1)])), (w2, .inr (3, [.int (nI jb), .long ic.toInt64, .int (wu 2), .int (wa 2)])), (w3, .inr (3, [.int (nI (wb 3)), .long (wl 3), .int (wu 3), .int (wa 3)])), (o, .inr (4, [.int (nI n), .ref sp, .ref m0, .ref m1, .ref m2, .ref m3, .ref wt, .ref hi, .int (nI tol), .int (nI tm), .int (nI fs), .int (nI sd), .int (nI rj), .long er]))] := hD
                refine lv_aload hx hb d_R_watch_61 (lv_at hl 0 rfl) ?_
                refine lv_iload hx hb d_R_watch_63 (lv_at hl 5 rfl) ?_
                refine va_putN (D := D) (ci := 3) (v := .int id) (ty := (.boolean)) (C := "OscillatorRow$Watch") (T := T_W) (N := 4) hx hb hT i_W t_W t_W_ok n_W_ok hown hK hP hD hS 3 rfl rfl 2 (by decide) (va_Nw.use rfl (hN _ j_79)) (fun _ h9 => h9) rfl (by decide +kernel) (nz_01 hup) (by rcases hup with h9 | h9 <;> rw [h9] <;> rfl) (Nat.le_of_ble_eq_true rfl) d_R_watch_65 (fun H locs hP hD hS => ?_)
                have hP : va_P D vwCl [(wt, .inl (cW, 4, .inr (.inr (.inr (.inr wf))))), (w0, .inr (3, [.int (nI (wb 0)), .long (wl 0), .int (wu 0), .int (wa 0)])), (w1, .inr (3, [.int (nI (wb 1)), .long (wl 1), .int (wu 1), .int (wa 1)])), (w2, .inr (3, [.int (nI jb), .long ic.toInt64, .int id, .int (wa 2)])), (w3, .inr (3, [.int (nI (wb 3)), .long (wl 3), .int (wu 3), .int (wa 3)])), (o, .inr (4, [.int (nI n), .ref sp, .ref m0, .ref m1, .ref m2, .ref m3, .ref wt, .ref hi, .int (nI tol), .int (nI tm), .int (nI fs), .int (nI sd), .int (nI rj), .long er]))] H := hP
                have hD : va_D A [(wt, .inl (cW, 4, .inr (.inr (.inr (.inr wf))))), (w0, .inr (3, [.int (nI (wb 0)), .long (wl 0), .int (wu 0), .int (wa 0)])), (w1, .inr (3, [.int (nI (wb 1)), .long (wl 1), .int (wu 1), .int (wa 1)])), (w2, .inr (3, [.int (nI jb), .long ic.toInt64, .int id, .int (wa 2)])), (w3, .inr (3, [.int (nI (wb 3)), .long (wl 3), .int (wu 3), .int (wa 3)])), (o, .inr (4, [.int (nI n), .ref sp, .ref m0, .ref m1, .ref m2, .ref m3, .ref wt, .ref hi, .int (nI tol), .int (nI tm), .int (nI fs), .int (nI sd), .int (nI rj), .long er]))] := hD
                refine lv_aload hx hb d_R_watch_68 (lv_at hl 0 rfl) ?_
                refine lv_iload hx hb d_R_watch_70 (lv_at hl 6 rfl) ?_
                refine va_putN (D := D) (ci := 3) (v := .int ie) (ty := (.int)) (C := "OscillatorRow$Watch") (T := T_W) (N := 4) hx hb hT i_W t_W t_W_ok n_W_ok hown hK hP hD hS 3 rfl rfl 3 (by decide) (va_Nw.use rfl (hN _ j_81)) (fun _ h9 => h9) rfl (by decide +kernel) rfl rfl (Nat.le_of_ble_eq_true rfl) d_R_watch_72 (fun H locs hP hD hS => ?_)
                have hP : va_P D vwCl [(wt, .inl (cW, 4, .inr (.inr (.inr (.inr wf))))), (w0, .inr (3, [.int (nI (wb 0)), .long (wl 0), .int (wu 0), .int (wa 0)])), (w1, .inr (3, [.int (nI (wb 1)), .long (wl 1), .int (wu 1), .int (wa 1)])), (w2, .inr (3, [.int (nI jb), .long ic.toInt64, .int id, .int ie])), (w3, .inr (3, [.int (nI (wb 3)), .long (wl 3), .int (wu 3), .int (wa 3)])), (o, .inr (4, [.int (nI n), .ref sp, .ref m0, .ref m1, .ref m2, .ref m3, .ref wt, .ref hi, .int (nI tol), .int (nI tm), .int (nI fs), .int (nI sd), .int (nI rj), .long er]))] H := hP
                have hD : va_D A [(wt, .inl (cW, 4, .inr (.inr (.inr (.inr wf))))), (w0, .inr (3, [.int (nI (wb 0)), .long (wl 0), .int (wu 0), .int (wa 0)])), (w1, .inr (3, [.int (nI (wb 1)), .long (wl 1), .int (wu 1), .int (wa 1)])), (w2, .inr (3, [.int (nI jb), .long ic.toInt64, .int id, .int ie])), (w3, .inr (3, [.int (nI (wb 3)), .long (wl 3), .int (wu 3), .int (wa 3)])), (o, .inr (4, [.int (nI n), .ref sp, .ref m0, .ref m1, .ref m2, .ref m3, .ref wt, .ref hi, .int (nI tol), .int (nI tm), .int (nI fs), .int (nI sd), .int (nI rj), .long er]))] := hD
                refine lv_iconst (v := 0) hx hb d_R_watch_75 (by decide) ?_
                exact re_i (v := 0) ((va_up wb 2 jb), (vp_updL wl 2 ic.toInt64), (upd wu 2 id), (upd wa 2 ie)) hx hb hr hlocks (by rw [zCwatch, if_neg c1, if_neg c6, if_neg c14, if_pos c21, if_neg c29, if_pos c35] <;> rw [nI_clamp (by omega), nI_clamp (by omega)]) (hP.sub [5, 0, 1, 2, 3, 4] rfl) hK (hD.sub [5, 0, 1, 2, 3, 4] (by decide) rfl) hS d_R_watch_76
              · refine lv_aload_n hx hb d_R_watch_40 rfl (lv_at hl 0 rfl) ?_
                refine va_get (D := D) (ci := 4) (v := .ref wt) (C := "OscillatorRow") (T := T_R) (N := 14) hx hb hT i_R hown hK hP 5 rfl rfl 6 (by decide) (hT _ k_120) (fun _ h9 => h9) rfl d_R_watch_41 ?_
                refine lv_iload_n hx hb d_R_watch_44 rfl (lv_at hl 1 rfl) ?_
                refine ra_aald (j := 3) hx hb hK hP 0 2 rfl rfl (by omega) (by omega) d_R_watch_45 ?_
                refine top_q hw3 ?_
                refine lv_astore (lv' := [(6, .ref w3), (0, .ref o), (1, .int (nI 3)), (2, .int (nI jb)), (3, .int ic), (4, .int id), (5, .int ie)]) hx hb d_R_watch_46 hl (by decide) rfl (fun ls hl => ?_)
                refine lv_aload hx hb d_R_watch_48 (lv_at hl 0 rfl) ?_
                refine lv_iload_n hx hb d_R_watch_50 rfl (lv_at hl 3 rfl) ?_
                refine va_putN (D := D) (ci := 3) (v := .int (nI jb)) (ty := (.int)) (C := "OscillatorRow$Watch") (T := T_W) (N := 4) hx hb hT i_W t_W t_W_ok n_W_ok hown hK hP hD hS 4 rfl rfl 0 (by decide) (va_Nw.use rfl (hN _ j_75)) (fun _ h9 => h9) rfl (by decide +kernel) rfl rfl (Nat.le_of_ble_eq_true rfl) d_R_watch_51 (fun H locs hP hD hS => ?_)
                have hP : va_P D vwCl [(wt, .inl (cW, 4, .inr (.inr (.inr (.inr wf))))), (w0, .inr (3, [.int (nI (wb 0)), .long (wl 0), .int (wu 0), .int (wa 0)])), (w1, .inr (3, [.int (nI (wb 1)), .long (wl 1), .int (wu 1), .int (wa 1)])), (w2, .inr (3, [.int (nI (wb 2)), .long (wl 2), .int (wu 2), .int (wa 2)])), (w3, .inr (3, [.int (nI jb), .long (wl 3), .int (wu 3), .int (wa 3)])), (o, .inr (4, [.int (nI n), .ref sp, .ref m0, .ref m1, .ref m2, .ref m3, .ref wt, .ref hi, .int (nI tol), .int (nI tm), .int (nI fs), .int (nI sd), .int (nI rj), .long er]))] H := hP
                have hD : va_D A [(wt, .inl (cW, 4, .inr (.inr (.inr (.inr wf))))), (w0, .inr (3, [.int (nI (wb 0)), .long (wl 0), .int (wu 0), .int (wa 0)])), (w1, .inr (3, [.int (nI (wb 1)), .long (wl 1), .int (wu 1), .int (wa 1)])), (w2, .inr (3, [.int (nI (wb 2)), .long (wl 2), .int (wu 2), .int (wa 2)])), (w3, .inr (3, [.int (nI jb), .long (wl 3), .int (wu 3), .int (wa 3)])), (o, .inr (4, [.int (nI n), .ref sp, .ref m0, .ref m1, .ref m2, .ref m3, .ref wt, .ref hi, .int (nI tol), .int (nI tm), .int (nI fs), .int (nI sd), .int (nI rj), .long er]))] := hD
                refine lv_aload hx hb d_R_watch_54 (lv_at hl 0 rfl) ?_
                refine lv_iload_n hx hb d_R_watch_56 rfl (lv_at hl 4 rfl) ?_
                refine lv_i2l hx hb d_R_watch_57 rfl ?_
                refine va_putN (D := D) (ci := 3) (v := .long ic.toInt64) (ty := (.long)) (C := "OscillatorRow$Watch") (T := T_W) (N := 4) hx hb hT i_W t_W t_W_ok n_W_ok hown hK hP hD hS 4 rfl rfl 1 (by decide) (va_Nw.use rfl (hN _ j_77)) (fun _ h9 => h9) rfl (by decide +kernel) rfl rfl (Nat.le_of_ble_eq_true rfl) d_R_watch_58 (fun H locs hP hD hS => ?_)
                have hP : va_P D vwCl [(wt, .inl (cW, 4, .inr (.inr (.inr (.inr wf))))), (w0, .inr (3, [.int (nI (wb 0)), .long (wl 0), .int (wu 0), .int (wa 0)])), (w1, .inr (3, [.int (nI (wb 1)), .long (wl 1), .int (wu 1), .int (wa 1)])), (w2, .inr (3, [.int (nI (wb 2)), .long (wl 2), .int (wu 2), .int (wa 2)])), (w3, .inr (3, [.int (nI jb), .long ic.toInt64, .int (wu 3), .int (wa 3)])), (o, .inr (4, [.int (nI n), .ref sp, .ref m0, .ref m1, .ref m2, .ref m3, .ref wt, .ref hi, .int (nI tol), .int (nI tm), .int (nI fs), .int (nI sd), .int (nI rj), .long er]))] H := hP
                have hD : va_D A [(wt, .inl (cW, 4, .inr (.inr (.inr (.inr wf))))), (w0, .inr (3, [.int (nI (wb 0)), .long (wl 0), .int (wu 0), .int (wa 0)])), (w1, .inr (3, [.int (nI (wb 1)), .long (wl 1), .int (wu 1), .int (wa 1)])), (w2, .inr (3, [.int (nI (wb 2)), .long (wl 2), .int (wu 2), .int (wa 2)])), (w3, .inr (3, [.int (nI jb), .long ic.toInt64, .int (wu 3), .int (wa 3)])), (o, .inr (4, [.int (nI n), .ref sp, .ref m0, .ref m1, .ref m2, .ref m3, .ref wt, .ref hi, .int (nI tol), .int (nI tm), .int (nI fs), .int (nI sd), .int (nI rj), .long er]))] := hD
                refine lv_aload hx hb d_R_watch_61 (lv_at hl 0 rfl) ?_
                refine lv_iload hx hb d_R_watch_63 (lv_at hl 5 rfl) ?_
                refine va_putN (D := D) (ci := 3) (v := .int id) (ty := (.boolean)) (C := "OscillatorRow$Watch") (T := T_W) (N := 4) hx hb hT i_W t_W t_W_ok n_W_ok hown hK hP hD hS 4 rfl rfl 2 (by decide) (va_Nw.use rfl (hN _ j_79)) (fun _ h9 => h9) rfl (by decide +kernel) (nz_01 hup) (by rcases hup with h9 | h9 <;> rw [h9] <;> rfl) (Nat.le_of_ble_eq_true rfl) d_R_watch_65 (fun H locs hP hD hS => ?_)
                have hP : va_P D vwCl [(wt, .inl (cW, 4, .inr (.inr (.inr (.inr wf))))), (w0, .inr (3, [.int (nI (wb 0)), .long (wl 0), .int (wu 0), .int (wa 0)])), (w1, .inr (3, [.int (nI (wb 1)), .long (wl 1), .int (wu 1), .int (wa 1)])), (w2, .inr (3, [.int (nI (wb 2)), .long (wl 2), .int (wu 2), .int (wa 2)])), (w3, .inr (3, [.int (nI jb), .long ic.toInt64, .int id, .int (wa 3)])), (o, .inr (4, [.int (nI n), .ref sp, .ref m0, .ref m1, .ref m2, .ref m3, .ref wt, .ref hi, .int (nI tol), .int (nI tm), .int (nI fs), .int (nI sd), .int (nI rj), .long er]))] H := hP
                have hD : va_D A [(wt, .inl (cW, 4, .inr (.inr (.inr (.inr wf))))), (w0, .inr (3, [.int (nI (wb 0)), .long (wl 0), .int (wu 0), .int (wa 0)])), (w1, .inr (3, [.int (nI (wb 1)), .long (wl 1), .int (wu 1), .int (wa 1)])), (w2, .inr (3, [.int (nI (wb 2)), .long (wl 2), .int (wu 2), .int (wa 2)])), (w3, .inr (3, [.int (nI jb), .long ic.toInt64, .int id, .int (wa 3)])), (o, .inr (4, [.int (nI n), .ref sp, .ref m0, .ref m1, .ref m2, .ref m3, .ref wt, .ref hi, .int (nI tol), .int (nI tm), .int (nI fs), .int (nI sd), .int (nI rj), .long er]))] := hD
                refine lv_aload hx hb d_R_watch_68 (lv_at hl 0 rfl) ?_
                refine lv_iload hx hb d_R_watch_70 (lv_at hl 6 rfl) ?_
                refine va_putN (D := D) (ci := 3) (v := .int ie) (ty := (.int)) (C := "OscillatorRow$Watch") (T := T_W) (N := 4) hx hb hT i_W t_W t_W_ok n_W_ok hown hK hP hD hS 4 rfl rfl 3 (by decide) (va_Nw.use rfl (hN _ j_81)) (fun _ h9 => h9) rfl (by decide +kernel) rfl rfl (Nat.le_of_ble_eq_true rfl) d_R_watch_72 (fun H locs hP hD hS => ?_)
                have hP : va_P D vwCl [(wt, .inl (cW, 4, .inr (.inr (.inr (.inr wf))))), (w0, .inr (3, [.int (nI (wb 0)), .long (wl 0), .int (wu 0), .int (wa 0)])), (w1, .inr (3, [.int (nI (wb 1)), .long (wl 1), .int (wu 1), .int (wa 1)])), (w2, .inr (3, [.int (nI (wb 2)), .long (wl 2), .int (wu 2), .int (wa 2)])), (w3, .inr (3, [.int (nI jb), .long ic.toInt64, .int id, .int ie])), (o, .inr (4, [.int (nI n), .ref sp, .ref m0, .ref m1, .ref m2, .ref m3, .ref wt, .ref hi, .int (nI tol), .int (nI tm), .int (nI fs), .int (nI sd), .int (nI rj), .long er]))] H := hP
                have hD : va_D A [(wt, .inl (cW, 4, .inr (.inr (.inr (.inr wf))))), (w0, .inr (3, [.int (nI (wb 0)), .long (wl 0), .int (wu 0), .int (wa 0)])), (w1, .inr (3, [.int (nI (wb 1)), .long (wl 1), .int (wu 1), .int (wa 1)])), (w2, .inr (3, [.int (nI (wb 2)), .long (wl 2), .int (wu 2), .int (wa 2)])), (w3, .inr (3, [.int (nI jb), .long ic.toInt64, .int id, .int ie])), (o, .inr (4, [.int (nI n), .ref sp, .ref m0, .ref m1, .ref m2, .ref m3, .ref wt, .ref hi, .int (nI tol), .int (nI tm), .int (nI fs), .int (nI sd), .int (nI rj), .long er]))] := hD
                refine lv_iconst (v := 0) hx hb d_R_watch_75 (by decide) ?_
                exact re_i (v := 0) ((va_up wb 3 jb), (vp_updL wl 3 ic.toInt64), (upd wu 3 id), (upd wa 3 ie)) hx hb hr hlocks (by rw [zCwatch, if_neg c1, if_neg c6, if_neg c14, if_pos c21, if_neg c29, if_pos c35] <;> rw [nI_clamp (by omega), nI_clamp (by omega)]) (hP.sub [5, 0, 1, 2, 3, 4] rfl) hK (hD.sub [5, 0, 1, 2, 3, 4] (by decide) rfl) hS d_R_watch_76
            · refine lv_iconst (v := (-1)) hx hb d_R_watch_38 (by decide) ?_
              exact re_i (v := (-1)) (wb, wl, wu, wa) hx hb hr hlocks (by rw [zCwatch, if_neg c1, if_neg c6, if_neg c14, if_pos c21, if_neg c29, if_neg c35] <;> rw [nI_clamp (by omega), nI_clamp (by omega)]) (hP.sub [5, 0, 1, 2, 3, 4] rfl) hK (hD.sub [5, 0, 1, 2, 3, 4] (by decide) rfl) hS d_R_watch_39
        · refine lv_iconst (v := (-1)) hx hb d_R_watch_24 (by decide) ?_
          exact re_i (v := (-1)) (wb, wl, wu, wa) hx hb hr hlocks (by rw [zCwatch, if_neg c1, if_neg c6, if_neg c14, if_neg (fun q => q c21)] <;> rw [nI_clamp (by omega), nI_clamp (by omega)]) (hP.sub [5, 0, 1, 2, 3, 4] rfl) hK (hD.sub [5, 0, 1, 2, 3, 4] (by decide) rfl) hS d_R_watch_25
end
section
set_option maxHeartbeats 4000000 in
set_option maxRecDepth 100000 in
theorem c_R_try (l : Launch) (D : va_G) (cI cL cW cZ : ClassId) (o : Nat) (n : Nat) (sp : Nat) (m0 : Nat) (m1 : Nat) (m2 : Nat) (m3 : Nat) (wt : Nat) (hi : Nat) (tol : Nat) (tm : Nat) (fs : Nat) (sd : Nat) (rj : Nat) (er : Int64) (ak : Nat) (ac : Nat) (aq : Nat) (af : Nat) (zk : Nat → Int32) (zc : Nat → Int32) (zq : Nat → Int32) (zf : Nat → Int32) (x0 : Nat) (v0 : Nat) (px : Nat → Int64) (pv : Nat → Int64) (x2 : Nat) (v2 : Nat) (x3 : Nat) (v3 : Nat) (cx : Nat → Int64) (cv : Nat → Int64) (fx : Nat → Int64) (fv : Nat → Int64) (sz : Nat) (hn : n ≤ 4) : Met l y_R_errorOfTry w_R_errorOfTry ({ frames := 3, cells := 0, slots := 0, locals := 74 }) (va_Pc [.ref o] (gP D vwCl (tyv cI cL cW cZ) [(o, .inr (4, [.int (nI n), .ref sp, .ref m0, .ref m1, .ref m2, .ref m3, .ref wt, .ref hi, .int (nI tol), .int (nI tm), .int (nI fs), .int (nI sd), .int (nI rj), .long er])), (sp, .inr (2, [.int (nI n), .ref ak, .ref ac, .ref aq, .ref af])), (ak, .inl (cI, n, .inl zk)), (ac, .inl (cI, n, .inl zc)), (aq, .inl (cI, n, .inl zq)), (af, .inl (cI, n, .inl zf)), (m0, .inr (1, [.ref x0, .ref v0])), (x0, .inl (cL, n, .inr (.inl px))), (v0, .inl (cL, n, .inr (.inl pv))), (m2, .inr (1, [.ref x2, .ref v2])), (x2, .inl (cL, n, .inr (.inl cx))), (v2, .inl (cL, n, .inr (.inl cv))), (m3, .inr (1, [.ref x3, .ref v3])), (x3, .inl (cL, n, .inr (.inl fx))), (v3, .inl (cL, n, .inr (.inl fv)))] sz)) (va_Ql (fun (r : Int64) (u : (Nat → Int64) × (Nat → Int64) × (Nat → Int64) × (Nat → Int64)) => (zTry n zk zc zq zf fs px pv = none ∧ r = (-1)) ∨ zTry n zk zc zq zf fs px pv = some (r, u.2.2.1, u.2.2.2)) (fun u t => gB D vwCl (tyv cI cL cW cZ) (va_A [(o, .inr (4, [.int (nI n), .ref sp, .ref m0, .ref m1, .ref m2, .ref m3, .ref wt, .ref hi, .int (nI tol), .int (nI tm), .int (nI fs), .int (nI sd), .int (nI rj), .long er])), (sp, .inr (2, [.int (nI n), .ref ak, .ref ac, .ref aq, .ref af])), (ak, .inl (cI, n, .inl zk)), (ac, .inl (cI, n, .inl zc)), (aq, .inl (cI, n, .inl zq)), (af, .inl (cI, n, .inl zf)), (m0, .inr (1, [.ref x0, .ref v0])), (x0, .inl (cL, n, .inr (.inl px))), (v0, .inl (cL, n, .inr (.inl pv))), (m2, .inr (1, [.ref x2, .ref v2])), (x2, .inl (cL, n, .inr (.inl cx))), (v2, .inl (cL, n, .inr (.inl cv))), (m3, .inr (1, [.ref x3, .ref v3])), (x3, .inl (cL, n, .inr (.inl fx))), (v3, .inl (cL, n, .inr (.inl fv)))] sz) [(o, .inr (4, [.int (nI n), .ref sp, .ref m0, .ref m1, .ref m2, .ref m3, .ref wt, .ref hi, .int (nI tol), .int (nI tm), .int (nI fs), .int (nI sd), .int (nI rj), .long er])), (sp, .inr (2, [.int (nI n), .ref ak, .ref ac, .ref aq, .ref af])), (ak, .inl (cI, n, .inl zk)), (ac, .inl (cI, n, .inl zc)), (aq, .inl (cI, n, .inl zq)), (af, .inl (cI, n, .inl zf)), (m0, .inr (1, [.ref x0, .ref v0])), (x0, .inl (cL, n, .inr (.inl px))), (v0, .inl (cL, n, .inr (.inl pv))), (m2, .inr (1, [.ref x2, .ref v2])), (x2, .inl (cL, n, .inr (.inl u.1))), (v2, .inl (cL, n, .inr (.inl u.2.1))), (m3, .inr (1, [.ref x3, .ref v3])), (x3, .inl (cL, n, .inr (.inl u.2.2.1))), (v3, .inl (cL, n, .inr (.inl u.2.2.2)))] t) (va_A [(o, .inr (4, [.int (nI n), .ref sp, .ref m0, .ref m1, .ref m2, .ref m3, .ref wt, .ref hi, .int (nI tol), .int (nI tm), .int (nI fs), .int (nI sd), .int (nI rj), .long er])), (sp, .inr (2, [.int (nI n), .ref ak, .ref ac, .ref aq, .ref af])), (ak, .inl (cI, n, .inl zk)), (ac, .inl (cI, n, .inl zc)), (aq, .inl (cI, n, .inl zq)), (af, .inl (cI, n, .inl zf)), (m0, .inr (1, [.ref x0, .ref v0])), (x0, .inl (cL, n, .inr (.inl px))), (v0, .inl (cL, n, .inr (.inl pv))), (m2, .inr (1, [.ref x2, .ref v2])), (x2, .inl (cL, n, .inr (.inl cx))), (v2, .inl (cL, n, .inr (.inl cv))), (m3, .inr (1, [.ref x3, .ref v3])), (x3, .inl (cL, n, .inr (.inl fx))), (v3, .inl (cL, n, .inr (.inl fv)))] sz)) 0 0 (va_A [(o, .inr (4, [.int (nI n), .ref sp, .ref m0, .ref m1, .ref m2, .ref m3, .ref wt, .ref hi, .int (nI tol), .int (nI tm), .int (nI fs), .int (nI sd), .int (nI rj), .long er])), (sp, .inr (2, [.int (nI n), .ref ak, .ref ac, .ref aq, .ref af])), (ak, .inl (cI, n, .inl zk)), (ac, .inl (cI, n, .inl zc)), (aq, .inl (cI, n, .inl zq)), (af, .inl (cI, n, .inl zf)), (m0, .inr (1, [.ref x0, .ref v0])), (x0, .inl (cL, n, .inr (.inl px))), (v0, .inl (cL, n, .inr (.inl pv))), (m2, .inr (1, [.ref x2, .ref v2])), (x2, .inl (cL, n, .inr (.inl cx))), (v2, .inl (cL, n, .inr (.inl cv))), (m3, .inr (1, [.ref x3, .ref v3])), (x3, .inl (cL, n, .inr (.inl fx))), (v3, .inl (cL, n, .inr (.inl fv)))] sz) := by
  refine met_go (cc := prog_1_method_23_code) (maxL := 2) (ret := (some .long)) (QA := fun A => va_Ql (fun (r : Int64) (u : (Nat → Int64) × (Nat → Int64) × (Nat → Int64) × (Nat → Int64)) => (zTry n zk zc zq zf fs px pv = none ∧ r = (-1)) ∨ zTry n zk zc zq zf fs px pv = some (r, u.2.2.1, u.2.2.2)) (fun u t => gB D vwCl (tyv cI cL cW cZ) A [(o, .inr (4, [.int (nI n), .ref sp, .ref m0, .ref m1, .ref m2, .ref m3, .ref wt, .ref hi, .int (nI tol), .int (nI tm), .int (nI fs), .int (nI sd), .int (nI rj), .long er])), (sp, .inr (2, [.int (nI n), .ref ak, .ref ac, .ref aq, .ref af])), (ak, .inl (cI, n, .inl zk)), (ac, .inl (cI, n, .inl zc)), (aq, .inl (cI, n, .inl zq)), (af, .inl (cI, n, .inl zf)), (m0, .inr (1, [.ref x0, .ref v0])), (x0, .inl (cL, n, .inr (.inl px))), (v0, .inl (cL, n, .inr (.inl pv))), (m2, .inr (1, [.ref x2, .ref v2])), (x2, .inl (cL, n, .inr (.inl u.1))), (v2, .inl (cL, n, .inr (.inl u.2.1))), (m3, .inr (1, [.ref x3, .ref v3])), (x3, .inl (cL, n, .inr (.inl u.2.2.1))), (v3, .inl (cL, n, .inr (.inl u.2.2.2)))] t) A) (by decide) (Nat.le_of_ble_eq_true rfl) ?_
  intro p e s m below meth c A ls hx hb hr hml hT hN hown hlocks hin hl hP hK hD hA hS
  have hl : lv_has ls 2 [(0, .ref o)] := hl
  refine lv_aload_n hx hb d_R_errorOfTry_0 rfl (lv_at hl 0 rfl) ?_
  refine va_get (D := D) (ci := 4) (v := .ref m2) (C := "OscillatorRow") (T := T_R) (N := 14) hx hb hT i_R hown hK hP 0 rfl rfl 4 (by decide) (hT _ k_118) (fun _ h9 => h9) rfl d_R_errorOfTry_1 ?_
  refine lv_aload_n hx hb d_R_errorOfTry_4 rfl (lv_at hl 0 rfl) ?_
  refine va_get (D := D) (ci := 4) (v := .ref m0) (C := "OscillatorRow") (T := T_R) (N := 14) hx hb hT i_R hown hK hP 0 rfl rfl 2 (by decide) (hT _ k_116) (fun _ h9 => h9) rfl d_R_errorOfTry_5 ?_
  have hPc := hP.sub (ws' := [(m2, .inr (1, [.ref x2, .ref v2])), (x2, .inl (cL, n, .inr (.inl cx))), (v2, .inl (cL, n, .inr (.inl cv))), (m0, .inr (1, [.ref x0, .ref v0])), (x0, .inl (cL, n, .inr (.inl px))), (v0, .inl (cL, n, .inr (.inl pv)))]) [9, 10, 11, 6, 7, 8] rfl
  have hDc := hD.sub (ws' := [(m2, .inr (1, [.ref x2, .ref v2])), (x2, .inl (cL, n, .inr (.inl cx))), (v2, .inl (cL, n, .inr (.inl cv))), (m0, .inr (1, [.ref x0, .ref v0])), (x0, .inl (cL, n, .inr (.inl px))), (v0, .inl (cL, n, .inr (.inl pv)))]) [9, 10, 11, 6, 7, 8] (by decide) rfl
  refine gc_v (w1 := fun (u : Unit) => [(m2, .inr (1, [.ref x2, .ref v2])), (x2, .inl (cL, n, .inr (.inl px))), (v2, .inl (cL, n, .inr (.inl pv))), (m0, .inr (1, [.ref x0, .ref v0])), (x0, .inl (cL, n, .inr (.inl px))), (v0, .inl (cL, n, .inr (.inl pv)))]) (wc := [(m2, .inr (1, [.ref x2, .ref v2])), (x2, .inl (cL, n, .inr (.inl cx))), (v2, .inl (cL, n, .inr (.inl cv))), (m0, .inr (1, [.ref x0, .ref v0])), (x0, .inl (cL, n, .inr (.inl px))), (v0, .inl (cL, n, .inr (.inl pv)))]) (wr := [(o, .inr (4, [.int (nI n), .ref sp, .ref m0, .ref m1, .ref m2, .ref m3, .ref wt, .ref hi, .int (nI tol), .int (nI tm), .int (nI fs), .int (nI sd), .int (nI rj), .long er])), (sp, .inr (2, [.int (nI n), .ref ak, .ref ac, .ref aq, .ref af])), (ak, .inl (cI, n, .inl zk)), (ac, .inl (cI, n, .inl zc)), (aq, .inl (cI, n, .inl zq)), (af, .inl (cI, n, .inl zf)), (m3, .inr (1, [.ref x3, .ref v3])), (x3, .inl (cL, n, .inr (.inl fx))), (v3, .inl (cL, n, .inr (.inl fv)))]) hP hD hS hA [9, 10, 11, 6, 7, 8] [0, 1, 2, 3, 4, 5, 12, 13, 14] rfl rfl (by decide) (by decide) (va_runV (As := [.ref m0]) (rest := []) ⟨hx, hb, hml, hown, hT⟩ (c_M_copy l D cI cL cW cZ m2 x2 v2 m0 x0 v0 cx cv px pv n s.heap.size hn) (cwV 1 hT (good_V k_217 k_218 k_219 k_4 k_220) rfl rfl rfl (by decide +kernel) ⟨Nat.le_of_ble_eq_true rfl, Nat.le_of_ble_eq_true rfl⟩) (pre_V hPc hDc hK hN (ci := 1) rfl rfl) rfl rfl hl.1 rfl (lv_room (Nat.le_of_ble_eq_true rfl)) d_R_errorOfTry_8 ⟨(Nat.le_of_ble_eq_true rfl), (Nat.le_of_ble_eq_true rfl)⟩) (fun u H locs hw hP hD hS => ?_)
  try dsimp only at hw
  have hP : va_P D vwCl [(o, .inr (4, [.int (nI n), .ref sp, .ref m0, .ref m1, .ref m2, .ref m3, .ref wt, .ref hi, .int (nI tol), .int (nI tm), .int (nI fs), .int (nI sd), .int (nI rj), .long er])), (sp, .inr (2, [.int (nI n), .ref ak, .ref ac, .ref aq, .ref af])), (ak, .inl (cI, n, .inl zk)), (ac, .inl (cI, n, .inl zc)), (aq, .inl (cI, n, .inl zq)), (af, .inl (cI, n, .inl zf)), (m3, .inr (1, [.ref x3, .ref v3])), (x3, .inl (cL, n, .inr (.inl fx))), (v3, .inl (cL, n, .inr (.inl fv))), (m2, .inr (1, [.ref x2, .ref v2])), (x2, .inl (cL, n, .inr (.inl px))), (v2, .inl (cL, n, .inr (.inl pv))), (m0, .inr (1, [.ref x0, .ref v0])), (x0, .inl (cL, n, .inr (.inl px))), (v0, .inl (cL, n, .inr (.inl pv)))] H := hP
  have hD : va_D A [(o, .inr (4, [.int (nI n), .ref sp, .ref m0, .ref m1, .ref m2, .ref m3, .ref wt, .ref hi, .int (nI tol), .int (nI tm), .int (nI fs), .int (nI sd), .int (nI rj), .long er])), (sp, .inr (2, [.int (nI n), .ref ak, .ref ac, .ref aq, .ref af])), (ak, .inl (cI, n, .inl zk)), (ac, .inl (cI, n, .inl zc)), (aq, .inl (cI, n, .inl zq)), (af, .inl (cI, n, .inl zf)), (m3, .inr (1, [.ref x3, .ref v3])), (x3, .inl (cL, n, .inr (.inl fx))), (v3, .inl (cL, n, .inr (.inl fv))), (m2, .inr (1, [.ref x2, .ref v2])), (x2, .inl (cL, n, .inr (.inl px))), (v2, .inl (cL, n, .inr (.inl pv))), (m0, .inr (1, [.ref x0, .ref v0])), (x0, .inl (cL, n, .inr (.inl px))), (v0, .inl (cL, n, .inr (.inl pv)))] := hD
  refine lv_aload_n hx hb d_R_errorOfTry_11 rfl (lv_at hl 0 rfl) ?_
  refine va_get (D := D) (ci := 4) (v := .ref m3) (C := "OscillatorRow") (T := T_R) (N := 14) hx hb hT i_R hown hK hP 0 rfl rfl 5 (by decide) (hT _ k_119) (fun _ h9 => h9) rfl d_R_errorOfTry_12 ?_
  refine lv_aload_n hx hb d_R_errorOfTry_15 rfl (lv_at hl 0 rfl) ?_
  refine va_get (D := D) (ci := 4) (v := .ref m0) (C := "OscillatorRow") (T := T_R) (N := 14) hx hb hT i_R hown hK hP 0 rfl rfl 2 (by decide) (hT _ k_116) (fun _ h9 => h9) rfl d_R_errorOfTry_16 ?_
  have hPc := hP.sub (ws' := [(m3, .inr (1, [.ref x3, .ref v3])), (x3, .inl (cL, n, .inr (.inl fx))), (v3, .inl (cL, n, .inr (.inl fv))), (m0, .inr (1, [.ref x0, .ref v0])), (x0, .inl (cL, n, .inr (.inl px))), (v0, .inl (cL, n, .inr (.inl pv)))]) [6, 7, 8, 12, 13, 14] rfl
  have hDc := hD.sub (ws' := [(m3, .inr (1, [.ref x3, .ref v3])), (x3, .inl (cL, n, .inr (.inl fx))), (v3, .inl (cL, n, .inr (.inl fv))), (m0, .inr (1, [.ref x0, .ref v0])), (x0, .inl (cL, n, .inr (.inl px))), (v0, .inl (cL, n, .inr (.inl pv)))]) [6, 7, 8, 12, 13, 14] (by decide) rfl
  refine gc_v (w1 := fun (u : Unit) => [(m3, .inr (1, [.ref x3, .ref v3])), (x3, .inl (cL, n, .inr (.inl px))), (v3, .inl (cL, n, .inr (.inl pv))), (m0, .inr (1, [.ref x0, .ref v0])), (x0, .inl (cL, n, .inr (.inl px))), (v0, .inl (cL, n, .inr (.inl pv)))]) (wc := [(m3, .inr (1, [.ref x3, .ref v3])), (x3, .inl (cL, n, .inr (.inl fx))), (v3, .inl (cL, n, .inr (.inl fv))), (m0, .inr (1, [.ref x0, .ref v0])), (x0, .inl (cL, n, .inr (.inl px))), (v0, .inl (cL, n, .inr (.inl pv)))]) (wr := [(o, .inr (4, [.int (nI n), .ref sp, .ref m0, .ref m1, .ref m2, .ref m3, .ref wt, .ref hi, .int (nI tol), .int (nI tm), .int (nI fs), .int (nI sd), .int (nI rj), .long er])), (sp, .inr (2, [.int (nI n), .ref ak, .ref ac, .ref aq, .ref af])), (ak, .inl (cI, n, .inl zk)), (ac, .inl (cI, n, .inl zc)), (aq, .inl (cI, n, .inl zq)), (af, .inl (cI, n, .inl zf)), (m2, .inr (1, [.ref x2, .ref v2])), (x2, .inl (cL, n, .inr (.inl px))), (v2, .inl (cL, n, .inr (.inl pv)))]) hP hD hS hA [6, 7, 8, 12, 13, 14] [0, 1, 2, 3, 4, 5, 9, 10, 11] rfl rfl (by decide) (by decide) (va_runV (As := [.ref m0]) (rest := []) ⟨hx, hb, hml, hown, hT⟩ (c_M_copy l D cI cL cW cZ m3 x3 v3 m0 x0 v0 fx fv px pv n H.size hn) (cwV 1 hT (good_V k_217 k_218 k_219 k_4 k_220) rfl rfl rfl (by decide +kernel) ⟨Nat.le_of_ble_eq_true rfl, Nat.le_of_ble_eq_true rfl⟩) (pre_V hPc hDc hK hN (ci := 1) rfl rfl) rfl rfl hl.1 rfl (lv_room (Nat.le_of_ble_eq_true rfl)) d_R_errorOfTry_19 ⟨(Nat.le_of_ble_eq_true rfl), (Nat.le_of_ble_eq_true rfl)⟩) (fun u H locs hw hP hD hS => ?_)
  try dsimp only at hw
  have hP : va_P D vwCl [(o, .inr (4, [.int (nI n), .ref sp, .ref m0, .ref m1, .ref m2, .ref m3, .ref wt, .ref hi, .int (nI tol), .int (nI tm), .int (nI fs), .int (nI sd), .int (nI rj), .long er])), (sp, .inr (2, [.int (nI n), .ref ak, .ref ac, .ref aq, .ref af])), (ak, .inl (cI, n, .inl zk)), (ac, .inl (cI, n, .inl zc)), (aq, .inl (cI, n, .inl zq)), (af, .inl (cI, n, .inl zf)), (m2, .inr (1, [.ref x2, .ref v2])), (x2, .inl (cL, n, .inr (.inl px))), (v2, .inl (cL, n, .inr (.inl pv))), (m3, .inr (1, [.ref x3, .ref v3])), (x3, .inl (cL, n, .inr (.inl px))), (v3, .inl (cL, n, .inr (.inl pv))), (m0, .inr (1, [.ref x0, .ref v0])), (x0, .inl (cL, n, .inr (.inl px))), (v0, .inl (cL, n, .inr (.inl pv)))] H := hP
  have hD : va_D A [(o, .inr (4, [.int (nI n), .ref sp, .ref m0, .ref m1, .ref m2, .ref m3, .ref wt, .ref hi, .int (nI tol), .int (nI tm), .int (nI fs), .int (nI sd), .int (nI rj), .long er])), (sp, .inr (2, [.int (nI n), .ref ak, .ref ac, .ref aq, .ref af])), (ak, .inl (cI, n, .inl zk)), (ac, .inl (cI, n, .inl zc)), (aq, .inl (cI, n, .inl zq)), (af, .inl (cI, n, .inl zf)), (m2, .inr (1, [.ref x2, .ref v2])), (x2, .inl (cL, n, .inr (.inl px))), (v2, .inl (cL, n, .inr (.inl pv))), (m3, .inr (1, [.ref x3, .ref v3])), (x3, .inl (cL, n, .inr (.inl px))), (v3, .inl (cL, n, .inr (.inl pv))), (m0, .inr (1, [.ref x0, .ref v0])), (x0, .inl (cL, n, .inr (.inl px))), (v0, .inl (cL, n, .inr (.inl pv)))] := hD
  refine lv_aload_n hx hb d_R_errorOfTry_22 rfl (lv_at hl 0 rfl) ?_
  refine va_get (D := D) (ci := 4) (v := .ref sp) (C := "OscillatorRow") (T := T_R) (N := 14) hx hb hT i_R hown hK hP 0 rfl rfl 1 (by decide) (hT _ k_115) (fun _ h9 => h9) rfl d_R_errorOfTry_23 ?_
  refine lv_aload_n hx hb d_R_errorOfTry_26 rfl (lv_at hl 0 rfl) ?_
  refine va_get (D := D) (ci := 4) (v := .ref m2) (C := "OscillatorRow") (T := T_R) (N := 14) hx hb hT i_R hown hK hP 0 rfl rfl 4 (by decide) (hT _ k_118) (fun _ h9 => h9) rfl d_R_errorOfTry_27 ?_
  refine lv_aload_n hx hb d_R_errorOfTry_30 rfl (lv_at hl 0 rfl) ?_
  refine va_get (D := D) (ci := 4) (v := .int (nI fs)) (C := "OscillatorRow") (T := T_R) (N := 14) hx hb hT i_R hown hK hP 0 rfl rfl 10 (by decide) (hT _ k_124) (fun _ h9 => h9) rfl d_R_errorOfTry_31 ?_
  have hPc := hP.sub (ws' := [(sp, .inr (2, [.int (nI n), .ref ak, .ref ac, .ref aq, .ref af])), (ak, .inl (cI, n, .inl zk)), (ac, .inl (cI, n, .inl zc)), (aq, .inl (cI, n, .inl zq)), (af, .inl (cI, n, .inl zf)), (m2, .inr (1, [.ref x2, .ref v2])), (x2, .inl (cL, n, .inr (.inl px))), (v2, .inl (cL, n, .inr (.inl pv)))]) [1, 2, 3, 4, 5, 6, 7, 8] rfl
  have hDc := hD.sub (ws' := [(sp, .inr (2, [.int (nI n), .ref ak, .ref ac, .ref aq, .ref af])), (ak, .inl (cI, n, .inl zk)), (ac, .inl (cI, n, .inl zc)), (aq, .inl (cI, n, .inl zq)), (af, .inl (cI, n, .inl zf)), (m2, .inr (1, [.ref x2, .ref v2])), (x2, .inl (cL, n, .inr (.inl px))), (v2, .inl (cL, n, .inr (.inl pv)))]) [1, 2, 3, 4, 5, 6, 7, 8] (by decide) rfl
  refine gc_i (w1 := fun (u : (Nat → Int64) × (Nat → Int64)) => [(sp, .inr (2, [.int (nI n), .ref ak, .ref ac, .ref aq, .ref af])), (ak, .inl (cI, n, .inl zk)), (ac, .inl (cI, n, .inl zc)), (aq, .inl (cI, n, .inl zq)), (af, .inl (cI, n, .inl zf)), (m2, .inr (1, [.ref x2, .ref v2])), (x2, .inl (cL, n, .inr (.inl u.1))), (v2, .inl (cL, n, .inr (.inl u.2)))]) (wc := [(sp, .inr (2, [.int (nI n), .ref ak, .ref ac, .ref aq, .ref af])), (ak, .inl (cI, n, .inl zk)), (ac, .inl (cI, n, .inl zc)), (aq, .inl (cI, n, .inl zq)), (af, .inl (cI, n, .inl zf)), (m2, .inr (1, [.ref x2, .ref v2])), (x2, .inl (cL, n, .inr (.inl px))), (v2, .inl (cL, n, .inr (.inl pv)))]) (wr := [(o, .inr (4, [.int (nI n), .ref sp, .ref m0, .ref m1, .ref m2, .ref m3, .ref wt, .ref hi, .int (nI tol), .int (nI tm), .int (nI fs), .int (nI sd), .int (nI rj), .long er])), (m3, .inr (1, [.ref x3, .ref v3])), (x3, .inl (cL, n, .inr (.inl px))), (v3, .inl (cL, n, .inr (.inl pv))), (m0, .inr (1, [.ref x0, .ref v0])), (x0, .inl (cL, n, .inr (.inl px))), (v0, .inl (cL, n, .inr (.inl pv)))]) hP hD hS hA [1, 2, 3, 4, 5, 6, 7, 8] [0, 9, 10, 11, 12, 13, 14] rfl rfl (by decide) (by decide) (va_runV (As := [.ref m2, .int (nI fs)]) (rest := []) ⟨hx, hb, hml, hown, hT⟩ (c_S_step l D cI cL cW cZ sp ak ac aq af n zk zc zq zf m2 x2 v2 px pv (nI fs) H.size hn) (cwV 2 hT (good_V k_224 k_225 k_226 k_3 k_227) rfl rfl rfl (by decide +kernel) ⟨Nat.le_of_ble_eq_true rfl, Nat.le_of_ble_eq_true rfl⟩) (pre_V hPc hDc hK hN (ci := 2) rfl rfl) rfl rfl hl.1 rfl (lv_room (Nat.le_of_ble_eq_true rfl)) d_R_errorOfTry_34 ⟨(Nat.le_of_ble_eq_true rfl), (Nat.le_of_ble_eq_true rfl)⟩) (fun r u H locs hw hP hD hS => ?_)
  obtain ⟨gx1, gv1⟩ := u
  try dsimp only at hw
  have hP : va_P D vwCl [(o, .inr (4, [.int (nI n), .ref sp, .ref m0, .ref m1, .ref m2, .ref m3, .ref wt, .ref hi, .int (nI tol), .int (nI tm), .int (nI fs), .int (nI sd), .int (nI rj), .long er])), (m3, .inr (1, [.ref x3, .ref v3])), (x3, .inl (cL, n, .inr (.inl px))), (v3, .inl (cL, n, .inr (.inl pv))), (m0, .inr (1, [.ref x0, .ref v0])), (x0, .inl (cL, n, .inr (.inl px))), (v0, .inl (cL, n, .inr (.inl pv))), (sp, .inr (2, [.int (nI n), .ref ak, .ref ac, .ref aq, .ref af])), (ak, .inl (cI, n, .inl zk)), (ac, .inl (cI, n, .inl zc)), (aq, .inl (cI, n, .inl zq)), (af, .inl (cI, n, .inl zf)), (m2, .inr (1, [.ref x2, .ref v2])), (x2, .inl (cL, n, .inr (.inl gx1))), (v2, .inl (cL, n, .inr (.inl gv1)))] H := hP
  have hD : va_D A [(o, .inr (4, [.int (nI n), .ref sp, .ref m0, .ref m1, .ref m2, .ref m3, .ref wt, .ref hi, .int (nI tol), .int (nI tm), .int (nI fs), .int (nI sd), .int (nI rj), .long er])), (m3, .inr (1, [.ref x3, .ref v3])), (x3, .inl (cL, n, .inr (.inl px))), (v3, .inl (cL, n, .inr (.inl pv))), (m0, .inr (1, [.ref x0, .ref v0])), (x0, .inl (cL, n, .inr (.inl px))), (v0, .inl (cL, n, .inr (.inl pv))), (sp, .inr (2, [.int (nI n), .ref ak, .ref ac, .ref aq, .ref af])), (ak, .inl (cI, n, .inl zk)), (ac, .inl (cI, n, .inl zc)), (aq, .inl (cI, n, .inl zq)), (af, .inl (cI, n, .inl zf)), (m2, .inr (1, [.ref x2, .ref v2])), (x2, .inl (cL, n, .inr (.inl gx1))), (v2, .inl (cL, n, .inr (.inl gv1)))] := hD
  revert hw
  generalize r = r1
  intro hw
  have t1 := hw
  refine lv_if_eq (tgt := 84) hx hb d_R_errorOfTry_37 (by decide) (fun c37 => ?_) (fun c37 => ?_)
  · refine lv_iconst (v := 0) hx hb d_R_errorOfTry_84 (by decide) ?_
    refine lv_istore_n (lv' := [(1, .int 0), (0, .ref o)]) hx hb d_R_errorOfTry_85 rfl hl (by decide) rfl (fun ls hl => ?_)
    refine lv_iload_n hx hb d_R_errorOfTry_86 rfl (lv_at hl 0 rfl) ?_
    refine lv_if_eq (tgt := 104) hx hb d_R_errorOfTry_87 (by decide) (fun c87 => ?_) (fun c87 => ?_)
    · refine lv_ldc2 (v := (-1)) hx hb hown (hT _ k_258) d_R_errorOfTry_104 ?_
      exact re_l (v := (-1)) (gx1, gv1, px, pv) hx hb hr hlocks (Or.inl ⟨zTry_1 t1 c37, rfl⟩) (hP.sub [0, 7, 8, 9, 10, 11, 4, 5, 6, 12, 13, 14, 1, 2, 3] rfl) hK (hD.sub [0, 7, 8, 9, 10, 11, 4, 5, 6, 12, 13, 14, 1, 2, 3] (by decide) rfl) hS d_R_errorOfTry_107
    · exact absurd c87 (by decide)
  · refine lv_aload_n hx hb d_R_errorOfTry_40 rfl (lv_at hl 0 rfl) ?_
    refine va_get (D := D) (ci := 4) (v := .ref sp) (C := "OscillatorRow") (T := T_R) (N := 14) hx hb hT i_R hown hK hP 0 rfl rfl 1 (by decide) (hT _ k_115) (fun _ h9 => h9) rfl d_R_errorOfTry_41 ?_
    refine lv_aload_n hx hb d_R_errorOfTry_44 rfl (lv_at hl 0 rfl) ?_
    refine va_get (D := D) (ci := 4) (v := .ref m3) (C := "OscillatorRow") (T := T_R) (N := 14) hx hb hT i_R hown hK hP 0 rfl rfl 5 (by decide) (hT _ k_119) (fun _ h9 => h9) rfl d_R_errorOfTry_45 ?_
    refine lv_aload_n hx hb d_R_errorOfTry_48 rfl (lv_at hl 0 rfl) ?_
    refine va_get (D := D) (ci := 4) (v := .int (nI fs)) (C := "OscillatorRow") (T := T_R) (N := 14) hx hb hT i_R hown hK hP 0 rfl rfl 10 (by decide) (hT _ k_124) (fun _ h9 => h9) rfl d_R_errorOfTry_49 ?_
    refine lv_iconst (v := 1) hx hb d_R_errorOfTry_52 (by decide) ?_
    refine lv_iadd hx hb d_R_errorOfTry_53 ?_
    refine top_i (y := (nI (fs + 1))) (nI_1 fs) ?_
    have hPc := hP.sub (ws' := [(sp, .inr (2, [.int (nI n), .ref ak, .ref ac, .ref aq, .ref af])), (ak, .inl (cI, n, .inl zk)), (ac, .inl (cI, n, .inl zc)), (aq, .inl (cI, n, .inl zq)), (af, .inl (cI, n, .inl zf)), (m3, .inr (1, [.ref x3, .ref v3])), (x3, .inl (cL, n, .inr (.inl px))), (v3, .inl (cL, n, .inr (.inl pv)))]) [7, 8, 9, 10, 11, 1, 2, 3] rfl
    have hDc := hD.sub (ws' := [(sp, .inr (2, [.int (nI n), .ref ak, .ref ac, .ref aq, .ref af])), (ak, .inl (cI, n, .inl zk)), (ac, .inl (cI, n, .inl zc)), (aq, .inl (cI, n, .inl zq)), (af, .inl (cI, n, .inl zf)), (m3, .inr (1, [.ref x3, .ref v3])), (x3, .inl (cL, n, .inr (.inl px))), (v3, .inl (cL, n, .inr (.inl pv)))]) [7, 8, 9, 10, 11, 1, 2, 3] (by decide) rfl
    refine gc_i (w1 := fun (u : (Nat → Int64) × (Nat → Int64)) => [(sp, .inr (2, [.int (nI n), .ref ak, .ref ac, .ref aq, .ref af])), (ak, .inl (cI, n, .inl zk)), (ac, .inl (cI, n, .inl zc)), (aq, .inl (cI, n, .inl zq)), (af, .inl (cI, n, .inl zf)), (m3, .inr (1, [.ref x3, .ref v3])), (x3, .inl (cL, n, .inr (.inl u.1))), (v3, .inl (cL, n, .inr (.inl u.2)))]) (wc := [(sp, .inr (2, [.int (nI n), .ref ak, .ref ac, .ref aq, .ref af])), (ak, .inl (cI, n, .inl zk)), (ac, .inl (cI, n, .inl zc)), (aq, .inl (cI, n, .inl zq)), (af, .inl (cI, n, .inl zf)), (m3, .inr (1, [.ref x3, .ref v3])), (x3, .inl (cL, n, .inr (.inl px))), (v3, .inl (cL, n, .inr (.inl pv)))]) (wr := [(o, .inr (4, [.int (nI n), .ref sp, .ref m0, .ref m1, .ref m2, .ref m3, .ref wt, .ref hi, .int (nI tol), .int (nI tm), .int (nI fs), .int (nI sd), .int (nI rj), .long er])), (m0, .inr (1, [.ref x0, .ref v0])), (x0, .inl (cL, n, .inr (.inl px))), (v0, .inl (cL, n, .inr (.inl pv))), (m2, .inr (1, [.ref x2, .ref v2])), (x2, .inl (cL, n, .inr (.inl gx1))), (v2, .inl (cL, n, .inr (.inl gv1)))]) hP hD hS hA [7, 8, 9, 10, 11, 1, 2, 3] [0, 4, 5, 6, 12, 13, 14] rfl rfl (by decide) (by decide) (va_runV (As := [.ref m3, .int (nI (fs + 1))]) (rest := []) ⟨hx, hb, hml, hown, hT⟩ (c_S_step l D cI cL cW cZ sp ak ac aq af n zk zc zq zf m3 x3 v3 px pv (nI (fs + 1)) H.size hn) (cwV 2 hT (good_V k_224 k_225 k_226 k_3 k_227) rfl rfl rfl (by decide +kernel) ⟨Nat.le_of_ble_eq_true rfl, Nat.le_of_ble_eq_true rfl⟩) (pre_V hPc hDc hK hN (ci := 2) rfl rfl) rfl rfl hl.1 rfl (lv_room (Nat.le_of_ble_eq_true rfl)) d_R_errorOfTry_54 ⟨(Nat.le_of_ble_eq_true rfl), (Nat.le_of_ble_eq_true rfl)⟩) (fun r u H locs hw hP hD hS => ?_)
    obtain ⟨gx2, gv2⟩ := u
    try dsimp only at hw
    have hP : va_P D vwCl [(o, .inr (4, [.int (nI n), .ref sp, .ref m0, .ref m1, .ref m2, .ref m3, .ref wt, .ref hi, .int (nI tol), .int (nI tm), .int (nI fs), .int (nI sd), .int (nI rj), .long er])), (m0, .inr (1, [.ref x0, .ref v0])), (x0, .inl (cL, n, .inr (.inl px))), (v0, .inl (cL, n, .inr (.inl pv))), (m2, .inr (1, [.ref x2, .ref v2])), (x2, .inl (cL, n, .inr (.inl gx1))), (v2, .inl (cL, n, .inr (.inl gv1))), (sp, .inr (2, [.int (nI n), .ref ak, .ref ac, .ref aq, .ref af])), (ak, .inl (cI, n, .inl zk)), (ac, .inl (cI, n, .inl zc)), (aq, .inl (cI, n, .inl zq)), (af, .inl (cI, n, .inl zf)), (m3, .inr (1, [.ref x3, .ref v3])), (x3, .inl (cL, n, .inr (.inl gx2))), (v3, .inl (cL, n, .inr (.inl gv2)))] H := hP
    have hD : va_D A [(o, .inr (4, [.int (nI n), .ref sp, .ref m0, .ref m1, .ref m2, .ref m3, .ref wt, .ref hi, .int (nI tol), .int (nI tm), .int (nI fs), .int (nI sd), .int (nI rj), .long er])), (m0, .inr (1, [.ref x0, .ref v0])), (x0, .inl (cL, n, .inr (.inl px))), (v0, .inl (cL, n, .inr (.inl pv))), (m2, .inr (1, [.ref x2, .ref v2])), (x2, .inl (cL, n, .inr (.inl gx1))), (v2, .inl (cL, n, .inr (.inl gv1))), (sp, .inr (2, [.int (nI n), .ref ak, .ref ac, .ref aq, .ref af])), (ak, .inl (cI, n, .inl zk)), (ac, .inl (cI, n, .inl zc)), (aq, .inl (cI, n, .inl zq)), (af, .inl (cI, n, .inl zf)), (m3, .inr (1, [.ref x3, .ref v3])), (x3, .inl (cL, n, .inr (.inl gx2))), (v3, .inl (cL, n, .inr (.inl gv2)))] := hD
    revert hw
    generalize r = r2
    intro hw
    have t2 := hw
    refine lv_if_eq (tgt := 84) hx hb d_R_errorOfTry_57 (by decide) (fun c57 => ?_) (fun c57 => ?_)
    · refine lv_iconst (v := 0) hx hb d_R_errorOfTry_84 (by decide) ?_
      refine lv_istore_n (lv' := [(1, .int 0), (0, .ref o)]) hx hb d_R_errorOfTry_85 rfl hl (by decide) rfl (fun ls hl => ?_)
      refine lv_iload_n hx hb d_R_errorOfTry_86 rfl (lv_at hl 0 rfl) ?_
      refine lv_if_eq (tgt := 104) hx hb d_R_errorOfTry_87 (by decide) (fun c87 => ?_) (fun c87 => ?_)
      · refine lv_ldc2 (v := (-1)) hx hb hown (hT _ k_258) d_R_errorOfTry_104 ?_
        exact re_l (v := (-1)) (gx1, gv1, gx2, gv2) hx hb hr hlocks (Or.inl ⟨zTry_2 t1 c37 t2 c57, rfl⟩) (hP.sub [0, 7, 8, 9, 10, 11, 1, 2, 3, 4, 5, 6, 12, 13, 14] rfl) hK (hD.sub [0, 7, 8, 9, 10, 11, 1, 2, 3, 4, 5, 6, 12, 13, 14] (by decide) rfl) hS d_R_errorOfTry_107
      · exact absurd c87 (by decide)
    · refine lv_aload_n hx hb d_R_errorOfTry_60 rfl (lv_at hl 0 rfl) ?_
      refine va_get (D := D) (ci := 4) (v := .ref sp) (C := "OscillatorRow") (T := T_R) (N := 14) hx hb hT i_R hown hK hP 0 rfl rfl 1 (by decide) (hT _ k_115) (fun _ h9 => h9) rfl d_R_errorOfTry_61 ?_
      refine lv_aload_n hx hb d_R_errorOfTry_64 rfl (lv_at hl 0 rfl) ?_
      refine va_get (D := D) (ci := 4) (v := .ref m3) (C := "OscillatorRow") (T := T_R) (N := 14) hx hb hT i_R hown hK hP 0 rfl rfl 5 (by decide) (hT _ k_119) (fun _ h9 => h9) rfl d_R_errorOfTry_65 ?_
      refine lv_aload_n hx hb d_R_errorOfTry_68 rfl (lv_at hl 0 rfl) ?_
      refine va_get (D := D) (ci := 4) (v := .int (nI fs)) (C := "OscillatorRow") (T := T_R) (N := 14) hx hb hT i_R hown hK hP 0 rfl rfl 10 (by decide) (hT _ k_124) (fun _ h9 => h9) rfl d_R_errorOfTry_69 ?_
      refine lv_iconst (v := 1) hx hb d_R_errorOfTry_72 (by decide) ?_
      refine lv_iadd hx hb d_R_errorOfTry_73 ?_
      refine top_i (y := (nI (fs + 1))) (nI_1 fs) ?_
      have hPc := hP.sub (ws' := [(sp, .inr (2, [.int (nI n), .ref ak, .ref ac, .ref aq, .ref af])), (ak, .inl (cI, n, .inl zk)), (ac, .inl (cI, n, .inl zc)), (aq, .inl (cI, n, .inl zq)), (af, .inl (cI, n, .inl zf)), (m3, .inr (1, [.ref x3, .ref v3])), (x3, .inl (cL, n, .inr (.inl gx2))), (v3, .inl (cL, n, .inr (.inl gv2)))]) [7, 8, 9, 10, 11, 12, 13, 14] rfl
      have hDc := hD.sub (ws' := [(sp, .inr (2, [.int (nI n), .ref ak, .ref ac, .ref aq, .ref af])), (ak, .inl (cI, n, .inl zk)), (ac, .inl (cI, n, .inl zc)), (aq, .inl (cI, n, .inl zq)), (af, .inl (cI, n, .inl zf)), (m3, .inr (1, [.ref x3, .ref v3])), (x3, .inl (cL, n, .inr (.inl gx2))), (v3, .inl (cL, n, .inr (.inl gv2)))]) [7, 8, 9, 10, 11, 12, 13, 14] (by decide) rfl
      refine gc_i (w1 := fun (u : (Nat → Int64) × (Nat → Int64)) => [(sp, .inr (2, [.int (nI n), .ref ak, .ref ac, .ref aq, .ref af])), (ak, .inl (cI, n, .inl zk)), (ac, .inl (cI, n, .inl zc)), (aq, .inl (cI, n, .inl zq)), (af, .inl (cI, n, .inl zf)), (m3, .inr (1, [.ref x3, .ref v3])), (x3, .inl (cL, n, .inr (.inl u.1))), (v3, .inl (cL, n, .inr (.inl u.2)))]) (wc := [(sp, .inr (2, [.int (nI n), .ref ak, .ref ac, .ref aq, .ref af])), (ak, .inl (cI, n, .inl zk)), (ac, .inl (cI, n, .inl zc)), (aq, .inl (cI, n, .inl zq)), (af, .inl (cI, n, .inl zf)), (m3, .inr (1, [.ref x3, .ref v3])), (x3, .inl (cL, n, .inr (.inl gx2))), (v3, .inl (cL, n, .inr (.inl gv2)))]) (wr := [(o, .inr (4, [.int (nI n), .ref sp, .ref m0, .ref m1, .ref m2, .ref m3, .ref wt, .ref hi, .int (nI tol), .int (nI tm), .int (nI fs), .int (nI sd), .int (nI rj), .long er])), (m0, .inr (1, [.ref x0, .ref v0])), (x0, .inl (cL, n, .inr (.inl px))), (v0, .inl (cL, n, .inr (.inl pv))), (m2, .inr (1, [.ref x2, .ref v2])), (x2, .inl (cL, n, .inr (.inl gx1))), (v2, .inl (cL, n, .inr (.inl gv1)))]) hP hD hS hA [7, 8, 9, 10, 11, 12, 13, 14] [0, 1, 2, 3, 4, 5, 6] rfl rfl (by decide) (by decide) (va_runV (As := [.ref m3, .int (nI (fs + 1))]) (rest := []) ⟨hx, hb, hml, hown, hT⟩ (c_S_step l D cI cL cW cZ sp ak ac aq af n zk zc zq zf m3 x3 v3 gx2 gv2 (nI (fs + 1)) H.size hn) (cwV 2 hT (good_V k_224 k_225 k_226 k_3 k_227) rfl rfl rfl (by decide +kernel) ⟨Nat.le_of_ble_eq_true rfl, Nat.le_of_ble_eq_true rfl⟩) (pre_V hPc hDc hK hN (ci := 2) rfl rfl) rfl rfl hl.1 rfl (lv_room (Nat.le_of_ble_eq_true rfl)) d_R_errorOfTry_74 ⟨(Nat.le_of_ble_eq_true rfl), (Nat.le_of_ble_eq_true rfl)⟩) (fun r u H locs hw hP hD hS => ?_)
      obtain ⟨gx3, gv3⟩ := u
      try dsimp only at hw
      have hP : va_P D vwCl [(o, .inr (4, [.int (nI n), .ref sp, .ref m0, .ref m1, .ref m2, .ref m3, .ref wt, .ref hi, .int (nI tol), .int (nI tm), .int (nI fs), .int (nI sd), .int (nI rj), .long er])), (m0, .inr (1, [.ref x0, .ref v0])), (x0, .inl (cL, n, .inr (.inl px))), (v0, .inl (cL, n, .inr (.inl pv))), (m2, .inr (1, [.ref x2, .ref v2])), (x2, .inl (cL, n, .inr (.inl gx1))), (v2, .inl (cL, n, .inr (.inl gv1))), (sp, .inr (2, [.int (nI n), .ref ak, .ref ac, .ref aq, .ref af])), (ak, .inl (cI, n, .inl zk)), (ac, .inl (cI, n, .inl zc)), (aq, .inl (cI, n, .inl zq)), (af, .inl (cI, n, .inl zf)), (m3, .inr (1, [.ref x3, .ref v3])), (x3, .inl (cL, n, .inr (.inl gx3))), (v3, .inl (cL, n, .inr (.inl gv3)))] H := hP
      have hD : va_D A [(o, .inr (4, [.int (nI n), .ref sp, .ref m0, .ref m1, .ref m2, .ref m3, .ref wt, .ref hi, .int (nI tol), .int (nI tm), .int (nI fs), .int (nI sd), .int (nI rj), .long er])), (m0, .inr (1, [.ref x0, .ref v0])), (x0, .inl (cL, n, .inr (.inl px))), (v0, .inl (cL, n, .inr (.inl pv))), (m2, .inr (1, [.ref x2, .ref v2])), (x2, .inl (cL, n, .inr (.inl gx1))), (v2, .inl (cL, n, .inr (.inl gv1))), (sp, .inr (2, [.int (nI n), .ref ak, .ref ac, .ref aq, .ref af])), (ak, .inl (cI, n, .inl zk)), (ac, .inl (cI, n, .inl zc)), (aq, .inl (cI, n, .inl zq)), (af, .inl (cI, n, .inl zf)), (m3, .inr (1, [.ref x3, .ref v3])), (x3, .inl (cL, n, .inr (.inl gx3))), (v3, .inl (cL, n, .inr (.inl gv3)))] := hD
      revert hw
      generalize r = r3
      intro hw
      have t3 := hw
      refine lv_if_eq (tgt := 84) hx hb d_R_errorOfTry_77 (by decide) (fun c77 => ?_) (fun c77 => ?_)
      · refine lv_iconst (v := 0) hx hb d_R_errorOfTry_84 (by decide) ?_
        refine lv_istore_n (lv' := [(1, .int 0), (0, .ref o)]) hx hb d_R_errorOfTry_85 rfl hl (by decide) rfl (fun ls hl => ?_)
        refine lv_iload_n hx hb d_R_errorOfTry_86 rfl (lv_at hl 0 rfl) ?_
        refine lv_if_eq (tgt := 104) hx hb d_R_errorOfTry_87 (by decide) (fun c87 => ?_) (fun c87 => ?_)
        · refine lv_ldc2 (v := (-1)) hx hb hown (hT _ k_258) d_R_errorOfTry_104 ?_
          exact re_l (v := (-1)) (gx1, gv1, gx3, gv3) hx hb hr hlocks (Or.inl ⟨zTry_3 t1 c37 t2 c57 t3 c77, rfl⟩) (hP.sub [0, 7, 8, 9, 10, 11, 1, 2, 3, 4, 5, 6, 12, 13, 14] rfl) hK (hD.sub [0, 7, 8, 9, 10, 11, 1, 2, 3, 4, 5, 6, 12, 13, 14] (by decide) rfl) hS d_R_errorOfTry_107
        · exact absurd c87 (by decide)
      · refine lv_iconst (v := 1) hx hb d_R_errorOfTry_80 (by decide) ?_
        refine lv_goto (tgt := 85) hx hb d_R_errorOfTry_81 (by decide) ?_
        refine lv_istore_n (lv' := [(1, .int 1), (0, .ref o)]) hx hb d_R_errorOfTry_85 rfl hl (by decide) rfl (fun ls hl => ?_)
        refine lv_iload_n hx hb d_R_errorOfTry_86 rfl (lv_at hl 0 rfl) ?_
        refine lv_if_eq (tgt := 104) hx hb d_R_errorOfTry_87 (by decide) (fun c87 => ?_) (fun c87 => ?_)
        · exact absurd c87 (by decide)
        · refine lv_aload_n hx hb d_R_errorOfTry_90 rfl (lv_at hl 1 rfl) ?_
          refine va_get (D := D) (ci := 4) (v := .ref m2) (C := "OscillatorRow") (T := T_R) (N := 14) hx hb hT i_R hown hK hP 0 rfl rfl 4 (by decide) (hT _ k_118) (fun _ h9 => h9) rfl d_R_errorOfTry_91 ?_
          refine lv_aload_n hx hb d_R_errorOfTry_94 rfl (lv_at hl 1 rfl) ?_
          refine va_get (D := D) (ci := 4) (v := .ref m3) (C := "OscillatorRow") (T := T_R) (N := 14) hx hb hT i_R hown hK hP 0 rfl rfl 5 (by decide) (hT _ k_119) (fun _ h9 => h9) rfl d_R_errorOfTry_95 ?_
          have hPc := hP.sub (ws' := [(m2, .inr (1, [.ref x2, .ref v2])), (x2, .inl (cL, n, .inr (.inl gx1))), (v2, .inl (cL, n, .inr (.inl gv1))), (m3, .inr (1, [.ref x3, .ref v3])), (x3, .inl (cL, n, .inr (.inl gx3))), (v3, .inl (cL, n, .inr (.inl gv3)))]) [4, 5, 6, 12, 13, 14] rfl
          have hDc := hD.sub (ws' := [(m2, .inr (1, [.ref x2, .ref v2])), (x2, .inl (cL, n, .inr (.inl gx1))), (v2, .inl (cL, n, .inr (.inl gv1))), (m3, .inr (1, [.ref x3, .ref v3])), (x3, .inl (cL, n, .inr (.inl gx3))), (v3, .inl (cL, n, .inr (.inl gv3)))]) [4, 5, 6, 12, 13, 14] (by decide) rfl
          refine gc_l (w1 := fun (u : Unit) => [(m2, .inr (1, [.ref x2, .ref v2])), (x2, .inl (cL, n, .inr (.inl gx1))), (v2, .inl (cL, n, .inr (.inl gv1))), (m3, .inr (1, [.ref x3, .ref v3])), (x3, .inl (cL, n, .inr (.inl gx3))), (v3, .inl (cL, n, .inr (.inl gv3)))]) (wc := [(m2, .inr (1, [.ref x2, .ref v2])), (x2, .inl (cL, n, .inr (.inl gx1))), (v2, .inl (cL, n, .inr (.inl gv1))), (m3, .inr (1, [.ref x3, .ref v3])), (x3, .inl (cL, n, .inr (.inl gx3))), (v3, .inl (cL, n, .inr (.inl gv3)))]) (wr := [(o, .inr (4, [.int (nI n), .ref sp, .ref m0, .ref m1, .ref m2, .ref m3, .ref wt, .ref hi, .int (nI tol), .int (nI tm), .int (nI fs), .int (nI sd), .int (nI rj), .long er])), (m0, .inr (1, [.ref x0, .ref v0])), (x0, .inl (cL, n, .inr (.inl px))), (v0, .inl (cL, n, .inr (.inl pv))), (sp, .inr (2, [.int (nI n), .ref ak, .ref ac, .ref aq, .ref af])), (ak, .inl (cI, n, .inl zk)), (ac, .inl (cI, n, .inl zc)), (aq, .inl (cI, n, .inl zq)), (af, .inl (cI, n, .inl zf))]) hP hD hS hA [4, 5, 6, 12, 13, 14] [0, 1, 2, 3, 7, 8, 9, 10, 11] rfl rfl (by decide) (by decide) (va_runV (As := [.ref m3]) (rest := []) ⟨hx, hb, hml, hown, hT⟩ (c_M_gd l D cI cL cW cZ m2 x2 v2 m3 x3 v3 gx1 gv1 gx3 gv3 n H.size hn) (cwV 1 hT (good_V k_248 k_249 k_250 k_4 k_251) rfl rfl rfl (by decide +kernel) ⟨Nat.le_of_ble_eq_true rfl, Nat.le_of_ble_eq_true rfl⟩) (pre_V hPc hDc hK hN (ci := 1) rfl rfl) rfl rfl hl.1 rfl (lv_room (Nat.le_of_ble_eq_true rfl)) d_R_errorOfTry_98 ⟨(Nat.le_of_ble_eq_true rfl), (Nat.le_of_ble_eq_true rfl)⟩) (fun r u H locs hw hP hD hS => ?_)
          try dsimp only at hw
          have hP : va_P D vwCl [(o, .inr (4, [.int (nI n), .ref sp, .ref m0, .ref m1, .ref m2, .ref m3, .ref wt, .ref hi, .int (nI tol), .int (nI tm), .int (nI fs), .int (nI sd), .int (nI rj), .long er])), (m0, .inr (1, [.ref x0, .ref v0])), (x0, .inl (cL, n, .inr (.inl px))), (v0, .inl (cL, n, .inr (.inl pv))), (sp, .inr (2, [.int (nI n), .ref ak, .ref ac, .ref aq, .ref af])), (ak, .inl (cI, n, .inl zk)), (ac, .inl (cI, n, .inl zc)), (aq, .inl (cI, n, .inl zq)), (af, .inl (cI, n, .inl zf)), (m2, .inr (1, [.ref x2, .ref v2])), (x2, .inl (cL, n, .inr (.inl gx1))), (v2, .inl (cL, n, .inr (.inl gv1))), (m3, .inr (1, [.ref x3, .ref v3])), (x3, .inl (cL, n, .inr (.inl gx3))), (v3, .inl (cL, n, .inr (.inl gv3)))] H := hP
          have hD : va_D A [(o, .inr (4, [.int (nI n), .ref sp, .ref m0, .ref m1, .ref m2, .ref m3, .ref wt, .ref hi, .int (nI tol), .int (nI tm), .int (nI fs), .int (nI sd), .int (nI rj), .long er])), (m0, .inr (1, [.ref x0, .ref v0])), (x0, .inl (cL, n, .inr (.inl px))), (v0, .inl (cL, n, .inr (.inl pv))), (sp, .inr (2, [.int (nI n), .ref ak, .ref ac, .ref aq, .ref af])), (ak, .inl (cI, n, .inl zk)), (ac, .inl (cI, n, .inl zc)), (aq, .inl (cI, n, .inl zq)), (af, .inl (cI, n, .inl zf)), (m2, .inr (1, [.ref x2, .ref v2])), (x2, .inl (cL, n, .inr (.inl gx1))), (v2, .inl (cL, n, .inr (.inl gv1))), (m3, .inr (1, [.ref x3, .ref v3])), (x3, .inl (cL, n, .inr (.inl gx3))), (v3, .inl (cL, n, .inr (.inl gv3)))] := hD
          subst hw
          refine lv_goto (tgt := 107) hx hb d_R_errorOfTry_101 (by decide) ?_
          exact re_l (v := zGd gx1 gv1 gx3 gv3 n) (gx1, gv1, gx3, gv3) hx hb hr hlocks (Or.inr (zTry_4 t1 c37 t2 c57 t3 c77)) (hP.sub [0, 4, 5, 6, 7, 8, 1, 2, 3, 9, 10, 11, 12, 13, 14] rfl) hK (hD.sub [0, 4, 5, 6, 7, 8, 1, 2, 3, 9, 10, 11, 12, 13, 14] (by decide) rfl) hS d_R_errorOfTry_107
set_option maxHeartbeats 4000000 in
set_option maxRecDepth 100000 in
theorem c_R_good (l : Launch) (D : va_G) (cI cL cW cZ : ClassId) (o : Nat) (n : Nat) (sp : Nat) (m0 : Nat) (m1 : Nat) (m2 : Nat) (m3 : Nat) (wt : Nat) (hi : Nat) (tol : Nat) (tm : Nat) (fs : Nat) (sd : Nat) (rj : Nat) (er : Int64) (ak : Nat) (ac : Nat) (aq : Nat) (af : Nat) (zk : Nat → Int32) (zc : Nat → Int32) (zq : Nat → Int32) (zf : Nat → Int32) (x0 : Nat) (v0 : Nat) (px : Nat → Int64) (pv : Nat → Int64) (x2 : Nat) (v2 : Nat) (x3 : Nat) (v3 : Nat) (cx : Nat → Int64) (cv : Nat → Int64) (fx : Nat → Int64) (fv : Nat → Int64) (sz : Nat) (hn : n ≤ 4) (hf : fs ≤ 8) (ht : tol < 2 ^ 31) : Met l y_R_tryUntilGood w_R_tryUntilGood ({ frames := 4, cells := 0, slots := 0, locals := 95 }) (va_Pc [.ref o] (gP D vwCl (tyv cI cL cW cZ) [(o, .inr (4, [.int (nI n), .ref sp, .ref m0, .ref m1, .ref m2, .ref m3, .ref wt, .ref hi, .int (nI tol), .int (nI tm), .int (nI fs), .int (nI sd), .int (nI rj), .long er])), (sp, .inr (2, [.int (nI n), .ref ak, .ref ac, .ref aq, .ref af])), (ak, .inl (cI, n, .inl zk)), (ac, .inl (cI, n, .inl zc)), (aq, .inl (cI, n, .inl zq)), (af, .inl (cI, n, .inl zf)), (m0, .inr (1, [.ref x0, .ref v0])), (x0, .inl (cL, n, .inr (.inl px))), (v0, .inl (cL, n, .inr (.inl pv))), (m2, .inr (1, [.ref x2, .ref v2])), (x2, .inl (cL, n, .inr (.inl cx))), (v2, .inl (cL, n, .inr (.inl cv))), (m3, .inr (1, [.ref x3, .ref v3])), (x3, .inl (cL, n, .inr (.inl fx))), (v3, .inl (cL, n, .inr (.inl fv)))] sz)) (va_Ql (fun (r : Int64) (u : Nat × Nat × (Nat → Int64) × (Nat → Int64) × (Nat → Int64) × (Nat → Int64)) => (((zGood n zk zc zq zf px pv tol (8 - fs) fs).1 = none ∧ r = (-1)) ∨ (zGood n zk zc zq zf px pv tol (8 - fs) fs).1 = some (r, u.2.2.2.2.1, u.2.2.2.2.2)) ∧ u.1 = (zGood n zk zc zq zf px pv tol (8 - fs) fs).2.1 ∧ u.2.1 = rj + (zGood n zk zc zq zf px pv tol (8 - fs) fs).2.2) (fun u t => gB D vwCl (tyv cI cL cW cZ) (va_A [(o, .inr (4, [.int (nI n), .ref sp, .ref m0, .ref m1, .ref m2, .ref m3, .ref wt, .ref hi, .int (nI tol), .int (nI tm), .int (nI fs), .int (nI sd), .int (nI rj), .long er])), (sp, .inr (2, [.int (nI n), .ref ak, .ref ac, .ref aq, .ref af])), (ak, .inl (cI, n, .inl zk)), (ac, .inl (cI, n, .inl zc)), (aq, .inl (cI, n, .inl zq)), (af, .inl (cI, n, .inl zf)), (m0, .inr (1, [.ref x0, .ref v0])), (x0, .inl (cL, n, .inr (.inl px))), (v0, .inl (cL, n, .inr (.inl pv))), (m2, .inr (1, [.ref x2, .ref v2])), (x2, .inl (cL, n, .inr (.inl cx))), (v2, .inl (cL, n, .inr (.inl cv))), (m3, .inr (1, [.ref x3, .ref v3])), (x3, .inl (cL, n, .inr (.inl fx))), (v3, .inl (cL, n, .inr (.inl fv)))] sz) [(o, .inr (4, [.int (nI n), .ref sp, .ref m0, .ref m1, .ref m2, .ref m3, .ref wt, .ref hi, .int (nI tol), .int (nI tm), .int (nI u.1), .int (nI sd), .int (nI u.2.1), .long er])), (sp, .inr (2, [.int (nI n), .ref ak, .ref ac, .ref aq, .ref af])), (ak, .inl (cI, n, .inl zk)), (ac, .inl (cI, n, .inl zc)), (aq, .inl (cI, n, .inl zq)), (af, .inl (cI, n, .inl zf)), (m0, .inr (1, [.ref x0, .ref v0])), (x0, .inl (cL, n, .inr (.inl px))), (v0, .inl (cL, n, .inr (.inl pv))), (m2, .inr (1, [.ref x2, .ref v2])), (x2, .inl (cL, n, .inr (.inl u.2.2.1))), (v2, .inl (cL, n, .inr (.inl u.2.2.2.1))), (m3, .inr (1, [.ref x3, .ref v3])), (x3, .inl (cL, n, .inr (.inl u.2.2.2.2.1))), (v3, .inl (cL, n, .inr (.inl u.2.2.2.2.2)))] t) (va_A [(o, .inr (4, [.int (nI n), .ref sp, .ref m0, .ref m1, .ref m2, .ref m3, .ref wt, .ref hi, .int (nI tol), .int (nI tm), .int (nI fs), .int (nI sd), .int (nI rj), .long er])), (sp, .inr (2, [.int (nI n), .ref ak, .ref ac, .ref aq, .ref af])), (ak, .inl (cI, n, .inl zk)), (ac, .inl (cI, n, .inl zc)), (aq, .inl (cI, n, .inl zq)), (af, .inl (cI, n, .inl zf)), (m0, .inr (1, [.ref x0, .ref v0])), (x0, .inl (cL, n, .inr (.inl px))), (v0, .inl (cL, n, .inr (.inl pv))), (m2, .inr (1, [.ref x2, .ref v2])), (x2, .inl (cL, n, .inr (.inl cx))), (v2, .inl (cL, n, .inr (.inl cv))), (m3, .inr (1, [.ref x3, .ref v3])), (x3, .inl (cL, n, .inr (.inl fx))), (v3, .inl (cL, n, .inr (.inl fv)))] sz)) 0 0 (va_A [(o, .inr (4, [.int (nI n), .ref sp, .ref m0, .ref m1, .ref m2, .ref m3, .ref wt, .ref hi, .int (nI tol), .int (nI tm), .int (nI fs), .int (nI sd), .int (nI rj), .long er])), (sp, .inr (2, [.int (nI n), .ref ak, .ref ac, .ref aq, .ref af])), (ak, .inl (cI, n, .inl zk)), (ac, .inl (cI, n, .inl zc)), (aq, .inl (cI, n, .inl zq)), (af, .inl (cI, n, .inl zf)), (m0, .inr (1, [.ref x0, .ref v0])), (x0, .inl (cL, n, .inr (.inl px))), (v0, .inl (cL, n, .inr (.inl pv))), (m2, .inr (1, [.ref x2, .ref v2])), (x2, .inl (cL, n, .inr (.inl cx))), (v2, .inl (cL, n, .inr (.inl cv))), (m3, .inr (1, [.ref x3, .ref v3])), (x3, .inl (cL, n, .inr (.inl fx))), (v3, .inl (cL, n, .inr (.inl fv)))] sz) := by
  refine met_go (cc := prog_1_method_22_code) (maxL := 3) (ret := (some .long)) (QA := fun A => va_Ql (fun (r : Int64) (u : Nat × Nat × (Nat → Int64) × (Nat → Int64) × (Nat → Int64) × (Nat → Int64)) => (((zGood n zk zc zq zf px pv tol (8 - fs) fs).1 = none ∧ r = (-1)) ∨ (zGood n zk zc zq zf px pv tol (8 - fs) fs).1 = some (r, u.2.2.2.2.1, u.2.2.2.2.2)) ∧ u.1 = (zGood n zk zc zq zf px pv tol (8 - fs) fs).2.1 ∧ u.2.1 = rj + (zGood n zk zc zq zf px pv tol (8 - fs) fs).2.2) (fun u t => gB D vwCl (tyv cI cL cW cZ) A [(o, .inr (4, [.int (nI n), .ref sp, .ref m0, .ref m1, .ref m2, .ref m3, .ref wt, .ref hi, .int (nI tol), .int (nI tm), .int (nI u.1), .int (nI sd), .int (nI u.2.1), .long er])), (sp, .inr (2, [.int (nI n), .ref ak, .ref ac, .ref aq, .ref af])), (ak, .inl (cI, n, .inl zk)), (ac, .inl (cI, n, .inl zc)), (aq, .inl (cI, n, .inl zq)), (af, .inl (cI, n, .inl zf)), (m0, .inr (1, [.ref x0, .ref v0])), (x0, .inl (cL, n, .inr (.inl px))), (v0, .inl (cL, n, .inr (.inl pv))), (m2, .inr (1, [.ref x2, .ref v2])), (x2, .inl (cL, n, .inr (.inl u.2.2.1))), (v2, .inl (cL, n, .inr (.inl u.2.2.2.1))), (m3, .inr (1, [.ref x3, .ref v3])), (x3, .inl (cL, n, .inr (.inl u.2.2.2.2.1))), (v3, .inl (cL, n, .inr (.inl u.2.2.2.2.2)))] t) A) (by decide) (Nat.le_of_ble_eq_true rfl) ?_
  intro p e s m below meth c A ls hx hb hr hml hT hN hown hlocks hin hl hP hK hD hA hS
  have hl : lv_has ls 3 [(0, .ref o)] := hl
  refine lv_aload_n hx hb d_R_tryUntilGood_0 rfl (lv_at hl 0 rfl) ?_
  have hPc := hP.sub (ws' := [(o, .inr (4, [.int (nI n), .ref sp, .ref m0, .ref m1, .ref m2, .ref m3, .ref wt, .ref hi, .int (nI tol), .int (nI tm), .int (nI fs), .int (nI sd), .int (nI rj), .long er])), (sp, .inr (2, [.int (nI n), .ref ak, .ref ac, .ref aq, .ref af])), (ak, .inl (cI, n, .inl zk)), (ac, .inl (cI, n, .inl zc)), (aq, .inl (cI, n, .inl zq)), (af, .inl (cI, n, .inl zf)), (m0, .inr (1, [.ref x0, .ref v0])), (x0, .inl (cL, n, .inr (.inl px))), (v0, .inl (cL, n, .inr (.inl pv))), (m2, .inr (1, [.ref x2, .ref v2])), (x2, .inl (cL, n, .inr (.inl cx))), (v2, .inl (cL, n, .inr (.inl cv))), (m3, .inr (1, [.ref x3, .ref v3])), (x3, .inl (cL, n, .inr (.inl fx))), (v3, .inl (cL, n, .inr (.inl fv)))]) [0, 1, 2, 3, 4, 5, 6, 7, 8, 9, 10, 11, 12, 13, 14] rfl
  have hDc := hD.sub (ws' := [(o, .inr (4, [.int (nI n), .ref sp, .ref m0, .ref m1, .ref m2, .ref m3, .ref wt, .ref hi, .int (nI tol), .int (nI tm), .int (nI fs), .int (nI sd), .int (nI rj), .long er])), (sp, .inr (2, [.int (nI n), .ref ak, .ref ac, .ref aq, .ref af])), (ak, .inl (cI, n, .inl zk)), (ac, .inl (cI, n, .inl zc)), (aq, .inl (cI, n, .inl zq)), (af, .inl (cI, n, .inl zf)), (m0, .inr (1, [.ref x0, .ref v0])), (x0, .inl (cL, n, .inr (.inl px))), (v0, .inl (cL, n, .inr (.inl pv))), (m2, .inr (1, [.ref x2, .ref v2])), (x2, .inl (cL, n, .inr (.inl cx))), (v2, .inl (cL, n, .inr (.inl cv))), (m3, .inr (1, [.ref x3, .ref v3])), (x3, .inl (cL, n, .inr (.inl fx))), (v3, .inl (cL, n, .inr (.inl fv)))]) [0, 1, 2, 3, 4, 5, 6, 7, 8, 9, 10, 11, 12, 13, 14] (by decide) rfl
  refine gc_l (w1 := fun (u : (Nat → Int64) × (Nat → Int64) × (Nat → Int64) × (Nat → Int64)) => [(o, .inr (4, [.int (nI n), .ref sp, .ref m0, .ref m1, .ref m2, .ref m3, .ref wt, .ref hi, .int (nI tol), .int (nI tm), .int (nI fs), .int (nI sd), .int (nI rj), .long er])), (sp, .inr (2, [.int (nI n), .ref ak, .ref ac, .ref aq, .ref af])), (ak, .inl (cI, n, .inl zk)), (ac, .inl (cI, n, .inl zc)), (aq, .inl (cI, n, .inl zq)), (af, .inl (cI, n, .inl zf)), (m0, .inr (1, [.ref x0, .ref v0])), (x0, .inl (cL, n, .inr (.inl px))), (v0, .inl (cL, n, .inr (.inl pv))), (m2, .inr (1, [.ref x2, .ref v2])), (x2, .inl (cL, n, .inr (.inl u.1))), (v2, .inl (cL, n, .inr (.inl u.2.1))), (m3, .inr (1, [.ref x3, .ref v3])), (x3, .inl (cL, n, .inr (.inl u.2.2.1))), (v3, .inl (cL, n, .inr (.inl u.2.2.2)))]) (wc := [(o, .inr (4, [.int (nI n), .ref sp, .ref m0, .ref m1, .ref m2, .ref m3, .ref wt, .ref hi, .int (nI tol), .int (nI tm), .int (nI fs), .int (nI sd), .int (nI rj), .long er])), (sp, .inr (2, [.int (nI n), .ref ak, .ref ac, .ref aq, .ref af])), (ak, .inl (cI, n, .inl zk)), (ac, .inl (cI, n, .inl zc)), (aq, .inl (cI, n, .inl zq)), (af, .inl (cI, n, .inl zf)), (m0, .inr (1, [.ref x0, .ref v0])), (x0, .inl (cL, n, .inr (.inl px))), (v0, .inl (cL, n, .inr (.inl pv))), (m2, .inr (1, [.ref x2, .ref v2])), (x2, .inl (cL, n, .inr (.inl cx))), (v2, .inl (cL, n, .inr (.inl cv))), (m3, .inr (1, [.ref x3, .ref v3])), (x3, .inl (cL, n, .inr (.inl fx))), (v3, .inl (cL, n, .inr (.inl fv)))]) (wr := []) hP hD hS hA [0, 1, 2, 3, 4, 5, 6, 7, 8, 9, 10, 11, 12, 13, 14] [] rfl rfl (by decide) (by decide) (va_runV (As := []) (rest := []) ⟨hx, hb, hml, hown, hT⟩ (c_R_try l D cI cL cW cZ o n sp m0 m1 m2 m3 wt hi tol tm fs sd rj er ak ac aq af zk zc zq zf x0 v0 px pv x2 v2 x3 v3 cx cv fx fv s.heap.size hn) (cwV 0 hT (good_V k_213 k_215 p_4 k_1 k_216) rfl rfl rfl (by decide +kernel) ⟨Nat.le_of_ble_eq_true rfl, Nat.le_of_ble_eq_true rfl⟩) (pre_V hPc hDc hK hN (ci := 4) rfl rfl) rfl rfl hl.1 rfl (lv_room (Nat.le_of_ble_eq_true rfl)) d_R_tryUntilGood_1 ⟨(Nat.le_of_ble_eq_true rfl), (Nat.le_of_ble_eq_true rfl)⟩) (fun r u H locs hw hP hD hS => ?_)
  obtain ⟨gcx0, gcv0, gfx0, gfv0⟩ := u
  try dsimp only at hw
  have hP : va_P D vwCl [(o, .inr (4, [.int (nI n), .ref sp, .ref m0, .ref m1, .ref m2, .ref m3, .ref wt, .ref hi, .int (nI tol), .int (nI tm), .int (nI fs), .int (nI sd), .int (nI rj), .long er])), (sp, .inr (2, [.int (nI n), .ref ak, .ref ac, .ref aq, .ref af])), (ak, .inl (cI, n, .inl zk)), (ac, .inl (cI, n, .inl zc)), (aq, .inl (cI, n, .inl zq)), (af, .inl (cI, n, .inl zf)), (m0, .inr (1, [.ref x0, .ref v0])), (x0, .inl (cL, n, .inr (.inl px))), (v0, .inl (cL, n, .inr (.inl pv))), (m2, .inr (1, [.ref x2, .ref v2])), (x2, .inl (cL, n, .inr (.inl gcx0))), (v2, .inl (cL, n, .inr (.inl gcv0))), (m3, .inr (1, [.ref x3, .ref v3])), (x3, .inl (cL, n, .inr (.inl gfx0))), (v3, .inl (cL, n, .inr (.inl gfv0)))] H := hP
  have hD : va_D A [(o, .inr (4, [.int (nI n), .ref sp, .ref m0, .ref m1, .ref m2, .ref m3, .ref wt, .ref hi, .int (nI tol), .int (nI tm), .int (nI fs), .int (nI sd), .int (nI rj), .long er])), (sp, .inr (2, [.int (nI n), .ref ak, .ref ac, .ref aq, .ref af])), (ak, .inl (cI, n, .inl zk)), (ac, .inl (cI, n, .inl zc)), (aq, .inl (cI, n, .inl zq)), (af, .inl (cI, n, .inl zf)), (m0, .inr (1, [.ref x0, .ref v0])), (x0, .inl (cL, n, .inr (.inl px))), (v0, .inl (cL, n, .inr (.inl pv))), (m2, .inr (1, [.ref x2, .ref v2])), (x2, .inl (cL, n, .inr (.inl gcx0))), (v2, .inl (cL, n, .inr (.inl gcv0))), (m3, .inr (1, [.ref x3, .ref v3])), (x3, .inl (cL, n, .inr (.inl gfx0))), (v3, .inl (cL, n, .inr (.inl gfv0)))] := hD
  revert hw
  generalize r = r0
  intro hw
  have t0 := hw
  refine lv_lstore_n (lv' := [(1, .long r0), (0, .ref o)]) hx hb d_R_tryUntilGood_4 rfl hl (by decide) rfl (fun ls hl => ?_)
  refine wp_loop (α := Nat × Nat × Int64 × (Nat → Int64) × (Nat → Int64) × (Nat → Int64) × (Nat → Int64)) (I := fun k x H locs ls => (x.1 ≤ 8 ∧ 8 < x.1 + k) ∧ (zGr n zk zc zq zf px pv tol fs rj = zGr n zk zc zq zf px pv tol x.1 x.2.1) ∧ ((zTry n zk zc zq zf x.1 px pv = none ∧ x.2.2.1 = (-1)) ∨ zTry n zk zc zq zf x.1 px pv = some (x.2.2.1, x.2.2.2.2.2.1, x.2.2.2.2.2.2)) ∧ va_P D vwCl [(o, .inr (4, [.int (nI n), .ref sp, .ref m0, .ref m1, .ref m2, .ref m3, .ref wt, .ref hi, .int (nI tol), .int (nI tm), .int (nI x.1), .int (nI sd), .int (nI x.2.1), .long er])), (sp, .inr (2, [.int (nI n), .ref ak, .ref ac, .ref aq, .ref af])), (ak, .inl (cI, n, .inl zk)), (ac, .inl (cI, n, .inl zc)), (aq, .inl (cI, n, .inl zq)), (af, .inl (cI, n, .inl zf)), (m0, .inr (1, [.ref x0, .ref v0])), (x0, .inl (cL, n, .inr (.inl px))), (v0, .inl (cL, n, .inr (.inl pv))), (m2, .inr (1, [.ref x2, .ref v2])), (x2, .inl (cL, n, .inr (.inl x.2.2.2.1))), (v2, .inl (cL, n, .inr (.inl x.2.2.2.2.1))), (m3, .inr (1, [.ref x3, .ref v3])), (x3, .inl (cL, n, .inr (.inl x.2.2.2.2.2.1))), (v3, .inl (cL, n, .inr (.inl x.2.2.2.2.2.2)))] H ∧ va_D A [(o, .inr (4, [.int (nI n), .ref sp, .ref m0, .ref m1, .ref m2, .ref m3, .ref wt, .ref hi, .int (nI tol), .int (nI tm), .int (nI x.1), .int (nI sd), .int (nI x.2.1), .long er])), (sp, .inr (2, [.int (nI n), .ref ak, .ref ac, .ref aq, .ref af])), (ak, .inl (cI, n, .inl zk)), (ac, .inl (cI, n, .inl zc)), (aq, .inl (cI, n, .inl zq)), (af, .inl (cI, n, .inl zf)), (m0, .inr (1, [.ref x0, .ref v0])), (x0, .inl (cL, n, .inr (.inl px))), (v0, .inl (cL, n, .inr (.inl pv))), (m2, .inr (1, [.ref x2, .ref v2])), (x2, .inl (cL, n, .inr (.inl x.2.2.2.1))), (v2, .inl (cL, n, .inr (.inl x.2.2.2.2.1))), (m3, .inr (1, [.ref x3, .ref v3])), (x3, .inl (cL, n, .inr (.inl x.2.2.2.2.2.1))), (v3, .inl (cL, n, .inr (.inl x.2.2.2.2.2.2)))] ∧ va_S A s.heap H locs ∧ lv_has ls 3 [(0, .ref o), (1, .long x.2.2.1)]) ?_ ?_ 9 (fs, rj, r0, gcx0, gcv0, gfx0, gfv0) ⟨(by omega), rfl, t0, hP.sub [0, 1, 2, 3, 4, 5, 6, 7, 8, 9, 10, 11, 12, 13, 14] rfl, hD.sub [0, 1, 2, 3, 4, 5, 6, 7, 8, 9, 10, 11, 12, 13, 14] (by decide) rfl, hS, lv_sub hl [1, 0] rfl⟩
  · intro x H locs ls h; have h9 := h.1; (try dsimp only at h9); omega
  · intro k x H locs ls h ih
    obtain ⟨g, j, em, ax, av, bx, bv⟩ := x
    obtain ⟨hk, hz, hg, hP, hD, hS, hl⟩ := h
    have hk : g ≤ 8 ∧ 8 < g + (k + 1) := hk
    have hz : zGr n zk zc zq zf px pv tol fs rj = zGr n zk zc zq zf px pv tol g j := hz
    have hg : (zTry n zk zc zq zf g px pv = none ∧ em = (-1)) ∨ zTry n zk zc zq zf g px pv = some (em, bx, bv) := hg
    have hP : va_P D vwCl [(o, .inr (4, [.int (nI n), .ref sp, .ref m0, .ref m1, .ref m2, .ref m3, .ref wt, .ref hi, .int (nI tol), .int (nI tm), .int (nI g), .int (nI sd), .int (nI j), .long er])), (sp, .inr (2, [.int (nI n), .ref ak, .ref ac, .ref aq, .ref af])), (ak, .inl (cI, n, .inl zk)), (ac, .inl (cI, n, .inl zc)), (aq, .inl (cI, n, .inl zq)), (af, .inl (cI, n, .inl zf)), (m0, .inr (1, [.ref x0, .ref v0])), (x0, .inl (cL, n, .inr (.inl px))), (v0, .inl (cL, n, .inr (.inl pv))), (m2, .inr (1, [.ref x2, .ref v2])), (x2, .inl (cL, n, .inr (.inl ax))), (v2, .inl (cL, n, .inr (.inl av))), (m3, .inr (1, [.ref x3, .ref v3])), (x3, .inl (cL, n, .inr (.inl bx))), (v3, .inl (cL, n, .inr (.inl bv)))] H := hP
    have hD : va_D A [(o, .inr (4, [.int (nI n), .ref sp, .ref m0, .ref m1, .ref m2, .ref m3, .ref wt, .ref hi, .int (nI tol), .int (nI tm), .int (nI g), .int (nI sd), .int (nI j), .long er])), (sp, .inr (2, [.int (nI n), .ref ak, .ref ac, .ref aq, .ref af])), (ak, .inl (cI, n, .inl zk)), (ac, .inl (cI, n, .inl zc)), (aq, .inl (cI, n, .inl zq)), (af, .inl (cI, n, .inl zf)), (m0, .inr (1, [.ref x0, .ref v0])), (x0, .inl (cL, n, .inr (.inl px))), (v0, .inl (cL, n, .inr (.inl pv))), (m2, .inr (1, [.ref x2, .ref v2])), (x2, .inl (cL, n, .inr (.inl ax))), (v2, .inl (cL, n, .inr (.inl av))), (m3, .inr (1, [.ref x3, .ref v3])), (x3, .inl (cL, n, .inr (.inl bx))), (v3, .inl (cL, n, .inr (.inl bv)))] := hD
    have hl : lv_has ls 3 [(0, .ref o), (1, .long em)] := hl
    refine lv_lload_n hx hb d_R_tryUntilGood_5 rfl (lv_at hl 1 rfl) ?_
    refine lv_aload_n hx hb d_R_tryUntilGood_6 rfl (lv_at hl 0 rfl) ?_
    refine va_get (D := D) (ci := 4) (v := .int (nI tol)) (C := "OscillatorRow") (T := T_R) (N := 14) hx hb hT i_R hown hK hP 0 rfl rfl 8 (by decide) (hT _ k_122) (fun _ h9 => h9) rfl d_R_tryUntilGood_7 ?_
    refine lv_i2l hx hb d_R_tryUntilGood_10 rfl ?_
    refine W.lcmp hx hb d_R_tryUntilGood_11 ?_
    refine lv_if_le (tgt := 52) hx hb d_R_tryUntilGood_12 (by decide) (fun c12 => ?_) (fun c12 => ?_)
    · have c12 := lgt_le c12
      refine lv_lload_n hx hb d_R_tryUntilGood_52 rfl (lv_at hl 1 rfl) ?_
      exact re_l (v := em) (g, j, ax, av, bx, bv) hx hb hr hlocks (zGood_end hz (zGood_le hg c12) hg) (hP.sub [0, 1, 2, 3, 4, 5, 6, 7, 8, 9, 10, 11, 12, 13, 14] rfl) hK (hD.sub [0, 1, 2, 3, 4, 5, 6, 7, 8, 9, 10, 11, 12, 13, 14] (by decide) rfl) hS d_R_tryUntilGood_53
    · have c12 := lgf_le c12
      refine lv_aload_n hx hb d_R_tryUntilGood_15 rfl (lv_at hl 0 rfl) ?_
      refine va_get (D := D) (ci := 4) (v := .int (nI g)) (C := "OscillatorRow") (T := T_R) (N := 14) hx hb hT i_R hown hK hP 0 rfl rfl 10 (by decide) (hT _ k_124) (fun _ h9 => h9) rfl d_R_tryUntilGood_16 ?_
      refine lv_bipush (v := 8) hx hb d_R_tryUntilGood_19 (by decide) ?_
      refine lv_icmp_ge (tgt := 52) hx hb d_R_tryUntilGood_21 (by decide) (fun c21 => ?_) (fun c21 => ?_)
      · have c21 := nI_leM (a := 8) c21 (by omega) (by omega)
        refine lv_lload_n hx hb d_R_tryUntilGood_52 rfl (lv_at hl 1 rfl) ?_
        exact re_l (v := em) (g, j, ax, av, bx, bv) hx hb hr hlocks (zGood_end hz (zGood_8 hg c21 (by omega)) hg) (hP.sub [0, 1, 2, 3, 4, 5, 6, 7, 8, 9, 10, 11, 12, 13, 14] rfl) hK (hD.sub [0, 1, 2, 3, 4, 5, 6, 7, 8, 9, 10, 11, 12, 13, 14] (by decide) rfl) hS d_R_tryUntilGood_53
      · have c21 := nI_nleM (a := 8) c21 (by omega) (by omega)
        refine lv_aload_n hx hb d_R_tryUntilGood_24 rfl (lv_at hl 0 rfl) ?_
        refine lv_dup hx hb d_R_tryUntilGood_25 rfl ?_
        refine va_get (D := D) (ci := 4) (v := .int (nI g)) (C := "OscillatorRow") (T := T_R) (N := 14) hx hb hT i_R hown hK hP 0 rfl rfl 10 (by decide) (hT _ k_124) (fun _ h9 => h9) rfl d_R_tryUntilGood_26 ?_
        refine lv_iconst (v := 1) hx hb d_R_tryUntilGood_29 (by decide) ?_
        refine lv_iadd hx hb d_R_tryUntilGood_30 ?_
        refine top_i (y := (nI (g + 1))) (nI_1 g) ?_
        refine va_put (D := D) (ci := 4) (v := .int (nI (g + 1))) (ty := (.int)) (C := "OscillatorRow") (T := T_R) (N := 14) hx hb hT i_R t_R t_R_ok n_R_ok hown hK hP hD hS 0 rfl rfl 10 (by decide) (hT _ k_124) (fun _ h9 => h9) rfl (by decide +kernel) rfl rfl (Nat.le_of_ble_eq_true rfl) d_R_tryUntilGood_31 (fun H locs hP hD hS => ?_)
        have hP : va_P D vwCl [(o, .inr (4, [.int (nI n), .ref sp, .ref m0, .ref m1, .ref m2, .ref m3, .ref wt, .ref hi, .int (nI tol), .int (nI tm), .int (nI (g + 1)), .int (nI sd), .int (nI j), .long er])), (sp, .inr (2, [.int (nI n), .ref ak, .ref ac, .ref aq, .ref af])), (ak, .inl (cI, n, .inl zk)), (ac, .inl (cI, n, .inl zc)), (aq, .inl (cI, n, .inl zq)), (af, .inl (cI, n, .inl zf)), (m0, .inr (1, [.ref x0, .ref v0])), (x0, .inl (cL, n, .inr (.inl px))), (v0, .inl (cL, n, .inr (.inl pv))), (m2, .inr (1, [.ref x2, .ref v2])), (x2, .inl (cL, n, .inr (.inl ax))), (v2, .inl (cL, n, .inr (.inl av))), (m3, .inr (1, [.ref x3, .ref v3])), (x3, .inl (cL, n, .inr (.inl bx))), (v3, .inl (cL, n, .inr (.inl bv)))] H := hP
        have hD : va_D A [(o, .inr (4, [.int (nI n), .ref sp, .ref m0, .ref m1, .ref m2, .ref m3, .ref wt, .ref hi, .int (nI tol), .int (nI tm), .int (nI (g + 1)), .int (nI sd), .int (nI j), .long er])), (sp, .inr (2, [.int (nI n), .ref ak, .ref ac, .ref aq, .ref af])), (ak, .inl (cI, n, .inl zk)), (ac, .inl (cI, n, .inl zc)), (aq, .inl (cI, n, .inl zq)), (af, .inl (cI, n, .inl zf)), (m0, .inr (1, [.ref x0, .ref v0])), (x0, .inl (cL, n, .inr (.inl px))), (v0, .inl (cL, n, .inr (.inl pv))), (m2, .inr (1, [.ref x2, .ref v2])), (x2, .inl (cL, n, .inr (.inl ax))), (v2, .inl (cL, n, .inr (.inl av))), (m3, .inr (1, [.ref x3, .ref v3])), (x3, .inl (cL, n, .inr (.inl bx))), (v3, .inl (cL, n, .inr (.inl bv)))] := hD
        refine lv_aload_n hx hb d_R_tryUntilGood_34 rfl (lv_at hl 0 rfl) ?_
        refine lv_dup hx hb d_R_tryUntilGood_35 rfl ?_
        refine va_get (D := D) (ci := 4) (v := .int (nI j)) (C := "OscillatorRow") (T := T_R) (N := 14) hx hb hT i_R hown hK hP 0 rfl rfl 12 (by decide) (hT _ k_126) (fun _ h9 => h9) rfl d_R_tryUntilGood_36 ?_
        refine lv_iconst (v := 1) hx hb d_R_tryUntilGood_39 (by decide) ?_
        refine lv_iadd hx hb d_R_tryUntilGood_40 ?_
        refine top_i (y := (nI (j + 1))) (nI_1 j) ?_
        refine va_put (D := D) (ci := 4) (v := .int (nI (j + 1))) (ty := (.int)) (C := "OscillatorRow") (T := T_R) (N := 14) hx hb hT i_R t_R t_R_ok n_R_ok hown hK hP hD hS 0 rfl rfl 12 (by decide) (hT _ k_126) (fun _ h9 => h9) rfl (by decide +kernel) rfl rfl (Nat.le_of_ble_eq_true rfl) d_R_tryUntilGood_41 (fun H locs hP hD hS => ?_)
        have hP : va_P D vwCl [(o, .inr (4, [.int (nI n), .ref sp, .ref m0, .ref m1, .ref m2, .ref m3, .ref wt, .ref hi, .int (nI tol), .int (nI tm), .int (nI (g + 1)), .int (nI sd), .int (nI (j + 1)), .long er])), (sp, .inr (2, [.int (nI n), .ref ak, .ref ac, .ref aq, .ref af])), (ak, .inl (cI, n, .inl zk)), (ac, .inl (cI, n, .inl zc)), (aq, .inl (cI, n, .inl zq)), (af, .inl (cI, n, .inl zf)), (m0, .inr (1, [.ref x0, .ref v0])), (x0, .inl (cL, n, .inr (.inl px))), (v0, .inl (cL, n, .inr (.inl pv))), (m2, .inr (1, [.ref x2, .ref v2])), (x2, .inl (cL, n, .inr (.inl ax))), (v2, .inl (cL, n, .inr (.inl av))), (m3, .inr (1, [.ref x3, .ref v3])), (x3, .inl (cL, n, .inr (.inl bx))), (v3, .inl (cL, n, .inr (.inl bv)))] H := hP
        have hD : va_D A [(o, .inr (4, [.int (nI n), .ref sp, .ref m0, .ref m1, .ref m2, .ref m3, .ref wt, .ref hi, .int (nI tol), .int (nI tm), .int (nI (g + 1)), .int (nI sd), .int (nI (j + 1)), .long er])), (sp, .inr (2, [.int (nI n), .ref ak, .ref ac, .ref aq, .ref af])), (ak, .inl (cI, n, .inl zk)), (ac, .inl (cI, n, .inl zc)), (aq, .inl (cI, n, .inl zq)), (af, .inl (cI, n, .inl zf)), (m0, .inr (1, [.ref x0, .ref v0])), (x0, .inl (cL, n, .inr (.inl px))), (v0, .inl (cL, n, .inr (.inl pv))), (m2, .inr (1, [.ref x2, .ref v2])), (x2, .inl (cL, n, .inr (.inl ax))), (v2, .inl (cL, n, .inr (.inl av))), (m3, .inr (1, [.ref x3, .ref v3])), (x3, .inl (cL, n, .inr (.inl bx))), (v3, .inl (cL, n, .inr (.inl bv)))] := hD
        refine lv_aload_n hx hb d_R_tryUntilGood_44 rfl (lv_at hl 0 rfl) ?_
        have hPc := hP.sub (ws' := [(o, .inr (4, [.int (nI n), .ref sp, .ref m0, .ref m1, .ref m2, .ref m3, .ref wt, .ref hi, .int (nI tol), .int (nI tm), .int (nI (g + 1)), .int (nI sd), .int (nI (j + 1)), .long er])), (sp, .inr (2, [.int (nI n), .ref ak, .ref ac, .ref aq, .ref af])), (ak, .inl (cI, n, .inl zk)), (ac, .inl (cI, n, .inl zc)), (aq, .inl (cI, n, .inl zq)), (af, .inl (cI, n, .inl zf)), (m0, .inr (1, [.ref x0, .ref v0])), (x0, .inl (cL, n, .inr (.inl px))), (v0, .inl (cL, n, .inr (.inl pv))), (m2, .inr (1, [.ref x2, .ref v2])), (x2, .inl (cL, n, .inr (.inl ax))), (v2, .inl (cL, n, .inr (.inl av))), (m3, .inr (1, [.ref x3, .ref v3])), (x3, .inl (cL, n, .inr (.inl bx))), (v3, .inl (cL, n, .inr (.inl bv)))]) [0, 1, 2, 3, 4, 5, 6, 7, 8, 9, 10, 11, 12, 13, 14] rfl
        have hDc := hD.sub (ws' := [(o, .inr (4, [.int (nI n), .ref sp, .ref m0, .ref m1, .ref m2, .ref m3, .ref wt, .ref hi, .int (nI tol), .int (nI tm), .int (nI (g + 1)), .int (nI sd), .int (nI (j + 1)), .long er])), (sp, .inr (2, [.int (nI n), .ref ak, .ref ac, .ref aq, .ref af])), (ak, .inl (cI, n, .inl zk)), (ac, .inl (cI, n, .inl zc)), (aq, .inl (cI, n, .inl zq)), (af, .inl (cI, n, .inl zf)), (m0, .inr (1, [.ref x0, .ref v0])), (x0, .inl (cL, n, .inr (.inl px))), (v0, .inl (cL, n, .inr (.inl pv))), (m2, .inr (1, [.ref x2, .ref v2])), (x2, .inl (cL, n, .inr (.inl ax))), (v2, .inl (cL, n, .inr (.inl av))), (m3, .inr (1, [.ref x3, .ref v3])), (x3, .inl (cL, n, .inr (.inl bx))), (v3, .inl (cL, n, .inr (.inl bv)))]) [0, 1, 2, 3, 4, 5, 6, 7, 8, 9, 10, 11, 12, 13, 14] (by decide) rfl
        refine gc_l (w1 := fun (u : (Nat → Int64) × (Nat → Int64) × (Nat → Int64) × (Nat → Int64)) => [(o, .inr (4, [.int (nI n), .ref sp, .ref m0, .ref m1, .ref m2, .ref m3, .ref wt, .ref hi, .int (nI tol), .int (nI tm), .int (nI (g + 1)), .int (nI sd), .int (nI (j + 1)), .long er])), (sp, .inr (2, [.int (nI n), .ref ak, .ref ac, .ref aq, .ref af])), (ak, .inl (cI, n, .inl zk)), (ac, .inl (cI, n, .inl zc)), (aq, .inl (cI, n, .inl zq)), (af, .inl (cI, n, .inl zf)), (m0, .inr (1, [.ref x0, .ref v0])), (x0, .inl (cL, n, .inr (.inl px))), (v0, .inl (cL, n, .inr (.inl pv))), (m2, .inr (1, [.ref x2, .ref v2])), (x2, .inl (cL, n, .inr (.inl u.1))), (v2, .inl (cL, n, .inr (.inl u.2.1))), (m3, .inr (1, [.ref x3, .ref v3])), (x3, .inl (cL, n, .inr (.inl u.2.2.1))), (v3, .inl (cL, n, .inr (.inl u.2.2.2)))]) (wc := [(o, .inr (4, [.int (nI n), .ref sp, .ref m0, .ref m1, .ref m2, .ref m3, .ref wt, .ref hi, .int (nI tol), .int (nI tm), .int (nI (g + 1)), .int (nI sd), .int (nI (j + 1)), .long er])), (sp, .inr (2, [.int (nI n), .ref ak, .ref ac, .ref aq, .ref af])), (ak, .inl (cI, n, .inl zk)), (ac, .inl (cI, n, .inl zc)), (aq, .inl (cI, n, .inl zq)), (af, .inl (cI, n, .inl zf)), (m0, .inr (1, [.ref x0, .ref v0])), (x0, .inl (cL, n, .inr (.inl px))), (v0, .inl (cL, n, .inr (.inl pv))), (m2, .inr (1, [.ref x2, .ref v2])), (x2, .inl (cL, n, .inr (.inl ax))), (v2, .inl (cL, n, .inr (.inl av))), (m3, .inr (1, [.ref x3, .ref v3])), (x3, .inl (cL, n, .inr (.inl bx))), (v3, .inl (cL, n, .inr (.inl bv)))]) (wr := []) hP hD hS hA [0, 1, 2, 3, 4, 5, 6, 7, 8, 9, 10, 11, 12, 13, 14] [] rfl rfl (by decide) (by decide) (va_runV (As := []) (rest := []) ⟨hx, hb, hml, hown, hT⟩ (c_R_try l D cI cL cW cZ o n sp m0 m1 m2 m3 wt hi tol tm (g + 1) sd (j + 1) er ak ac aq af zk zc zq zf x0 v0 px pv x2 v2 x3 v3 ax av bx bv H.size hn) (cwV 0 hT (good_V k_213 k_215 p_4 k_1 k_216) rfl rfl rfl (by decide +kernel) ⟨Nat.le_of_ble_eq_true rfl, Nat.le_of_ble_eq_true rfl⟩) (pre_V hPc hDc hK hN (ci := 4) rfl rfl) rfl rfl hl.1 rfl (lv_room (Nat.le_of_ble_eq_true rfl)) d_R_tryUntilGood_45 ⟨(Nat.le_of_ble_eq_true rfl), (Nat.le_of_ble_eq_true rfl)⟩) (fun r u H locs hw hP hD hS => ?_)
        obtain ⟨gcx1, gcv1, gfx1, gfv1⟩ := u
        try dsimp only at hw
        have hP : va_P D vwCl [(o, .inr (4, [.int (nI n), .ref sp, .ref m0, .ref m1, .ref m2, .ref m3, .ref wt, .ref hi, .int (nI tol), .int (nI tm), .int (nI (g + 1)), .int (nI sd), .int (nI (j + 1)), .long er])), (sp, .inr (2, [.int (nI n), .ref ak, .ref ac, .ref aq, .ref af])), (ak, .inl (cI, n, .inl zk)), (ac, .inl (cI, n, .inl zc)), (aq, .inl (cI, n, .inl zq)), (af, .inl (cI, n, .inl zf)), (m0, .inr (1, [.ref x0, .ref v0])), (x0, .inl (cL, n, .inr (.inl px))), (v0, .inl (cL, n, .inr (.inl pv))), (m2, .inr (1, [.ref x2, .ref v2])), (x2, .inl (cL, n, .inr (.inl gcx1))), (v2, .inl (cL, n, .inr (.inl gcv1))), (m3, .inr (1, [.ref x3, .ref v3])), (x3, .inl (cL, n, .inr (.inl gfx1))), (v3, .inl (cL, n, .inr (.inl gfv1)))] H := hP
        have hD : va_D A [(o, .inr (4, [.int (nI n), .ref sp, .ref m0, .ref m1, .ref m2, .ref m3, .ref wt, .ref hi, .int (nI tol), .int (nI tm), .int (nI (g + 1)), .int (nI sd), .int (nI (j + 1)), .long er])), (sp, .inr (2, [.int (nI n), .ref ak, .ref ac, .ref aq, .ref af])), (ak, .inl (cI, n, .inl zk)), (ac, .inl (cI, n, .inl zc)), (aq, .inl (cI, n, .inl zq)), (af, .inl (cI, n, .inl zf)), (m0, .inr (1, [.ref x0, .ref v0])), (x0, .inl (cL, n, .inr (.inl px))), (v0, .inl (cL, n, .inr (.inl pv))), (m2, .inr (1, [.ref x2, .ref v2])), (x2, .inl (cL, n, .inr (.inl gcx1))), (v2, .inl (cL, n, .inr (.inl gcv1))), (m3, .inr (1, [.ref x3, .ref v3])), (x3, .inl (cL, n, .inr (.inl gfx1))), (v3, .inl (cL, n, .inr (.inl gfv1)))] := hD
        revert hw
        generalize r = r1
        intro hw
        have t1 := hw
        refine lv_lstore_n (lv' := [(1, .long r1), (0, .ref o)]) hx hb d_R_tryUntilGood_48 rfl hl (by decide) rfl (fun ls hl => ?_)
        refine lv_goto (tgt := 5) hx hb d_R_tryUntilGood_49 (by decide) ?_
        exact ih (g + 1, j + 1, r1, gcx1, gcv1, gfx1, gfv1) _ _ _ ⟨(by omega), (hz.trans (zGood_go hg c12 c21 ht)), t1, hP.sub [0, 1, 2, 3, 4, 5, 6, 7, 8, 9, 10, 11, 12, 13, 14] rfl, hD.sub [0, 1, 2, 3, 4, 5, 6, 7, 8, 9, 10, 11, 12, 13, 14] (by decide) rfl, hS, lv_sub hl [1, 0] rfl⟩
set_option maxHeartbeats 4000000 in
set_option maxRecDepth 100000 in
theorem c_R_take (l : Launch) (D : va_G) (cI cL cW cZ : ClassId) (o : Nat) (n : Nat) (sp : Nat) (m0 : Nat) (m1 : Nat) (m2 : Nat) (m3 : Nat) (wt : Nat) (hi : Nat) (tol : Nat) (tm : Nat) (fs : Nat) (sd : Nat) (rj : Nat) (er : Int64) (x0 : Nat) (v0 : Nat) (px : Nat → Int64) (pv : Nat → Int64) (x1 : Nat) (v1 : Nat) (x3 : Nat) (v3 : Nat) (bx : Nat → Int64) (bv : Nat → Int64) (fx : Nat → Int64) (fv : Nat → Int64) (tk : Nat) (em : Int64) (sz : Nat) (hn : n ≤ 4) (hf : fs ≤ 8) : Met l y_R_takeStride w_R_takeStride ({ frames := 2, cells := 0, slots := 0, locals := 39 }) (va_Pc [.ref o, .int (nI tk), .long em] (gP D vwCl (tyv cI cL cW cZ) [(o, .inr (4, [.int (nI n), .ref sp, .ref m0, .ref m1, .ref m2, .ref m3, .ref wt, .ref hi, .int (nI tol), .int (nI tm), .int (nI fs), .int (nI sd), .int (nI rj), .long er])), (m0, .inr (1, [.ref x0, .ref v0])), (x0, .inl (cL, n, .inr (.inl px))), (v0, .inl (cL, n, .inr (.inl pv))), (m1, .inr (1, [.ref x1, .ref v1])), (x1, .inl (cL, n, .inr (.inl bx))), (v1, .inl (cL, n, .inr (.inl bv))), (m3, .inr (1, [.ref x3, .ref v3])), (x3, .inl (cL, n, .inr (.inl fx))), (v3, .inl (cL, n, .inr (.inl fv)))] sz)) (va_Qv (fun (u : Nat) => u = zLess fs em tol) (fun u t => gB D vwCl (tyv cI cL cW cZ) (va_A [(o, .inr (4, [.int (nI n), .ref sp, .ref m0, .ref m1, .ref m2, .ref m3, .ref wt, .ref hi, .int (nI tol), .int (nI tm), .int (nI fs), .int (nI sd), .int (nI rj), .long er])), (m0, .inr (1, [.ref x0, .ref v0])), (x0, .inl (cL, n, .inr (.inl px))), (v0, .inl (cL, n, .inr (.inl pv))), (m1, .inr (1, [.ref x1, .ref v1])), (x1, .inl (cL, n, .inr (.inl bx))), (v1, .inl (cL, n, .inr (.inl bv))), (m3, .inr (1, [.ref x3, .ref v3])), (x3, .inl (cL, n, .inr (.inl fx))), (v3, .inl (cL, n, .inr (.inl fv)))] sz) [(o, .inr (4, [.int (nI n), .ref sp, .ref m0, .ref m1, .ref m2, .ref m3, .ref wt, .ref hi, .int (nI tol), .int (nI (tm + tk)), .int (nI u), .int (nI (sd + 1)), .int (nI rj), .long em])), (m0, .inr (1, [.ref x0, .ref v0])), (x0, .inl (cL, n, .inr (.inl fx))), (v0, .inl (cL, n, .inr (.inl fv))), (m1, .inr (1, [.ref x1, .ref v1])), (x1, .inl (cL, n, .inr (.inl px))), (v1, .inl (cL, n, .inr (.inl pv))), (m3, .inr (1, [.ref x3, .ref v3])), (x3, .inl (cL, n, .inr (.inl fx))), (v3, .inl (cL, n, .inr (.inl fv)))] t) (va_A [(o, .inr (4, [.int (nI n), .ref sp, .ref m0, .ref m1, .ref m2, .ref m3, .ref wt, .ref hi, .int (nI tol), .int (nI tm), .int (nI fs), .int (nI sd), .int (nI rj), .long er])), (m0, .inr (1, [.ref x0, .ref v0])), (x0, .inl (cL, n, .inr (.inl px))), (v0, .inl (cL, n, .inr (.inl pv))), (m1, .inr (1, [.ref x1, .ref v1])), (x1, .inl (cL, n, .inr (.inl bx))), (v1, .inl (cL, n, .inr (.inl bv))), (m3, .inr (1, [.ref x3, .ref v3])), (x3, .inl (cL, n, .inr (.inl fx))), (v3, .inl (cL, n, .inr (.inl fv)))] sz)) 0 0 (va_A [(o, .inr (4, [.int (nI n), .ref sp, .ref m0, .ref m1, .ref m2, .ref m3, .ref wt, .ref hi, .int (nI tol), .int (nI tm), .int (nI fs), .int (nI sd), .int (nI rj), .long er])), (m0, .inr (1, [.ref x0, .ref v0])), (x0, .inl (cL, n, .inr (.inl px))), (v0, .inl (cL, n, .inr (.inl pv))), (m1, .inr (1, [.ref x1, .ref v1])), (x1, .inl (cL, n, .inr (.inl bx))), (v1, .inl (cL, n, .inr (.inl bv))), (m3, .inr (1, [.ref x3, .ref v3])), (x3, .inl (cL, n, .inr (.inl fx))), (v3, .inl (cL, n, .inr (.inl fv)))] sz) := by
  refine met_go (cc := prog_1_method_24_code) (maxL := 4) (ret := none) (QA := fun A => va_Qv (fun (u : Nat) => u = zLess fs em tol) (fun u t => gB D vwCl (tyv cI cL cW cZ) A [(o, .inr (4, [.int (nI n), .ref sp, .ref m0, .ref m1, .ref m2, .ref m3, .ref wt, .ref hi, .int (nI tol), .int (nI (tm + tk)), .int (nI u), .int (nI (sd + 1)), .int (nI rj), .long em])), (m0, .inr (1, [.ref x0, .ref v0])), (x0, .inl (cL, n, .inr (.inl fx))), (v0, .inl (cL, n, .inr (.inl fv))), (m1, .inr (1, [.ref x1, .ref v1])), (x1, .inl (cL, n, .inr (.inl px))), (v1, .inl (cL, n, .inr (.inl pv))), (m3, .inr (1, [.ref x3, .ref v3])), (x3, .inl (cL, n, .inr (.inl fx))), (v3, .inl (cL, n, .inr (.inl fv)))] t) A) (by decide) (Nat.le_of_ble_eq_true rfl) ?_
  intro p e s m below meth c A ls hx hb hr hml hT hN hown hlocks hin hl hP hK hD hA hS
  have hl : lv_has ls 4 [(0, .ref o), (1, .int (nI tk)), (2, .long em)] := hl
  refine lv_aload_n hx hb d_R_takeStride_0 rfl (lv_at hl 0 rfl) ?_
  refine va_get (D := D) (ci := 4) (v := .ref m1) (C := "OscillatorRow") (T := T_R) (N := 14) hx hb hT i_R hown hK hP 0 rfl rfl 3 (by decide) (hT _ k_117) (fun _ h9 => h9) rfl d_R_takeStride_1 ?_
  refine lv_aload_n hx hb d_R_takeStride_4 rfl (lv_at hl 0 rfl) ?_
  refine va_get (D := D) (ci := 4) (v := .ref m0) (C := "OscillatorRow") (T := T_R) (N := 14) hx hb hT i_R hown hK hP 0 rfl rfl 2 (by decide) (hT _ k_116) (fun _ h9 => h9) rfl d_R_takeStride_5 ?_
  have hPc := hP.sub (ws' := [(m1, .inr (1, [.ref x1, .ref v1])), (x1, .inl (cL, n, .inr (.inl bx))), (v1, .inl (cL, n, .inr (.inl bv))), (m0, .inr (1, [.ref x0, .ref v0])), (x0, .inl (cL, n, .inr (.inl px))), (v0, .inl (cL, n, .inr (.inl pv)))]) [4, 5, 6, 1, 2, 3] rfl
  have hDc := hD.sub (ws' := [(m1, .inr (1, [.ref x1, .ref v1])), (x1, .inl (cL, n, .inr (.inl bx))), (v1, .inl (cL, n, .inr (.inl bv))), (m0, .inr (1, [.ref x0, .ref v0])), (x0, .inl (cL, n, .inr (.inl px))), (v0, .inl (cL, n, .inr (.inl pv)))]) [4, 5, 6, 1, 2, 3] (by decide) rfl
  refine gc_v (w1 := fun (u : Unit) => [(m1, .inr (1, [.ref x1, .ref v1])), (x1, .inl (cL, n, .inr (.inl px))), (v1, .inl (cL, n, .inr (.inl pv))), (m0, .inr (1, [.ref x0, .ref v0])), (x0, .inl (cL, n, .inr (.inl px))), (v0, .inl (cL, n, .inr (.inl pv)))]) (wc := [(m1, .inr (1, [.ref x1, .ref v1])), (x1, .inl (cL, n, .inr (.inl bx))), (v1, .inl (cL, n, .inr (.inl bv))), (m0, .inr (1, [.ref x0, .ref v0])), (x0, .inl (cL, n, .inr (.inl px))), (v0, .inl (cL, n, .inr (.inl pv)))]) (wr := [(o, .inr (4, [.int (nI n), .ref sp, .ref m0, .ref m1, .ref m2, .ref m3, .ref wt, .ref hi, .int (nI tol), .int (nI tm), .int (nI fs), .int (nI sd), .int (nI rj), .long er])), (m3, .inr (1, [.ref x3, .ref v3])), (x3, .inl (cL, n, .inr (.inl fx))), (v3, .inl (cL, n, .inr (.inl fv)))]) hP hD hS hA [4, 5, 6, 1, 2, 3] [0, 7, 8, 9] rfl rfl (by decide) (by decide) (va_runV (As := [.ref m0]) (rest := []) ⟨hx, hb, hml, hown, hT⟩ (c_M_copy l D cI cL cW cZ m1 x1 v1 m0 x0 v0 bx bv px pv n s.heap.size hn) (cwV 1 hT (good_V k_217 k_218 k_219 k_4 k_220) rfl rfl rfl (by decide +kernel) ⟨Nat.le_of_ble_eq_true rfl, Nat.le_of_ble_eq_true rfl⟩) (pre_V hPc hDc hK hN (ci := 1) rfl rfl) rfl rfl hl.1 rfl (lv_room (Nat.le_of_ble_eq_true rfl)) d_R_takeStride_8 ⟨(Nat.le_of_ble_eq_true rfl), (Nat.le_of_ble_eq_true rfl)⟩) (fun u H locs hw hP hD hS => ?_)
  try dsimp only at hw
  have hP : va_P D vwCl [(o, .inr (4, [.int (nI n), .ref sp, .ref m0, .ref m1, .ref m2, .ref m3, .ref wt, .ref hi, .int (nI tol), .int (nI tm), .int (nI fs), .int (nI sd), .int (nI rj), .long er])), (m3, .inr (1, [.ref x3, .ref v3])), (x3, .inl (cL, n, .inr (.inl fx))), (v3, .inl (cL, n, .inr (.inl fv))), (m1, .inr (1, [.ref x1, .ref v1])), (x1, .inl (cL, n, .inr (.inl px))), (v1, .inl (cL, n, .inr (.inl pv))), (m0, .inr (1, [.ref x0, .ref v0])), (x0, .inl (cL, n, .inr (.inl px))), (v0, .inl (cL, n, .inr (.inl pv)))] H := hP
  have hD : va_D A [(o, .inr (4, [.int (nI n), .ref sp, .ref m0, .ref m1, .ref m2, .ref m3, .ref wt, .ref hi, .int (nI tol), .int (nI tm), .int (nI fs), .int (nI sd), .int (nI rj), .long er])), (m3, .inr (1, [.ref x3, .ref v3])), (x3, .inl (cL, n, .inr (.inl fx))), (v3, .inl (cL, n, .inr (.inl fv))), (m1, .inr (1, [.ref x1, .ref v1])), (x1, .inl (cL, n, .inr (.inl px))), (v1, .inl (cL, n, .inr (.inl pv))), (m0, .inr (1, [.ref x0, .ref v0])), (x0, .inl (cL, n, .inr (.inl px))), (v0, .inl (cL, n, .inr (.inl pv)))] := hD
  refine lv_aload_n hx hb d_R_takeStride_11 rfl (lv_at hl 0 rfl) ?_
  refine va_get (D := D) (ci := 4) (v := .ref m0) (C := "OscillatorRow") (T := T_R) (N := 14) hx hb hT i_R hown hK hP 0 rfl rfl 2 (by decide) (hT _ k_116) (fun _ h9 => h9) rfl d_R_takeStride_12 ?_
  refine lv_aload_n hx hb d_R_takeStride_15 rfl (lv_at hl 0 rfl) ?_
  refine va_get (D := D) (ci := 4) (v := .ref m3) (C := "OscillatorRow") (T := T_R) (N := 14) hx hb hT i_R hown hK hP 0 rfl rfl 5 (by decide) (hT _ k_119) (fun _ h9 => h9) rfl d_R_takeStride_16 ?_
  have hPc := hP.sub (ws' := [(m0, .inr (1, [.ref x0, .ref v0])), (x0, .inl (cL, n, .inr (.inl px))), (v0, .inl (cL, n, .inr (.inl pv))), (m3, .inr (1, [.ref x3, .ref v3])), (x3, .inl (cL, n, .inr (.inl fx))), (v3, .inl (cL, n, .inr (.inl fv)))]) [7, 8, 9, 1, 2, 3] rfl
  have hDc := hD.sub (ws' := [(m0, .inr (1, [.ref x0, .ref v0])), (x0, .inl (cL, n, .inr (.inl px))), (v0, .inl (cL, n, .inr (.inl pv))), (m3, .inr (1, [.ref x3, .ref v3])), (x3, .inl (cL, n, .inr (.inl fx))), (v3, .inl (cL, n, .inr (.inl fv)))]) [7, 8, 9, 1, 2, 3] (by decide) rfl
  refine gc_v (w1 := fun (u : Unit) => [(m0, .inr (1, [.ref x0, .ref v0])), (x0, .inl (cL, n, .inr (.inl fx))), (v0, .inl (cL, n, .inr (.inl fv))), (m3, .inr (1, [.ref x3, .ref v3])), (x3, .inl (cL, n, .inr (.inl fx))), (v3, .inl (cL, n, .inr (.inl fv)))]) (wc := [(m0, .inr (1, [.ref x0, .ref v0])), (x0, .inl (cL, n, .inr (.inl px))), (v0, .inl (cL, n, .inr (.inl pv))), (m3, .inr (1, [.ref x3, .ref v3])), (x3, .inl (cL, n, .inr (.inl fx))), (v3, .inl (cL, n, .inr (.inl fv)))]) (wr := [(o, .inr (4, [.int (nI n), .ref sp, .ref m0, .ref m1, .ref m2, .ref m3, .ref wt, .ref hi, .int (nI tol), .int (nI tm), .int (nI fs), .int (nI sd), .int (nI rj), .long er])), (m1, .inr (1, [.ref x1, .ref v1])), (x1, .inl (cL, n, .inr (.inl px))), (v1, .inl (cL, n, .inr (.inl pv)))]) hP hD hS hA [7, 8, 9, 1, 2, 3] [0, 4, 5, 6] rfl rfl (by decide) (by decide) (va_runV (As := [.ref m3]) (rest := []) ⟨hx, hb, hml, hown, hT⟩ (c_M_copy l D cI cL cW cZ m0 x0 v0 m3 x3 v3 px pv fx fv n H.size hn) (cwV 1 hT (good_V k_217 k_218 k_219 k_4 k_220) rfl rfl rfl (by decide +kernel) ⟨Nat.le_of_ble_eq_true rfl, Nat.le_of_ble_eq_true rfl⟩) (pre_V hPc hDc hK hN (ci := 1) rfl rfl) rfl rfl hl.1 rfl (lv_room (Nat.le_of_ble_eq_true rfl)) d_R_takeStride_19 ⟨(Nat.le_of_ble_eq_true rfl), (Nat.le_of_ble_eq_true rfl)⟩) (fun u H locs hw hP hD hS => ?_)
  try dsimp only at hw
  have hP : va_P D vwCl [(o, .inr (4, [.int (nI n), .ref sp, .ref m0, .ref m1, .ref m2, .ref m3, .ref wt, .ref hi, .int (nI tol), .int (nI tm), .int (nI fs), .int (nI sd), .int (nI rj), .long er])), (m1, .inr (1, [.ref x1, .ref v1])), (x1, .inl (cL, n, .inr (.inl px))), (v1, .inl (cL, n, .inr (.inl pv))), (m0, .inr (1, [.ref x0, .ref v0])), (x0, .inl (cL, n, .inr (.inl fx))), (v0, .inl (cL, n, .inr (.inl fv))), (m3, .inr (1, [.ref x3, .ref v3])), (x3, .inl (cL, n, .inr (.inl fx))), (v3, .inl (cL, n, .inr (.inl fv)))] H := hP
  have hD : va_D A [(o, .inr (4, [.int (nI n), .ref sp, .ref m0, .ref m1, .ref m2, .ref m3, .ref wt, .ref hi, .int (nI tol), .int (nI tm), .int (nI fs), .int (nI sd), .int (nI rj), .long er])), (m1, .inr (1, [.ref x1, .ref v1])), (x1, .inl (cL, n, .inr (.inl px))), (v1, .inl (cL, n, .inr (.inl pv))), (m0, .inr (1, [.ref x0, .ref v0])), (x0, .inl (cL, n, .inr (.inl fx))), (v0, .inl (cL, n, .inr (.inl fv))), (m3, .inr (1, [.ref x3, .ref v3])), (x3, .inl (cL, n, .inr (.inl fx))), (v3, .inl (cL, n, .inr (.inl fv)))] := hD
  refine lv_aload_n hx hb d_R_takeStride_22 rfl (lv_at hl 0 rfl) ?_
  refine lv_dup hx hb d_R_takeStride_23 rfl ?_
  refine va_get (D := D) (ci := 4) (v := .int (nI tm)) (C := "OscillatorRow") (T := T_R) (N := 14) hx hb hT i_R hown hK hP 0 rfl rfl 9 (by decide) (hT _ k_123) (fun _ h9 => h9) rfl d_R_takeStride_24 ?_
  refine lv_iload_n hx hb d_R_takeStride_27 rfl (lv_at hl 1 rfl) ?_
  refine lv_iadd hx hb d_R_takeStride_28 ?_
  refine top_i (y := (nI (tm + tk))) (nI_add tm tk) ?_
  refine va_put (D := D) (ci := 4) (v := .int (nI (tm + tk))) (ty := (.int)) (C := "OscillatorRow") (T := T_R) (N := 14) hx hb hT i_R t_R t_R_ok n_R_ok hown hK hP hD hS 0 rfl rfl 9 (by decide) (hT _ k_123) (fun _ h9 => h9) rfl (by decide +kernel) rfl rfl (Nat.le_of_ble_eq_true rfl) d_R_takeStride_29 (fun H locs hP hD hS => ?_)
  have hP : va_P D vwCl [(o, .inr (4, [.int (nI n), .ref sp, .ref m0, .ref m1, .ref m2, .ref m3, .ref wt, .ref hi, .int (nI tol), .int (nI (tm + tk)), .int (nI fs), .int (nI sd), .int (nI rj), .long er])), (m1, .inr (1, [.ref x1, .ref v1])), (x1, .inl (cL, n, .inr (.inl px))), (v1, .inl (cL, n, .inr (.inl pv))), (m0, .inr (1, [.ref x0, .ref v0])), (x0, .inl (cL, n, .inr (.inl fx))), (v0, .inl (cL, n, .inr (.inl fv))), (m3, .inr (1, [.ref x3, .ref v3])), (x3, .inl (cL, n, .inr (.inl fx))), (v3, .inl (cL, n, .inr (.inl fv)))] H := hP
  have hD : va_D A [(o, .inr (4, [.int (nI n), .ref sp, .ref m0, .ref m1, .ref m2, .ref m3, .ref wt, .ref hi, .int (nI tol), .int (nI (tm + tk)), .int (nI fs), .int (nI sd), .int (nI rj), .long er])), (m1, .inr (1, [.ref x1, .ref v1])), (x1, .inl (cL, n, .inr (.inl px))), (v1, .inl (cL, n, .inr (.inl pv))), (m0, .inr (1, [.ref x0, .ref v0])), (x0, .inl (cL, n, .inr (.inl fx))), (v0, .inl (cL, n, .inr (.inl fv))), (m3, .inr (1, [.ref x3, .ref v3])), (x3, .inl (cL, n, .inr (.inl fx))), (v3, .inl (cL, n, .inr (.inl fv)))] := hD
  refine lv_aload_n hx hb d_R_takeStride_32 rfl (lv_at hl 0 rfl) ?_
  refine lv_dup hx hb d_R_takeStride_33 rfl ?_
  refine va_get (D := D) (ci := 4) (v := .int (nI sd)) (C := "OscillatorRow") (T := T_R) (N := 14) hx hb hT i_R hown hK hP 0 rfl rfl 11 (by decide) (hT _ k_125) (fun _ h9 => h9) rfl d_R_takeStride_34 ?_
  refine lv_iconst (v := 1) hx hb d_R_takeStride_37 (by decide) ?_
  refine lv_iadd hx hb d_R_takeStride_38 ?_
  refine top_i (y := (nI (sd + 1))) (nI_1 sd) ?_
  refine va_put (D := D) (ci := 4) (v := .int (nI (sd + 1))) (ty := (.int)) (C := "OscillatorRow") (T := T_R) (N := 14) hx hb hT i_R t_R t_R_ok n_R_ok hown hK hP hD hS 0 rfl rfl 11 (by decide) (hT _ k_125) (fun _ h9 => h9) rfl (by decide +kernel) rfl rfl (Nat.le_of_ble_eq_true rfl) d_R_takeStride_39 (fun H locs hP hD hS => ?_)
  have hP : va_P D vwCl [(o, .inr (4, [.int (nI n), .ref sp, .ref m0, .ref m1, .ref m2, .ref m3, .ref wt, .ref hi, .int (nI tol), .int (nI (tm + tk)), .int (nI fs), .int (nI (sd + 1)), .int (nI rj), .long er])), (m1, .inr (1, [.ref x1, .ref v1])), (x1, .inl (cL, n, .inr (.inl px))), (v1, .inl (cL, n, .inr (.inl pv))), (m0, .inr (1, [.ref x0, .ref v0])), (x0, .inl (cL, n, .inr (.inl fx))), (v0, .inl (cL, n, .inr (.inl fv))), (m3, .inr (1, [.ref x3, .ref v3])), (x3, .inl (cL, n, .inr (.inl fx))), (v3, .inl (cL, n, .inr (.inl fv)))] H := hP
  have hD : va_D A [(o, .inr (4, [.int (nI n), .ref sp, .ref m0, .ref m1, .ref m2, .ref m3, .ref wt, .ref hi, .int (nI tol), .int (nI (tm + tk)), .int (nI fs), .int (nI (sd + 1)), .int (nI rj), .long er])), (m1, .inr (1, [.ref x1, .ref v1])), (x1, .inl (cL, n, .inr (.inl px))), (v1, .inl (cL, n, .inr (.inl pv))), (m0, .inr (1, [.ref x0, .ref v0])), (x0, .inl (cL, n, .inr (.inl fx))), (v0, .inl (cL, n, .inr (.inl fv))), (m3, .inr (1, [.ref x3, .ref v3])), (x3, .inl (cL, n, .inr (.inl fx))), (v3, .inl (cL, n, .inr (.inl fv)))] := hD
  refine lv_aload_n hx hb d_R_takeStride_42 rfl (lv_at hl 0 rfl) ?_
  refine lv_lload_n hx hb d_R_takeStride_43 rfl (lv_at hl 2 rfl) ?_
  refine va_put (D := D) (ci := 4) (v := .long em) (ty := (.long)) (C := "OscillatorRow") (T := T_R) (N := 14) hx hb hT i_R t_R t_R_ok n_R_ok hown hK hP hD hS 0 rfl rfl 13 (by decide) (hT _ k_127) (fun _ h9 => h9) rfl (by decide +kernel) rfl rfl (Nat.le_of_ble_eq_true rfl) d_R_takeStride_44 (fun H locs hP hD hS => ?_)
  have hP : va_P D vwCl [(o, .inr (4, [.int (nI n), .ref sp, .ref m0, .ref m1, .ref m2, .ref m3, .ref wt, .ref hi, .int (nI tol), .int (nI (tm + tk)), .int (nI fs), .int (nI (sd + 1)), .int (nI rj), .long em])), (m1, .inr (1, [.ref x1, .ref v1])), (x1, .inl (cL, n, .inr (.inl px))), (v1, .inl (cL, n, .inr (.inl pv))), (m0, .inr (1, [.ref x0, .ref v0])), (x0, .inl (cL, n, .inr (.inl fx))), (v0, .inl (cL, n, .inr (.inl fv))), (m3, .inr (1, [.ref x3, .ref v3])), (x3, .inl (cL, n, .inr (.inl fx))), (v3, .inl (cL, n, .inr (.inl fv)))] H := hP
  have hD : va_D A [(o, .inr (4, [.int (nI n), .ref sp, .ref m0, .ref m1, .ref m2, .ref m3, .ref wt, .ref hi, .int (nI tol), .int (nI (tm + tk)), .int (nI fs), .int (nI (sd + 1)), .int (nI rj), .long em])), (m1, .inr (1, [.ref x1, .ref v1])), (x1, .inl (cL, n, .inr (.inl px))), (v1, .inl (cL, n, .inr (.inl pv))), (m0, .inr (1, [.ref x0, .ref v0])), (x0, .inl (cL, n, .inr (.inl fx))), (v0, .inl (cL, n, .inr (.inl fv))), (m3, .inr (1, [.ref x3, .ref v3])), (x3, .inl (cL, n, .inr (.inl fx))), (v3, .inl (cL, n, .inr (.inl fv)))] := hD
  refine lv_aload_n hx hb d_R_takeStride_47 rfl (lv_at hl 0 rfl) ?_
  refine va_get (D := D) (ci := 4) (v := .int (nI fs)) (C := "OscillatorRow") (T := T_R) (N := 14) hx hb hT i_R hown hK hP 0 rfl rfl 10 (by decide) (hT _ k_124) (fun _ h9 => h9) rfl d_R_takeStride_48 ?_
  refine lv_if_le (tgt := 78) hx hb d_R_takeStride_51 (by decide) (fun c51 => ?_) (fun c51 => ?_)
  · have c51 := nI_le0M c51 (by omega)
    exact re_v (fs) hx hb hr hlocks (by rw [zLess, if_pos c51]) (hP.sub [0, 4, 5, 6, 1, 2, 3, 7, 8, 9] rfl) hK (hD.sub [0, 4, 5, 6, 1, 2, 3, 7, 8, 9] (by decide) rfl) hS d_R_takeStride_78
  · have c51 := nI_nle0M c51 (by omega)
    refine lv_lload_n hx hb d_R_takeStride_54 rfl (lv_at hl 2 rfl) ?_
    refine lv_ldc2 (v := 8) hx hb hown (hT _ k_263) d_R_takeStride_55 ?_
    refine lv_lmul hx hb d_R_takeStride_58 ?_
    refine lv_aload_n hx hb d_R_takeStride_59 rfl (lv_at hl 0 rfl) ?_
    refine va_get (D := D) (ci := 4) (v := .int (nI tol)) (C := "OscillatorRow") (T := T_R) (N := 14) hx hb hT i_R hown hK hP 0 rfl rfl 8 (by decide) (hT _ k_122) (fun _ h9 => h9) rfl d_R_takeStride_60 ?_
    refine lv_i2l hx hb d_R_takeStride_63 rfl ?_
    refine W.lcmp hx hb d_R_takeStride_64 ?_
    refine lv_if_gt (tgt := 78) hx hb d_R_takeStride_65 (by decide) (fun c65 => ?_) (fun c65 => ?_)
    · have c65 := lgt_gt c65
      exact re_v (fs) hx hb hr hlocks (by rw [zLess, if_neg (Nat.not_le.mpr c51), if_pos c65]) (hP.sub [0, 4, 5, 6, 1, 2, 3, 7, 8, 9] rfl) hK (hD.sub [0, 4, 5, 6, 1, 2, 3, 7, 8, 9] (by decide) rfl) hS d_R_takeStride_78
    · have c65 := lgf_gt c65
      refine lv_aload_n hx hb d_R_takeStride_68 rfl (lv_at hl 0 rfl) ?_
      refine lv_dup hx hb d_R_takeStride_69 rfl ?_
      refine va_get (D := D) (ci := 4) (v := .int (nI fs)) (C := "OscillatorRow") (T := T_R) (N := 14) hx hb hT i_R hown hK hP 0 rfl rfl 10 (by decide) (hT _ k_124) (fun _ h9 => h9) rfl d_R_takeStride_70 ?_
      refine lv_iconst (v := 1) hx hb d_R_takeStride_73 (by decide) ?_
      refine lv_isub hx hb d_R_takeStride_74 ?_
      refine top_i (y := (nI (fs - 1))) (nI_p c51) ?_
      refine va_put (D := D) (ci := 4) (v := .int (nI (fs - 1))) (ty := (.int)) (C := "OscillatorRow") (T := T_R) (N := 14) hx hb hT i_R t_R t_R_ok n_R_ok hown hK hP hD hS 0 rfl rfl 10 (by decide) (hT _ k_124) (fun _ h9 => h9) rfl (by decide +kernel) rfl rfl (Nat.le_of_ble_eq_true rfl) d_R_takeStride_75 (fun H locs hP hD hS => ?_)
      have hP : va_P D vwCl [(o, .inr (4, [.int (nI n), .ref sp, .ref m0, .ref m1, .ref m2, .ref m3, .ref wt, .ref hi, .int (nI tol), .int (nI (tm + tk)), .int (nI (fs - 1)), .int (nI (sd + 1)), .int (nI rj), .long em])), (m1, .inr (1, [.ref x1, .ref v1])), (x1, .inl (cL, n, .inr (.inl px))), (v1, .inl (cL, n, .inr (.inl pv))), (m0, .inr (1, [.ref x0, .ref v0])), (x0, .inl (cL, n, .inr (.inl fx))), (v0, .inl (cL, n, .inr (.inl fv))), (m3, .inr (1, [.ref x3, .ref v3])), (x3, .inl (cL, n, .inr (.inl fx))), (v3, .inl (cL, n, .inr (.inl fv)))] H := hP
      have hD : va_D A [(o, .inr (4, [.int (nI n), .ref sp, .ref m0, .ref m1, .ref m2, .ref m3, .ref wt, .ref hi, .int (nI tol), .int (nI (tm + tk)), .int (nI (fs - 1)), .int (nI (sd + 1)), .int (nI rj), .long em])), (m1, .inr (1, [.ref x1, .ref v1])), (x1, .inl (cL, n, .inr (.inl px))), (v1, .inl (cL, n, .inr (.inl pv))), (m0, .inr (1, [.ref x0, .ref v0])), (x0, .inl (cL, n, .inr (.inl fx))), (v0, .inl (cL, n, .inr (.inl fv))), (m3, .inr (1, [.ref x3, .ref v3])), (x3, .inl (cL, n, .inr (.inl fx))), (v3, .inl (cL, n, .inr (.inl fv)))] := hD
      exact re_v ((fs - 1)) hx hb hr hlocks (by rw [zLess, if_neg (Nat.not_le.mpr c51), if_neg c65]) (hP.sub [0, 4, 5, 6, 1, 2, 3, 7, 8, 9] rfl) hK (hD.sub [0, 4, 5, 6, 1, 2, 3, 7, 8, 9] (by decide) rfl) hS d_R_takeStride_78
end
