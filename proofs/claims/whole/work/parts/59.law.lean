/-! the law: what it is read with -/
theorem pt_11 : (Jvm.Cond.classLink "ScoreFormulasLaw" (7 : Nat) "ScoreFormulas") ∈ pm_T := pm_Ti (List.mem_of_getElem? (i := 40) (by decide +kernel)) rfl
theorem pt_12 : (Jvm.Cond.instantiable "ScoreFormulas" (7 : Nat)) ∈ pm_T := pm_Ti (List.mem_of_getElem? (i := 41) (by decide +kernel)) rfl
theorem pt_529 : (Jvm.Cond.classLink "ScoreFormulasLaw" (10 : Nat) "ScoreFormulasModel") ∈ pm_T := pm_Ti (List.mem_of_getElem? (i := 558) (by decide +kernel)) rfl
theorem pt_530 : (Jvm.Cond.instantiable "ScoreFormulasModel" (32 : Nat)) ∈ pm_T := pm_Ti (List.mem_of_getElem? (i := 559) (by decide +kernel)) rfl
theorem pt_788 : (Jvm.Cond.constantLong "ScoreFormulasLaw" (18 : Nat) (4294967295 : Int64)) ∈ pm_T := pm_Ti (List.mem_of_getElem? (i := 817) (by decide +kernel)) rfl
theorem pt_13 : (Jvm.Cond.methodLink "ScoreFormulasLaw" (9 : Nat) ({ cls := "ScoreFormulas", name := "<init>", desc := "()V" } : Jvm.MethodName)) ∈ pm_T := pm_Ti (List.mem_of_getElem? (i := 42) (by decide +kernel)) rfl
theorem pt_14 : (Jvm.Cond.instanceMethod ({ cls := "ScoreFormulas", name := "<init>", desc := "()V" } : Jvm.MethodName)) ∈ pm_T := pm_Ti (List.mem_of_getElem? (i := 43) (by decide +kernel)) rfl
theorem pt_15 : (Jvm.Cond.code ({ cls := "ScoreFormulas", name := "<init>", desc := "()V" } : Jvm.MethodName) prog_1_method_1_code (2 : Nat) (Option.none : Option Jvm.ClassFile.FieldType)) ∈ pm_T := pm_Ti (List.mem_of_getElem? (i := 44) (by decide +kernel)) rfl
theorem pt_531 : (Jvm.Cond.methodLink "ScoreFormulasLaw" (12 : Nat) ({ cls := "ScoreFormulasModel", name := "<init>", desc := "()V" } : Jvm.MethodName)) ∈ pm_T := pm_Ti (List.mem_of_getElem? (i := 560) (by decide +kernel)) rfl
theorem pt_532 : (Jvm.Cond.instanceMethod ({ cls := "ScoreFormulasModel", name := "<init>", desc := "()V" } : Jvm.MethodName)) ∈ pm_T := pm_Ti (List.mem_of_getElem? (i := 561) (by decide +kernel)) rfl
theorem pt_533 : (Jvm.Cond.code ({ cls := "ScoreFormulasModel", name := "<init>", desc := "()V" } : Jvm.MethodName) prog_10_method_1_code (1 : Nat) (Option.none : Option Jvm.ClassFile.FieldType)) ∈ pm_T := pm_Ti (List.mem_of_getElem? (i := 562) (by decide +kernel)) rfl
theorem pt_198 : (Jvm.Cond.methodLink "ScoreFormulasLaw" (13 : Nat) ({ cls := "ScoreFormulas", name := "tell", desc := "(IIII)I" } : Jvm.MethodName)) ∈ pm_T := pm_Ti (List.mem_of_getElem? (i := 227) (by decide +kernel)) rfl
theorem pt_199 : (Jvm.Cond.instanceMethod ({ cls := "ScoreFormulas", name := "tell", desc := "(IIII)I" } : Jvm.MethodName)) ∈ pm_T := pm_Ti (List.mem_of_getElem? (i := 228) (by decide +kernel)) rfl
theorem pt_200 : (Jvm.Cond.selects "ScoreFormulas" ({ cls := "ScoreFormulas", name := "tell", desc := "(IIII)I" } : Jvm.MethodName) ({ cls := "ScoreFormulas", name := "tell", desc := "(IIII)I" } : Jvm.MethodName)) ∈ pm_T := pm_Ti (List.mem_of_getElem? (i := 229) (by decide +kernel)) rfl
theorem pt_201 : (Jvm.Cond.code ({ cls := "ScoreFormulas", name := "tell", desc := "(IIII)I" } : Jvm.MethodName) prog_1_method_2_code (5 : Nat) (Option.some Jvm.ClassFile.FieldType.int)) ∈ pm_T := pm_Ti (List.mem_of_getElem? (i := 230) (by decide +kernel)) rfl
theorem pt_644 : (Jvm.Cond.methodLink "ScoreFormulasLaw" (17 : Nat) ({ cls := "ScoreFormulasModel", name := "tell", desc := "(IIII)I" } : Jvm.MethodName)) ∈ pm_T := pm_Ti (List.mem_of_getElem? (i := 673) (by decide +kernel)) rfl
theorem pt_645 : (Jvm.Cond.instanceMethod ({ cls := "ScoreFormulasModel", name := "tell", desc := "(IIII)I" } : Jvm.MethodName)) ∈ pm_T := pm_Ti (List.mem_of_getElem? (i := 674) (by decide +kernel)) rfl
theorem pt_646 : (Jvm.Cond.selects "ScoreFormulasModel" ({ cls := "ScoreFormulasModel", name := "tell", desc := "(IIII)I" } : Jvm.MethodName) ({ cls := "ScoreFormulasModel", name := "tell", desc := "(IIII)I" } : Jvm.MethodName)) ∈ pm_T := pm_Ti (List.mem_of_getElem? (i := 675) (by decide +kernel)) rfl
theorem pt_647 : (Jvm.Cond.code ({ cls := "ScoreFormulasModel", name := "tell", desc := "(IIII)I" } : Jvm.MethodName) prog_10_method_4_code (5 : Nat) (Option.some Jvm.ClassFile.FieldType.int)) ∈ pm_T := pm_Ti (List.mem_of_getElem? (i := 676) (by decide +kernel)) rfl
theorem pt_228 : (Jvm.Cond.methodLink "ScoreFormulasLaw" (20 : Nat) ({ cls := "ScoreFormulas", name := "column", desc := "(IIJ)I" } : Jvm.MethodName)) ∈ pm_T := pm_Ti (List.mem_of_getElem? (i := 257) (by decide +kernel)) rfl
theorem pt_229 : (Jvm.Cond.instanceMethod ({ cls := "ScoreFormulas", name := "column", desc := "(IIJ)I" } : Jvm.MethodName)) ∈ pm_T := pm_Ti (List.mem_of_getElem? (i := 258) (by decide +kernel)) rfl
theorem pt_230 : (Jvm.Cond.selects "ScoreFormulas" ({ cls := "ScoreFormulas", name := "column", desc := "(IIJ)I" } : Jvm.MethodName) ({ cls := "ScoreFormulas", name := "column", desc := "(IIJ)I" } : Jvm.MethodName)) ∈ pm_T := pm_Ti (List.mem_of_getElem? (i := 259) (by decide +kernel)) rfl
theorem pt_231 : (Jvm.Cond.code ({ cls := "ScoreFormulas", name := "column", desc := "(IIJ)I" } : Jvm.MethodName) prog_1_method_3_code (5 : Nat) (Option.some Jvm.ClassFile.FieldType.int)) ∈ pm_T := pm_Ti (List.mem_of_getElem? (i := 260) (by decide +kernel)) rfl
theorem pt_652 : (Jvm.Cond.methodLink "ScoreFormulasLaw" (24 : Nat) ({ cls := "ScoreFormulasModel", name := "column", desc := "(IIJ)I" } : Jvm.MethodName)) ∈ pm_T := pm_Ti (List.mem_of_getElem? (i := 681) (by decide +kernel)) rfl
theorem pt_653 : (Jvm.Cond.instanceMethod ({ cls := "ScoreFormulasModel", name := "column", desc := "(IIJ)I" } : Jvm.MethodName)) ∈ pm_T := pm_Ti (List.mem_of_getElem? (i := 682) (by decide +kernel)) rfl
theorem pt_654 : (Jvm.Cond.selects "ScoreFormulasModel" ({ cls := "ScoreFormulasModel", name := "column", desc := "(IIJ)I" } : Jvm.MethodName) ({ cls := "ScoreFormulasModel", name := "column", desc := "(IIJ)I" } : Jvm.MethodName)) ∈ pm_T := pm_Ti (List.mem_of_getElem? (i := 683) (by decide +kernel)) rfl
theorem pt_655 : (Jvm.Cond.code ({ cls := "ScoreFormulasModel", name := "column", desc := "(IIJ)I" } : Jvm.MethodName) prog_10_method_5_code (5 : Nat) (Option.some Jvm.ClassFile.FieldType.int)) ∈ pm_T := pm_Ti (List.mem_of_getElem? (i := 684) (by decide +kernel)) rfl
theorem pt_246 : (Jvm.Cond.methodLink "ScoreFormulasLaw" (25 : Nat) ({ cls := "ScoreFormulas", name := "given", desc := "(IJ)I" } : Jvm.MethodName)) ∈ pm_T := pm_Ti (List.mem_of_getElem? (i := 275) (by decide +kernel)) rfl
theorem pt_247 : (Jvm.Cond.instanceMethod ({ cls := "ScoreFormulas", name := "given", desc := "(IJ)I" } : Jvm.MethodName)) ∈ pm_T := pm_Ti (List.mem_of_getElem? (i := 276) (by decide +kernel)) rfl
theorem pt_248 : (Jvm.Cond.selects "ScoreFormulas" ({ cls := "ScoreFormulas", name := "given", desc := "(IJ)I" } : Jvm.MethodName) ({ cls := "ScoreFormulas", name := "given", desc := "(IJ)I" } : Jvm.MethodName)) ∈ pm_T := pm_Ti (List.mem_of_getElem? (i := 277) (by decide +kernel)) rfl
theorem pt_249 : (Jvm.Cond.code ({ cls := "ScoreFormulas", name := "given", desc := "(IJ)I" } : Jvm.MethodName) prog_1_method_4_code (6 : Nat) (Option.some Jvm.ClassFile.FieldType.int)) ∈ pm_T := pm_Ti (List.mem_of_getElem? (i := 278) (by decide +kernel)) rfl
theorem pt_661 : (Jvm.Cond.methodLink "ScoreFormulasLaw" (29 : Nat) ({ cls := "ScoreFormulasModel", name := "given", desc := "(IJ)I" } : Jvm.MethodName)) ∈ pm_T := pm_Ti (List.mem_of_getElem? (i := 690) (by decide +kernel)) rfl
theorem pt_662 : (Jvm.Cond.instanceMethod ({ cls := "ScoreFormulasModel", name := "given", desc := "(IJ)I" } : Jvm.MethodName)) ∈ pm_T := pm_Ti (List.mem_of_getElem? (i := 691) (by decide +kernel)) rfl
theorem pt_663 : (Jvm.Cond.selects "ScoreFormulasModel" ({ cls := "ScoreFormulasModel", name := "given", desc := "(IJ)I" } : Jvm.MethodName) ({ cls := "ScoreFormulasModel", name := "given", desc := "(IJ)I" } : Jvm.MethodName)) ∈ pm_T := pm_Ti (List.mem_of_getElem? (i := 692) (by decide +kernel)) rfl
theorem pt_664 : (Jvm.Cond.code ({ cls := "ScoreFormulasModel", name := "given", desc := "(IJ)I" } : Jvm.MethodName) prog_10_method_6_code (6 : Nat) (Option.some Jvm.ClassFile.FieldType.int)) ∈ pm_T := pm_Ti (List.mem_of_getElem? (i := 693) (by decide +kernel)) rfl
theorem pt_260 : (Jvm.Cond.methodLink "ScoreFormulasLaw" (30 : Nat) ({ cls := "ScoreFormulas", name := "average", desc := "(I)J" } : Jvm.MethodName)) ∈ pm_T := pm_Ti (List.mem_of_getElem? (i := 289) (by decide +kernel)) rfl
theorem pt_261 : (Jvm.Cond.instanceMethod ({ cls := "ScoreFormulas", name := "average", desc := "(I)J" } : Jvm.MethodName)) ∈ pm_T := pm_Ti (List.mem_of_getElem? (i := 290) (by decide +kernel)) rfl
theorem pt_262 : (Jvm.Cond.selects "ScoreFormulas" ({ cls := "ScoreFormulas", name := "average", desc := "(I)J" } : Jvm.MethodName) ({ cls := "ScoreFormulas", name := "average", desc := "(I)J" } : Jvm.MethodName)) ∈ pm_T := pm_Ti (List.mem_of_getElem? (i := 291) (by decide +kernel)) rfl
theorem pt_263 : (Jvm.Cond.code ({ cls := "ScoreFormulas", name := "average", desc := "(I)J" } : Jvm.MethodName) prog_1_method_5_code (2 : Nat) (Option.some Jvm.ClassFile.FieldType.long)) ∈ pm_T := pm_Ti (List.mem_of_getElem? (i := 292) (by decide +kernel)) rfl
theorem pt_675 : (Jvm.Cond.methodLink "ScoreFormulasLaw" (34 : Nat) ({ cls := "ScoreFormulasModel", name := "average", desc := "(I)J" } : Jvm.MethodName)) ∈ pm_T := pm_Ti (List.mem_of_getElem? (i := 704) (by decide +kernel)) rfl
theorem pt_676 : (Jvm.Cond.instanceMethod ({ cls := "ScoreFormulasModel", name := "average", desc := "(I)J" } : Jvm.MethodName)) ∈ pm_T := pm_Ti (List.mem_of_getElem? (i := 705) (by decide +kernel)) rfl
theorem pt_677 : (Jvm.Cond.selects "ScoreFormulasModel" ({ cls := "ScoreFormulasModel", name := "average", desc := "(I)J" } : Jvm.MethodName) ({ cls := "ScoreFormulasModel", name := "average", desc := "(I)J" } : Jvm.MethodName)) ∈ pm_T := pm_Ti (List.mem_of_getElem? (i := 706) (by decide +kernel)) rfl
theorem pt_678 : (Jvm.Cond.code ({ cls := "ScoreFormulasModel", name := "average", desc := "(I)J" } : Jvm.MethodName) prog_10_method_11_code (2 : Nat) (Option.some Jvm.ClassFile.FieldType.long)) ∈ pm_T := pm_Ti (List.mem_of_getElem? (i := 707) (by decide +kernel)) rfl
theorem pt_291 : (Jvm.Cond.methodLink "ScoreFormulasLaw" (35 : Nat) ({ cls := "ScoreFormulas", name := "packed", desc := "(II)I" } : Jvm.MethodName)) ∈ pm_T := pm_Ti (List.mem_of_getElem? (i := 320) (by decide +kernel)) rfl
theorem pt_292 : (Jvm.Cond.instanceMethod ({ cls := "ScoreFormulas", name := "packed", desc := "(II)I" } : Jvm.MethodName)) ∈ pm_T := pm_Ti (List.mem_of_getElem? (i := 321) (by decide +kernel)) rfl
theorem pt_293 : (Jvm.Cond.selects "ScoreFormulas" ({ cls := "ScoreFormulas", name := "packed", desc := "(II)I" } : Jvm.MethodName) ({ cls := "ScoreFormulas", name := "packed", desc := "(II)I" } : Jvm.MethodName)) ∈ pm_T := pm_Ti (List.mem_of_getElem? (i := 322) (by decide +kernel)) rfl
theorem pt_294 : (Jvm.Cond.code ({ cls := "ScoreFormulas", name := "packed", desc := "(II)I" } : Jvm.MethodName) prog_1_method_6_code (4 : Nat) (Option.some Jvm.ClassFile.FieldType.int)) ∈ pm_T := pm_Ti (List.mem_of_getElem? (i := 323) (by decide +kernel)) rfl
theorem pt_665 : (Jvm.Cond.methodLink "ScoreFormulasLaw" (39 : Nat) ({ cls := "ScoreFormulasModel", name := "packed", desc := "(II)I" } : Jvm.MethodName)) ∈ pm_T := pm_Ti (List.mem_of_getElem? (i := 694) (by decide +kernel)) rfl
theorem pt_666 : (Jvm.Cond.instanceMethod ({ cls := "ScoreFormulasModel", name := "packed", desc := "(II)I" } : Jvm.MethodName)) ∈ pm_T := pm_Ti (List.mem_of_getElem? (i := 695) (by decide +kernel)) rfl
theorem pt_667 : (Jvm.Cond.selects "ScoreFormulasModel" ({ cls := "ScoreFormulasModel", name := "packed", desc := "(II)I" } : Jvm.MethodName) ({ cls := "ScoreFormulasModel", name := "packed", desc := "(II)I" } : Jvm.MethodName)) ∈ pm_T := pm_Ti (List.mem_of_getElem? (i := 696) (by decide +kernel)) rfl
theorem pt_668 : (Jvm.Cond.code ({ cls := "ScoreFormulasModel", name := "packed", desc := "(II)I" } : Jvm.MethodName) prog_10_method_9_code (3 : Nat) (Option.some Jvm.ClassFile.FieldType.int)) ∈ pm_T := pm_Ti (List.mem_of_getElem? (i := 697) (by decide +kernel)) rfl
theorem pt_297 : (Jvm.Cond.methodLink "ScoreFormulasLaw" (40 : Nat) ({ cls := "ScoreFormulas", name := "formula", desc := "(IIIJJ)I" } : Jvm.MethodName)) ∈ pm_T := pm_Ti (List.mem_of_getElem? (i := 326) (by decide +kernel)) rfl
theorem pt_298 : (Jvm.Cond.instanceMethod ({ cls := "ScoreFormulas", name := "formula", desc := "(IIIJJ)I" } : Jvm.MethodName)) ∈ pm_T := pm_Ti (List.mem_of_getElem? (i := 327) (by decide +kernel)) rfl
theorem pt_299 : (Jvm.Cond.selects "ScoreFormulas" ({ cls := "ScoreFormulas", name := "formula", desc := "(IIIJJ)I" } : Jvm.MethodName) ({ cls := "ScoreFormulas", name := "formula", desc := "(IIIJJ)I" } : Jvm.MethodName)) ∈ pm_T := pm_Ti (List.mem_of_getElem? (i := 328) (by decide +kernel)) rfl
theorem pt_300 : (Jvm.Cond.code ({ cls := "ScoreFormulas", name := "formula", desc := "(IIIJJ)I" } : Jvm.MethodName) prog_1_method_7_code (11 : Nat) (Option.some Jvm.ClassFile.FieldType.int)) ∈ pm_T := pm_Ti (List.mem_of_getElem? (i := 329) (by decide +kernel)) rfl
theorem pt_701 : (Jvm.Cond.methodLink "ScoreFormulasLaw" (44 : Nat) ({ cls := "ScoreFormulasModel", name := "formula", desc := "(IIIJJ)I" } : Jvm.MethodName)) ∈ pm_T := pm_Ti (List.mem_of_getElem? (i := 730) (by decide +kernel)) rfl
theorem pt_702 : (Jvm.Cond.instanceMethod ({ cls := "ScoreFormulasModel", name := "formula", desc := "(IIIJJ)I" } : Jvm.MethodName)) ∈ pm_T := pm_Ti (List.mem_of_getElem? (i := 731) (by decide +kernel)) rfl
theorem pt_703 : (Jvm.Cond.selects "ScoreFormulasModel" ({ cls := "ScoreFormulasModel", name := "formula", desc := "(IIIJJ)I" } : Jvm.MethodName) ({ cls := "ScoreFormulasModel", name := "formula", desc := "(IIIJJ)I" } : Jvm.MethodName)) ∈ pm_T := pm_Ti (List.mem_of_getElem? (i := 732) (by decide +kernel)) rfl
theorem pt_704 : (Jvm.Cond.code ({ cls := "ScoreFormulasModel", name := "formula", desc := "(IIIJJ)I" } : Jvm.MethodName) prog_10_method_14_code (15 : Nat) (Option.some Jvm.ClassFile.FieldType.int)) ∈ pm_T := pm_Ti (List.mem_of_getElem? (i := 733) (by decide +kernel)) rfl
theorem pt_355 : (Jvm.Cond.methodLink "ScoreFormulasLaw" (45 : Nat) ({ cls := "ScoreFormulas", name := "part", desc := "(II)I" } : Jvm.MethodName)) ∈ pm_T := pm_Ti (List.mem_of_getElem? (i := 384) (by decide +kernel)) rfl
theorem pt_356 : (Jvm.Cond.instanceMethod ({ cls := "ScoreFormulas", name := "part", desc := "(II)I" } : Jvm.MethodName)) ∈ pm_T := pm_Ti (List.mem_of_getElem? (i := 385) (by decide +kernel)) rfl
theorem pt_357 : (Jvm.Cond.selects "ScoreFormulas" ({ cls := "ScoreFormulas", name := "part", desc := "(II)I" } : Jvm.MethodName) ({ cls := "ScoreFormulas", name := "part", desc := "(II)I" } : Jvm.MethodName)) ∈ pm_T := pm_Ti (List.mem_of_getElem? (i := 386) (by decide +kernel)) rfl
theorem pt_358 : (Jvm.Cond.code ({ cls := "ScoreFormulas", name := "part", desc := "(II)I" } : Jvm.MethodName) prog_1_method_8_code (5 : Nat) (Option.some Jvm.ClassFile.FieldType.int)) ∈ pm_T := pm_Ti (List.mem_of_getElem? (i := 387) (by decide +kernel)) rfl
theorem pt_716 : (Jvm.Cond.methodLink "ScoreFormulasLaw" (48 : Nat) ({ cls := "ScoreFormulasModel", name := "part", desc := "(II)I" } : Jvm.MethodName)) ∈ pm_T := pm_Ti (List.mem_of_getElem? (i := 745) (by decide +kernel)) rfl
theorem pt_717 : (Jvm.Cond.instanceMethod ({ cls := "ScoreFormulasModel", name := "part", desc := "(II)I" } : Jvm.MethodName)) ∈ pm_T := pm_Ti (List.mem_of_getElem? (i := 746) (by decide +kernel)) rfl
theorem pt_718 : (Jvm.Cond.selects "ScoreFormulasModel" ({ cls := "ScoreFormulasModel", name := "part", desc := "(II)I" } : Jvm.MethodName) ({ cls := "ScoreFormulasModel", name := "part", desc := "(II)I" } : Jvm.MethodName)) ∈ pm_T := pm_Ti (List.mem_of_getElem? (i := 747) (by decide +kernel)) rfl
theorem pt_719 : (Jvm.Cond.code ({ cls := "ScoreFormulasModel", name := "part", desc := "(II)I" } : Jvm.MethodName) prog_10_method_16_code (3 : Nat) (Option.some Jvm.ClassFile.FieldType.int)) ∈ pm_T := pm_Ti (List.mem_of_getElem? (i := 748) (by decide +kernel)) rfl
theorem pt_362 : (Jvm.Cond.methodLink "ScoreFormulasLaw" (49 : Nat) ({ cls := "ScoreFormulas", name := "score", desc := "(II)J" } : Jvm.MethodName)) ∈ pm_T := pm_Ti (List.mem_of_getElem? (i := 391) (by decide +kernel)) rfl
theorem pt_363 : (Jvm.Cond.instanceMethod ({ cls := "ScoreFormulas", name := "score", desc := "(II)J" } : Jvm.MethodName)) ∈ pm_T := pm_Ti (List.mem_of_getElem? (i := 392) (by decide +kernel)) rfl
theorem pt_364 : (Jvm.Cond.selects "ScoreFormulas" ({ cls := "ScoreFormulas", name := "score", desc := "(II)J" } : Jvm.MethodName) ({ cls := "ScoreFormulas", name := "score", desc := "(II)J" } : Jvm.MethodName)) ∈ pm_T := pm_Ti (List.mem_of_getElem? (i := 393) (by decide +kernel)) rfl
theorem pt_365 : (Jvm.Cond.code ({ cls := "ScoreFormulas", name := "score", desc := "(II)J" } : Jvm.MethodName) prog_1_method_9_code (5 : Nat) (Option.some Jvm.ClassFile.FieldType.long)) ∈ pm_T := pm_Ti (List.mem_of_getElem? (i := 394) (by decide +kernel)) rfl
theorem pt_720 : (Jvm.Cond.methodLink "ScoreFormulasLaw" (53 : Nat) ({ cls := "ScoreFormulasModel", name := "score", desc := "(II)J" } : Jvm.MethodName)) ∈ pm_T := pm_Ti (List.mem_of_getElem? (i := 749) (by decide +kernel)) rfl
theorem pt_721 : (Jvm.Cond.instanceMethod ({ cls := "ScoreFormulasModel", name := "score", desc := "(II)J" } : Jvm.MethodName)) ∈ pm_T := pm_Ti (List.mem_of_getElem? (i := 750) (by decide +kernel)) rfl
theorem pt_722 : (Jvm.Cond.selects "ScoreFormulasModel" ({ cls := "ScoreFormulasModel", name := "score", desc := "(II)J" } : Jvm.MethodName) ({ cls := "ScoreFormulasModel", name := "score", desc := "(II)J" } : Jvm.MethodName)) ∈ pm_T := pm_Ti (List.mem_of_getElem? (i := 751) (by decide +kernel)) rfl
theorem pt_723 : (Jvm.Cond.code ({ cls := "ScoreFormulasModel", name := "score", desc := "(II)J" } : Jvm.MethodName) prog_10_method_32_code (3 : Nat) (Option.some Jvm.ClassFile.FieldType.long)) ∈ pm_T := pm_Ti (List.mem_of_getElem? (i := 752) (by decide +kernel)) rfl
theorem pt_489 : (Jvm.Cond.methodLink "ScoreFormulasLaw" (54 : Nat) ({ cls := "ScoreFormulas", name := "told", desc := "(I)I" } : Jvm.MethodName)) ∈ pm_T := pm_Ti (List.mem_of_getElem? (i := 518) (by decide +kernel)) rfl
theorem pt_490 : (Jvm.Cond.instanceMethod ({ cls := "ScoreFormulas", name := "told", desc := "(I)I" } : Jvm.MethodName)) ∈ pm_T := pm_Ti (List.mem_of_getElem? (i := 519) (by decide +kernel)) rfl
theorem pt_491 : (Jvm.Cond.selects "ScoreFormulas" ({ cls := "ScoreFormulas", name := "told", desc := "(I)I" } : Jvm.MethodName) ({ cls := "ScoreFormulas", name := "told", desc := "(I)I" } : Jvm.MethodName)) ∈ pm_T := pm_Ti (List.mem_of_getElem? (i := 520) (by decide +kernel)) rfl
theorem pt_492 : (Jvm.Cond.code ({ cls := "ScoreFormulas", name := "told", desc := "(I)I" } : Jvm.MethodName) prog_1_method_10_code (2 : Nat) (Option.some Jvm.ClassFile.FieldType.int)) ∈ pm_T := pm_Ti (List.mem_of_getElem? (i := 521) (by decide +kernel)) rfl
theorem pt_768 : (Jvm.Cond.methodLink "ScoreFormulasLaw" (58 : Nat) ({ cls := "ScoreFormulasModel", name := "told", desc := "(I)I" } : Jvm.MethodName)) ∈ pm_T := pm_Ti (List.mem_of_getElem? (i := 797) (by decide +kernel)) rfl
theorem pt_769 : (Jvm.Cond.instanceMethod ({ cls := "ScoreFormulasModel", name := "told", desc := "(I)I" } : Jvm.MethodName)) ∈ pm_T := pm_Ti (List.mem_of_getElem? (i := 798) (by decide +kernel)) rfl
theorem pt_770 : (Jvm.Cond.selects "ScoreFormulasModel" ({ cls := "ScoreFormulasModel", name := "told", desc := "(I)I" } : Jvm.MethodName) ({ cls := "ScoreFormulasModel", name := "told", desc := "(I)I" } : Jvm.MethodName)) ∈ pm_T := pm_Ti (List.mem_of_getElem? (i := 799) (by decide +kernel)) rfl
theorem pt_771 : (Jvm.Cond.code ({ cls := "ScoreFormulasModel", name := "told", desc := "(I)I" } : Jvm.MethodName) prog_10_method_33_code (2 : Nat) (Option.some Jvm.ClassFile.FieldType.int)) ∈ pm_T := pm_Ti (List.mem_of_getElem? (i := 800) (by decide +kernel)) rfl
theorem pt_493 : (Jvm.Cond.methodLink "ScoreFormulasLaw" (59 : Nat) ({ cls := "ScoreFormulas", name := "about", desc := "(II)I" } : Jvm.MethodName)) ∈ pm_T := pm_Ti (List.mem_of_getElem? (i := 522) (by decide +kernel)) rfl
theorem pt_494 : (Jvm.Cond.instanceMethod ({ cls := "ScoreFormulas", name := "about", desc := "(II)I" } : Jvm.MethodName)) ∈ pm_T := pm_Ti (List.mem_of_getElem? (i := 523) (by decide +kernel)) rfl
theorem pt_495 : (Jvm.Cond.selects "ScoreFormulas" ({ cls := "ScoreFormulas", name := "about", desc := "(II)I" } : Jvm.MethodName) ({ cls := "ScoreFormulas", name := "about", desc := "(II)I" } : Jvm.MethodName)) ∈ pm_T := pm_Ti (List.mem_of_getElem? (i := 524) (by decide +kernel)) rfl
theorem pt_496 : (Jvm.Cond.code ({ cls := "ScoreFormulas", name := "about", desc := "(II)I" } : Jvm.MethodName) prog_1_method_11_code (4 : Nat) (Option.some Jvm.ClassFile.FieldType.int)) ∈ pm_T := pm_Ti (List.mem_of_getElem? (i := 525) (by decide +kernel)) rfl
theorem pt_772 : (Jvm.Cond.methodLink "ScoreFormulasLaw" (62 : Nat) ({ cls := "ScoreFormulasModel", name := "about", desc := "(II)I" } : Jvm.MethodName)) ∈ pm_T := pm_Ti (List.mem_of_getElem? (i := 801) (by decide +kernel)) rfl
theorem pt_773 : (Jvm.Cond.instanceMethod ({ cls := "ScoreFormulasModel", name := "about", desc := "(II)I" } : Jvm.MethodName)) ∈ pm_T := pm_Ti (List.mem_of_getElem? (i := 802) (by decide +kernel)) rfl
theorem pt_774 : (Jvm.Cond.selects "ScoreFormulasModel" ({ cls := "ScoreFormulasModel", name := "about", desc := "(II)I" } : Jvm.MethodName) ({ cls := "ScoreFormulasModel", name := "about", desc := "(II)I" } : Jvm.MethodName)) ∈ pm_T := pm_Ti (List.mem_of_getElem? (i := 803) (by decide +kernel)) rfl
theorem pt_775 : (Jvm.Cond.code ({ cls := "ScoreFormulasModel", name := "about", desc := "(II)I" } : Jvm.MethodName) prog_10_method_34_code (3 : Nat) (Option.some Jvm.ClassFile.FieldType.int)) ∈ pm_T := pm_Ti (List.mem_of_getElem? (i := 804) (by decide +kernel)) rfl
theorem pt_497 : (Jvm.Cond.methodLink "ScoreFormulasLaw" (63 : Nat) ({ cls := "ScoreFormulas", name := "partOf", desc := "(II)I" } : Jvm.MethodName)) ∈ pm_T := pm_Ti (List.mem_of_getElem? (i := 526) (by decide +kernel)) rfl
theorem pt_498 : (Jvm.Cond.instanceMethod ({ cls := "ScoreFormulas", name := "partOf", desc := "(II)I" } : Jvm.MethodName)) ∈ pm_T := pm_Ti (List.mem_of_getElem? (i := 527) (by decide +kernel)) rfl
theorem pt_499 : (Jvm.Cond.selects "ScoreFormulas" ({ cls := "ScoreFormulas", name := "partOf", desc := "(II)I" } : Jvm.MethodName) ({ cls := "ScoreFormulas", name := "partOf", desc := "(II)I" } : Jvm.MethodName)) ∈ pm_T := pm_Ti (List.mem_of_getElem? (i := 528) (by decide +kernel)) rfl
theorem pt_500 : (Jvm.Cond.code ({ cls := "ScoreFormulas", name := "partOf", desc := "(II)I" } : Jvm.MethodName) prog_1_method_12_code (3 : Nat) (Option.some Jvm.ClassFile.FieldType.int)) ∈ pm_T := pm_Ti (List.mem_of_getElem? (i := 529) (by decide +kernel)) rfl
theorem pt_776 : (Jvm.Cond.methodLink "ScoreFormulasLaw" (66 : Nat) ({ cls := "ScoreFormulasModel", name := "partOf", desc := "(II)I" } : Jvm.MethodName)) ∈ pm_T := pm_Ti (List.mem_of_getElem? (i := 805) (by decide +kernel)) rfl
theorem pt_777 : (Jvm.Cond.instanceMethod ({ cls := "ScoreFormulasModel", name := "partOf", desc := "(II)I" } : Jvm.MethodName)) ∈ pm_T := pm_Ti (List.mem_of_getElem? (i := 806) (by decide +kernel)) rfl
theorem pt_778 : (Jvm.Cond.selects "ScoreFormulasModel" ({ cls := "ScoreFormulasModel", name := "partOf", desc := "(II)I" } : Jvm.MethodName) ({ cls := "ScoreFormulasModel", name := "partOf", desc := "(II)I" } : Jvm.MethodName)) ∈ pm_T := pm_Ti (List.mem_of_getElem? (i := 807) (by decide +kernel)) rfl
theorem pt_779 : (Jvm.Cond.code ({ cls := "ScoreFormulasModel", name := "partOf", desc := "(II)I" } : Jvm.MethodName) prog_10_method_35_code (3 : Nat) (Option.some Jvm.ClassFile.FieldType.int)) ∈ pm_T := pm_Ti (List.mem_of_getElem? (i := 808) (by decide +kernel)) rfl
theorem pt_501 : (Jvm.Cond.methodLink "ScoreFormulasLaw" (67 : Nat) ({ cls := "ScoreFormulas", name := "top", desc := "(II)I" } : Jvm.MethodName)) ∈ pm_T := pm_Ti (List.mem_of_getElem? (i := 530) (by decide +kernel)) rfl
theorem pt_502 : (Jvm.Cond.instanceMethod ({ cls := "ScoreFormulas", name := "top", desc := "(II)I" } : Jvm.MethodName)) ∈ pm_T := pm_Ti (List.mem_of_getElem? (i := 531) (by decide +kernel)) rfl
theorem pt_503 : (Jvm.Cond.selects "ScoreFormulas" ({ cls := "ScoreFormulas", name := "top", desc := "(II)I" } : Jvm.MethodName) ({ cls := "ScoreFormulas", name := "top", desc := "(II)I" } : Jvm.MethodName)) ∈ pm_T := pm_Ti (List.mem_of_getElem? (i := 532) (by decide +kernel)) rfl
theorem pt_504 : (Jvm.Cond.code ({ cls := "ScoreFormulas", name := "top", desc := "(II)I" } : Jvm.MethodName) prog_1_method_13_code (4 : Nat) (Option.some Jvm.ClassFile.FieldType.int)) ∈ pm_T := pm_Ti (List.mem_of_getElem? (i := 533) (by decide +kernel)) rfl
theorem pt_780 : (Jvm.Cond.methodLink "ScoreFormulasLaw" (70 : Nat) ({ cls := "ScoreFormulasModel", name := "top", desc := "(II)I" } : Jvm.MethodName)) ∈ pm_T := pm_Ti (List.mem_of_getElem? (i := 809) (by decide +kernel)) rfl
theorem pt_781 : (Jvm.Cond.instanceMethod ({ cls := "ScoreFormulasModel", name := "top", desc := "(II)I" } : Jvm.MethodName)) ∈ pm_T := pm_Ti (List.mem_of_getElem? (i := 810) (by decide +kernel)) rfl
theorem pt_782 : (Jvm.Cond.selects "ScoreFormulasModel" ({ cls := "ScoreFormulasModel", name := "top", desc := "(II)I" } : Jvm.MethodName) ({ cls := "ScoreFormulasModel", name := "top", desc := "(II)I" } : Jvm.MethodName)) ∈ pm_T := pm_Ti (List.mem_of_getElem? (i := 811) (by decide +kernel)) rfl
theorem pt_783 : (Jvm.Cond.code ({ cls := "ScoreFormulasModel", name := "top", desc := "(II)I" } : Jvm.MethodName) prog_10_method_36_code (8 : Nat) (Option.some Jvm.ClassFile.FieldType.int)) ∈ pm_T := pm_Ti (List.mem_of_getElem? (i := 812) (by decide +kernel)) rfl
theorem pt_513 : (Jvm.Cond.methodLink "ScoreFormulasLaw" (71 : Nat) ({ cls := "ScoreFormulas", name := "clear", desc := "()I" } : Jvm.MethodName)) ∈ pm_T := pm_Ti (List.mem_of_getElem? (i := 542) (by decide +kernel)) rfl
theorem pt_514 : (Jvm.Cond.instanceMethod ({ cls := "ScoreFormulas", name := "clear", desc := "()I" } : Jvm.MethodName)) ∈ pm_T := pm_Ti (List.mem_of_getElem? (i := 543) (by decide +kernel)) rfl
theorem pt_515 : (Jvm.Cond.selects "ScoreFormulas" ({ cls := "ScoreFormulas", name := "clear", desc := "()I" } : Jvm.MethodName) ({ cls := "ScoreFormulas", name := "clear", desc := "()I" } : Jvm.MethodName)) ∈ pm_T := pm_Ti (List.mem_of_getElem? (i := 544) (by decide +kernel)) rfl
theorem pt_516 : (Jvm.Cond.code ({ cls := "ScoreFormulas", name := "clear", desc := "()I" } : Jvm.MethodName) prog_1_method_14_code (1 : Nat) (Option.some Jvm.ClassFile.FieldType.int)) ∈ pm_T := pm_Ti (List.mem_of_getElem? (i := 545) (by decide +kernel)) rfl
theorem pt_643 : (Jvm.Cond.methodLink "ScoreFormulasLaw" (75 : Nat) ({ cls := "ScoreFormulasModel", name := "clear", desc := "()I" } : Jvm.MethodName)) ∈ pm_T := pm_Ti (List.mem_of_getElem? (i := 672) (by decide +kernel)) rfl
theorem pt_525 : (Jvm.Cond.methodLink "ScoreFormulasLaw" (76 : Nat) ({ cls := "ScoreFormulas", name := "forget", desc := "()I" } : Jvm.MethodName)) ∈ pm_T := pm_Ti (List.mem_of_getElem? (i := 554) (by decide +kernel)) rfl
theorem pt_526 : (Jvm.Cond.instanceMethod ({ cls := "ScoreFormulas", name := "forget", desc := "()I" } : Jvm.MethodName)) ∈ pm_T := pm_Ti (List.mem_of_getElem? (i := 555) (by decide +kernel)) rfl
theorem pt_527 : (Jvm.Cond.selects "ScoreFormulas" ({ cls := "ScoreFormulas", name := "forget", desc := "()I" } : Jvm.MethodName) ({ cls := "ScoreFormulas", name := "forget", desc := "()I" } : Jvm.MethodName)) ∈ pm_T := pm_Ti (List.mem_of_getElem? (i := 556) (by decide +kernel)) rfl
theorem pt_528 : (Jvm.Cond.code ({ cls := "ScoreFormulas", name := "forget", desc := "()I" } : Jvm.MethodName) prog_1_method_15_code (2 : Nat) (Option.some Jvm.ClassFile.FieldType.int)) ∈ pm_T := pm_Ti (List.mem_of_getElem? (i := 557) (by decide +kernel)) rfl
theorem pt_784 : (Jvm.Cond.methodLink "ScoreFormulasLaw" (79 : Nat) ({ cls := "ScoreFormulasModel", name := "forget", desc := "()I" } : Jvm.MethodName)) ∈ pm_T := pm_Ti (List.mem_of_getElem? (i := 813) (by decide +kernel)) rfl
theorem pt_785 : (Jvm.Cond.instanceMethod ({ cls := "ScoreFormulasModel", name := "forget", desc := "()I" } : Jvm.MethodName)) ∈ pm_T := pm_Ti (List.mem_of_getElem? (i := 814) (by decide +kernel)) rfl
theorem pt_786 : (Jvm.Cond.selects "ScoreFormulasModel" ({ cls := "ScoreFormulasModel", name := "forget", desc := "()I" } : Jvm.MethodName) ({ cls := "ScoreFormulasModel", name := "forget", desc := "()I" } : Jvm.MethodName)) ∈ pm_T := pm_Ti (List.mem_of_getElem? (i := 815) (by decide +kernel)) rfl
theorem pt_787 : (Jvm.Cond.code ({ cls := "ScoreFormulasModel", name := "forget", desc := "()I" } : Jvm.MethodName) prog_10_method_37_code (2 : Nat) (Option.some Jvm.ClassFile.FieldType.int)) ∈ pm_T := pm_Ti (List.mem_of_getElem? (i := 816) (by decide +kernel)) rfl
noncomputable def mt_g_L_law : Nat → Option (Nat × Nat) := fun _ => none
noncomputable def mt_p_L_law : Nat → Option (Nat × Nat) := fun _ => none
noncomputable def mt_k_L_law : Nat → Option Value := fun k => match k with
  | 18 => some (.long (4294967295))
  | _ => none
noncomputable def mt_f_L_law : Nat → Option (Nat × Nat × Nat × pm_F) := fun k => match k with
  | 9 => some (2, 0, 4, mF_X7_init)
  | 12 => some (2, 0, 5, mF_X8_init)
  | 13 => some (0, 4, 4, mF_X7_tell)
  | 17 => some (0, 4, 5, mF_X8_tell)
  | 20 => some (0, 3, 4, mF_X7_column)
  | 24 => some (0, 3, 5, mF_X8_column)
  | 25 => some (0, 2, 4, mF_X7_given)
  | 29 => some (0, 2, 5, mF_X8_given)
  | 30 => some (0, 1, 4, mF_X7_average)
  | 34 => some (0, 1, 5, mF_X8_average)
  | 35 => some (0, 2, 4, mF_X7_packed)
  | 39 => some (0, 2, 5, mF_X8_packed)
  | 40 => some (0, 5, 4, mF_X7_formula)
  | 44 => some (0, 5, 5, mF_X8_formula)
  | 45 => some (0, 2, 4, mF_X7_part)
  | 48 => some (0, 2, 5, mF_X8_part)
  | 49 => some (0, 2, 4, mF_X7_score)
  | 53 => some (0, 2, 5, mF_X8_score)
  | 54 => some (0, 1, 4, mF_X7_told)
  | 58 => some (0, 1, 5, mF_X8_told)
  | 59 => some (0, 2, 4, mF_X7_about)
  | 62 => some (0, 2, 5, mF_X8_about)
  | 63 => some (0, 2, 4, mF_X7_partOf)
  | 66 => some (0, 2, 5, mF_X8_partOf)
  | 67 => some (0, 2, 4, mF_X7_top)
  | 70 => some (0, 2, 5, mF_X8_top)
  | 71 => some (0, 0, 4, mF_X7_clear)
  | 75 => some (0, 0, 5, mF_X8_clear)
  | 76 => some (0, 0, 4, mF_X7_forget)
  | 79 => some (0, 0, 5, mF_X8_forget)
  | _ => none
noncomputable def mt_o_L_law : Nat → Option Nat := fun k => match k with
  | 7 => some 4
  | 10 => some 5
  | _ => none
noncomputable def mt_n_L_law : Nat → Option Nat := fun _ => none
noncomputable def mE_L_law (L0 : Nat) (xs : Nat → Int32) : pm_E := (cL_law, mt_g_L_law, mt_p_L_law, mt_k_L_law, mt_f_L_law, mt_o_L_law, mt_n_L_law, some (L0, xs), (some .boolean))
theorem mk_g_L_law : ∀ k q, mt_g_L_law k = some q → pm_Fok RL k q := by
  intro k q h
  unfold mt_g_L_law at h
  cases h
theorem mk_p_L_law : ∀ k q, mt_p_L_law k = some q → pm_Fok RL k q ∧ ((pm_ct q.1 q.2).2.2.2 = false ∨ (false = true ∧ (pm_ct q.1 q.2).1 = RL)) := by
  intro k q h
  unfold mt_p_L_law at h
  cases h
theorem mk_k_L_law : ∀ k q, mt_k_L_law k = some q → pm_Kok RL k q := by
  intro k q h
  unfold mt_k_L_law at h
  split at h
  · cases h
    exact pt_788
  · cases h
theorem mk_o_L_law : ∀ k q, mt_o_L_law k = some q → pm_Oko RL k q := by
  intro k q h
  unfold mt_o_L_law at h
  split at h
  · cases h
    exact ⟨fun _ => ⟨pt_11, pt_12, pt_1⟩, fun h => absurd h (by decide)⟩
  · cases h
    exact ⟨fun _ => ⟨pt_529, pt_530, pt_6⟩, fun h => absurd h (by decide)⟩
  · cases h
theorem mk_n_L_law : ∀ k q, mt_n_L_law k = some q → pm_Nok RL k q := by
  intro k q h
  unfold mt_n_L_law at h
  cases h
theorem mk_f_L_law (l : Launch) : ∀ k q, mt_f_L_law k = some q → pm_Cal l 2048 84000 RL k q := by
  intro k q h
  unfold mt_f_L_law at h
  split at h
  · cases h
    exact ⟨yX7_init, cX7_init, 2, none, 3, 68, mM_X7_init l, by decide, by decide, pt_15, pt_1, by decide, by decide, fun h => absurd h (by decide), fun h => absurd h (by decide), fun _ => ⟨rfl, rfl, pt_14, Or.inl pt_13⟩⟩
  · cases h
    exact ⟨yX8_init, cX8_init, 1, none, 3, 67, mM_X8_init l, by decide, by decide, pt_533, pt_6, by decide, by decide, fun h => absurd h (by decide), fun h => absurd h (by decide), fun _ => ⟨rfl, rfl, pt_532, Or.inl pt_531⟩⟩
  · cases h
    exact ⟨yX7_tell, cX7_tell, 5, (some .int), 4, 107, mM_X7_tell l, by decide, by decide, pt_201, pt_1, by decide, by decide, fun _ => ⟨by decide, rfl, pt_198, pt_199, pt_200⟩, fun h => absurd h (by decide), fun h => absurd h (by decide)⟩
  · cases h
    exact ⟨yX8_tell, cX8_tell, 5, (some .int), 2, 49, mM_X8_tell l, by decide, by decide, pt_647, pt_6, by decide, by decide, fun _ => ⟨by decide, rfl, pt_644, pt_645, pt_646⟩, fun h => absurd h (by decide), fun h => absurd h (by decide)⟩
  · cases h
    exact ⟨yX7_column, cX7_column, 5, (some .int), 4, 103, mM_X7_column l, by decide, by decide, pt_231, pt_1, by decide, by decide, fun _ => ⟨by decide, rfl, pt_228, pt_229, pt_230⟩, fun h => absurd h (by decide), fun h => absurd h (by decide)⟩
  · cases h
    exact ⟨yX8_column, cX8_column, 5, (some .int), 3, 67, mM_X8_column l, by decide, by decide, pt_655, pt_6, by decide, by decide, fun _ => ⟨by decide, rfl, pt_652, pt_653, pt_654⟩, fun h => absurd h (by decide), fun h => absurd h (by decide)⟩
  · cases h
    exact ⟨yX7_given, cX7_given, 6, (some .int), 3, 78, mM_X7_given l, by decide, by decide, pt_249, pt_1, by decide, by decide, fun _ => ⟨by decide, rfl, pt_246, pt_247, pt_248⟩, fun h => absurd h (by decide), fun h => absurd h (by decide)⟩
  · cases h
    exact ⟨yX8_given, cX8_given, 6, (some .int), 3, 67, mM_X8_given l, by decide, by decide, pt_664, pt_6, by decide, by decide, fun _ => ⟨by decide, rfl, pt_661, pt_662, pt_663⟩, fun h => absurd h (by decide), fun h => absurd h (by decide)⟩
  · cases h
    exact ⟨yX7_average, cX7_average, 2, (some .long), 4, 101, mM_X7_average l, by decide, by decide, pt_263, pt_1, by decide, by decide, fun _ => ⟨by decide, rfl, pt_260, pt_261, pt_262⟩, fun h => absurd h (by decide), fun h => absurd h (by decide)⟩
  · cases h
    exact ⟨yX8_average, cX8_average, 2, (some .long), 4, 96, mM_X8_average l, by decide, by decide, pt_678, pt_6, by decide, by decide, fun _ => ⟨by decide, rfl, pt_675, pt_676, pt_677⟩, fun h => absurd h (by decide), fun h => absurd h (by decide)⟩
  · cases h
    exact ⟨yX7_packed, cX7_packed, 4, (some .int), 3, 69, mM_X7_packed l, by decide, by decide, pt_294, pt_1, by decide, by decide, fun _ => ⟨by decide, rfl, pt_291, pt_292, pt_293⟩, fun h => absurd h (by decide), fun h => absurd h (by decide)⟩
  · cases h
    exact ⟨yX8_packed, cX8_packed, 3, (some .int), 3, 68, mM_X8_packed l, by decide, by decide, pt_668, pt_6, by decide, by decide, fun _ => ⟨by decide, rfl, pt_665, pt_666, pt_667⟩, fun h => absurd h (by decide), fun h => absurd h (by decide)⟩
  · cases h
    exact ⟨yX7_formula, cX7_formula, 11, (some .int), 6, 144, mM_X7_formula l, by decide, by decide, pt_300, pt_1, by decide, by decide, fun _ => ⟨by decide, rfl, pt_297, pt_298, pt_299⟩, fun h => absurd h (by decide), fun h => absurd h (by decide)⟩
  · cases h
    exact ⟨yX8_formula, cX8_formula, 15, (some .int), 3, 77, mM_X8_formula l, by decide, by decide, pt_704, pt_6, by decide, by decide, fun _ => ⟨by decide, rfl, pt_701, pt_702, pt_703⟩, fun h => absurd h (by decide), fun h => absurd h (by decide)⟩
  · cases h
    exact ⟨yX7_part, cX7_part, 5, (some .int), 4, 88, mM_X7_part l, by decide, by decide, pt_358, pt_1, by decide, by decide, fun _ => ⟨by decide, rfl, pt_355, pt_356, pt_357⟩, fun h => absurd h (by decide), fun h => absurd h (by decide)⟩
  · cases h
    exact ⟨yX8_part, cX8_part, 3, (some .int), 3, 77, mM_X8_part l, by decide, by decide, pt_719, pt_6, by decide, by decide, fun _ => ⟨by decide, rfl, pt_716, pt_717, pt_718⟩, fun h => absurd h (by decide), fun h => absurd h (by decide)⟩
  · cases h
    exact ⟨yX7_score, cX7_score, 5, (some .long), 137, 3293, mM_X7_score l, by decide, by decide, pt_365, pt_1, by decide, by decide, fun _ => ⟨by decide, rfl, pt_362, pt_363, pt_364⟩, fun h => absurd h (by decide), fun h => absurd h (by decide)⟩
  · cases h
    exact ⟨yX8_score, cX8_score, 3, (some .long), 6, 167, mM_X8_score l, by decide, by decide, pt_723, pt_6, by decide, by decide, fun _ => ⟨by decide, rfl, pt_720, pt_721, pt_722⟩, fun h => absurd h (by decide), fun h => absurd h (by decide)⟩
  · cases h
    exact ⟨yX7_told, cX7_told, 2, (some .int), 2, 48, mM_X7_told l, by decide, by decide, pt_492, pt_1, by decide, by decide, fun _ => ⟨by decide, rfl, pt_489, pt_490, pt_491⟩, fun h => absurd h (by decide), fun h => absurd h (by decide)⟩
  · cases h
    exact ⟨yX8_told, cX8_told, 2, (some .int), 2, 49, mM_X8_told l, by decide, by decide, pt_771, pt_6, by decide, by decide, fun _ => ⟨by decide, rfl, pt_768, pt_769, pt_770⟩, fun h => absurd h (by decide), fun h => absurd h (by decide)⟩
  · cases h
    exact ⟨yX7_about, cX7_about, 4, (some .int), 3, 69, mM_X7_about l, by decide, by decide, pt_496, pt_1, by decide, by decide, fun _ => ⟨by decide, rfl, pt_493, pt_494, pt_495⟩, fun h => absurd h (by decide), fun h => absurd h (by decide)⟩
  · cases h
    exact ⟨yX8_about, cX8_about, 3, (some .int), 3, 70, mM_X8_about l, by decide, by decide, pt_775, pt_6, by decide, by decide, fun _ => ⟨by decide, rfl, pt_772, pt_773, pt_774⟩, fun h => absurd h (by decide), fun h => absurd h (by decide)⟩
  · cases h
    exact ⟨yX7_partOf, cX7_partOf, 3, (some .int), 3, 69, mM_X7_partOf l, by decide, by decide, pt_500, pt_1, by decide, by decide, fun _ => ⟨by decide, rfl, pt_497, pt_498, pt_499⟩, fun h => absurd h (by decide), fun h => absurd h (by decide)⟩
  · cases h
    exact ⟨yX8_partOf, cX8_partOf, 3, (some .int), 3, 70, mM_X8_partOf l, by decide, by decide, pt_779, pt_6, by decide, by decide, fun _ => ⟨by decide, rfl, pt_776, pt_777, pt_778⟩, fun h => absurd h (by decide), fun h => absurd h (by decide)⟩
  · cases h
    exact ⟨yX7_top, cX7_top, 4, (some .int), 137, 3293, mM_X7_top l, by decide, by decide, pt_504, pt_1, by decide, by decide, fun _ => ⟨by decide, rfl, pt_501, pt_502, pt_503⟩, fun h => absurd h (by decide), fun h => absurd h (by decide)⟩
  · cases h
    exact ⟨yX8_top, cX8_top, 8, (some .int), 6, 167, mM_X8_top l, by decide, by decide, pt_783, pt_6, by decide, by decide, fun _ => ⟨by decide, rfl, pt_780, pt_781, pt_782⟩, fun h => absurd h (by decide), fun h => absurd h (by decide)⟩
  · cases h
    exact ⟨yX7_clear, cX7_clear, 1, (some .int), 5, 129, mM_X7_clear l, by decide, by decide, pt_516, pt_1, by decide, by decide, fun _ => ⟨by decide, rfl, pt_513, pt_514, pt_515⟩, fun h => absurd h (by decide), fun h => absurd h (by decide)⟩
  · cases h
    exact ⟨yX8_clear, cX8_clear, 2, (some .int), 2, 46, mM_X8_clear l, by decide, by decide, pt_538, pt_6, by decide, by decide, fun _ => ⟨by decide, rfl, pt_643, pt_536, pt_537⟩, fun h => absurd h (by decide), fun h => absurd h (by decide)⟩
  · cases h
    exact ⟨yX7_forget, cX7_forget, 2, (some .int), 1, 27, mM_X7_forget l, by decide, by decide, pt_528, pt_1, by decide, by decide, fun _ => ⟨by decide, rfl, pt_525, pt_526, pt_527⟩, fun h => absurd h (by decide), fun h => absurd h (by decide)⟩
  · cases h
    exact ⟨yX8_forget, cX8_forget, 2, (some .int), 1, 27, mM_X8_forget l, by decide, by decide, pt_787, pt_6, by decide, by decide, fun _ => ⟨by decide, rfl, pt_784, pt_785, pt_786⟩, fun h => absurd h (by decide), fun h => absurd h (by decide)⟩
  · cases h
theorem law_ok (l : Launch) (L0 : Nat) (xs : Nat → Int32) : pm_Ok l 2048 84000 RL false (mE_L_law L0 xs) := ⟨mk_g_L_law, mk_p_L_law, mk_k_L_law, mk_f_L_law l, mk_o_L_law, mk_n_L_law, by decide⟩
