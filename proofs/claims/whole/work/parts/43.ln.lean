theorem mw_76 : Jvm.Cond.methodLink "ServerLine" (1 : Nat) ({ cls := "java/lang/Object", name := "<init>", desc := "()V" } : Jvm.MethodName) ∈ mm_G := mm_in (mt_1 (List.mem_of_getElem? (l := tables_1_1) (i := 21) (by decide +kernel))) rfl
theorem mw_77 : Jvm.Cond.instanceMethod ({ cls := "java/lang/Object", name := "<init>", desc := "()V" } : Jvm.MethodName) ∈ mm_G := mm_in (mt_1 (List.mem_of_getElem? (l := tables_1_1) (i := 22) (by decide +kernel))) rfl
theorem mw_78 : Jvm.Cond.code ({ cls := "java/lang/Object", name := "<init>", desc := "()V" } : Jvm.MethodName) object_method_1_code (1 : Nat) (Option.none : Option Jvm.ClassFile.FieldType) ∈ mm_G := mm_in (mt_1 (List.mem_of_getElem? (l := tables_1_1) (i := 23) (by decide +kernel))) rfl
theorem mw_79 : Jvm.Cond.classLink "ServerLine" (7 : Nat) "ServerLine$Line" ∈ mm_G := mm_in (mt_1 (List.mem_of_getElem? (l := tables_1_1) (i := 24) (by decide +kernel))) rfl
theorem mw_80 : Jvm.Cond.instantiable "ServerLine$Line" (8 : Nat) ∈ mm_G := mm_in (mt_1 (List.mem_of_getElem? (l := tables_1_1) (i := 25) (by decide +kernel))) rfl
theorem mw_84 : Jvm.Cond.methodLink "ServerLine$Line" (3 : Nat) ({ cls := "java/lang/Object", name := "<init>", desc := "()V" } : Jvm.MethodName) ∈ mm_G := mm_in (mt_1 (List.mem_of_getElem? (l := tables_1_1) (i := 29) (by decide +kernel))) rfl
theorem mw_114 : Jvm.Cond.fieldLink "ServerLine$Line" (18 : Nat) "ServerLine$Line" "guardFactor" "I" ∈ mm_G := mm_in (mt_1 (List.mem_of_getElem? (l := tables_1_1) (i := 59) (by decide +kernel))) rfl
theorem fl_X3_18_X3 : mm_FL RX3 18 "ServerLine$Line" 3 RX3 TX3 8 2 := ⟨rfl, by decide, uw_X3, mw_114, Or.inl rfl⟩
theorem mw_155 : Jvm.Cond.arrayClass Jvm.ClassFile.FieldType.int ∈ mm_G := mm_in (mt_1 (List.mem_of_getElem? (l := tables_1_1) (i := 100) (by decide +kernel))) rfl
theorem mw_88 : Jvm.Cond.code ({ cls := "ServerLine$Line", name := "numberCrowds", desc := "()V" } : Jvm.MethodName) prog_5_method_4_code (5 : Nat) (Option.none : Option Jvm.ClassFile.FieldType) ∈ mm_G := mm_in (mt_1 (List.mem_of_getElem? (l := tables_1_1) (i := 33) (by decide +kernel))) rfl
theorem wb_X3_numberCrowds : mm_CB yX3_numberCrowds cX3_numberCrowds 5 none 0 := ⟨mw_88, mw_57, ⟨by decide, by decide⟩, by decide +kernel, by decide⟩
theorem mw_85 : Jvm.Cond.methodLink "ServerLine$Line" (34 : Nat) ({ cls := "ServerLine$Line", name := "numberCrowds", desc := "()V" } : Jvm.MethodName) ∈ mm_G := mm_in (mt_1 (List.mem_of_getElem? (l := tables_1_1) (i := 30) (by decide +kernel))) rfl
theorem mw_87 : Jvm.Cond.instanceMethod ({ cls := "ServerLine$Line", name := "numberCrowds", desc := "()V" } : Jvm.MethodName) ∈ mm_G := mm_in (mt_1 (List.mem_of_getElem? (l := tables_1_1) (i := 32) (by decide +kernel))) rfl
theorem mw_0 : Cond.selects "ServerLine$Line" ⟨"ServerLine$Line", "numberCrowds", "()V"⟩ ⟨"ServerLine$Line", "numberCrowds", "()V"⟩ ∈ mm_G := mm_in (List.mem_append_left _ (List.mem_of_getElem? (i := 0) (by decide +kernel))) rfl
theorem wv_X3_34 : mm_VW RX3 34 yX3_numberCrowds := ⟨mw_85, mw_87, mw_0⟩
theorem mw_81 : Jvm.Cond.methodLink "ServerLine" (9 : Nat) ({ cls := "ServerLine$Line", name := "<init>", desc := "()V" } : Jvm.MethodName) ∈ mm_G := mm_in (mt_1 (List.mem_of_getElem? (l := tables_1_1) (i := 26) (by decide +kernel))) rfl
theorem mw_83 : Jvm.Cond.code ({ cls := "ServerLine$Line", name := "<init>", desc := "()V" } : Jvm.MethodName) prog_5_method_1_code (1 : Nat) (Option.none : Option Jvm.ClassFile.FieldType) ∈ mm_G := mm_in (mt_1 (List.mem_of_getElem? (l := tables_1_1) (i := 28) (by decide +kernel))) rfl
theorem wb_X3_init : mm_CB yX3_init cX3_init 1 none 0 := ⟨mw_83, mw_57, ⟨by decide, by decide⟩, by decide +kernel, by decide⟩
theorem mw_82 : Jvm.Cond.instanceMethod ({ cls := "ServerLine$Line", name := "<init>", desc := "()V" } : Jvm.MethodName) ∈ mm_G := mm_in (mt_1 (List.mem_of_getElem? (l := tables_1_1) (i := 27) (by decide +kernel))) rfl
theorem mw_156 : Jvm.Cond.classLink "ServerLine" (16 : Nat) "ServerLine$Sheets" ∈ mm_G := mm_in (mt_1 (List.mem_of_getElem? (l := tables_1_1) (i := 101) (by decide +kernel))) rfl
theorem mw_157 : Jvm.Cond.instantiable "ServerLine$Sheets" (4 : Nat) ∈ mm_G := mm_in (mt_1 (List.mem_of_getElem? (l := tables_1_1) (i := 102) (by decide +kernel))) rfl
theorem mw_161 : Jvm.Cond.methodLink "ServerLine$Sheets" (3 : Nat) ({ cls := "java/lang/Object", name := "<init>", desc := "()V" } : Jvm.MethodName) ∈ mm_G := mm_in (mt_1 (List.mem_of_getElem? (l := tables_1_1) (i := 106) (by decide +kernel))) rfl
theorem mw_162 : Jvm.Cond.classLink "ServerLine$Sheets" (9 : Nat) "[[I" ∈ mm_G := mm_in (mt_1 (List.mem_of_getElem? (l := tables_1_1) (i := 107) (by decide +kernel))) rfl
theorem mw_160 : Jvm.Cond.code ({ cls := "ServerLine$Sheets", name := "<init>", desc := "()V" } : Jvm.MethodName) prog_10_method_1_code (1 : Nat) (Option.none : Option Jvm.ClassFile.FieldType) ∈ mm_G := mm_in (mt_1 (List.mem_of_getElem? (l := tables_1_1) (i := 105) (by decide +kernel))) rfl
theorem wb_X8_init : mm_CB yX8_init cX8_init 1 none 0 := ⟨mw_160, mw_58, ⟨by decide, by decide⟩, by decide +kernel, by decide⟩
theorem mw_159 : Jvm.Cond.instanceMethod ({ cls := "ServerLine$Sheets", name := "<init>", desc := "()V" } : Jvm.MethodName) ∈ mm_G := mm_in (mt_1 (List.mem_of_getElem? (l := tables_1_1) (i := 104) (by decide +kernel))) rfl
theorem mw_183 : Jvm.Cond.classLink "ServerLine" (23 : Nat) "ServerLine$Row" ∈ mm_G := mm_in (mt_1 (List.mem_of_getElem? (l := tables_1_1) (i := 128) (by decide +kernel))) rfl
theorem mw_184 : Jvm.Cond.instantiable "ServerLine$Row" (3 : Nat) ∈ mm_G := mm_in (mt_1 (List.mem_of_getElem? (l := tables_1_1) (i := 129) (by decide +kernel))) rfl
theorem mw_188 : Jvm.Cond.methodLink "ServerLine$Row" (3 : Nat) ({ cls := "java/lang/Object", name := "<init>", desc := "()V" } : Jvm.MethodName) ∈ mm_G := mm_in (mt_1 (List.mem_of_getElem? (l := tables_1_1) (i := 133) (by decide +kernel))) rfl
theorem mw_187 : Jvm.Cond.code ({ cls := "ServerLine$Row", name := "<init>", desc := "()V" } : Jvm.MethodName) prog_8_method_1_code (1 : Nat) (Option.none : Option Jvm.ClassFile.FieldType) ∈ mm_G := mm_in (mt_1 (List.mem_of_getElem? (l := tables_1_1) (i := 132) (by decide +kernel))) rfl
theorem wb_X6_init : mm_CB yX6_init cX6_init 1 none 0 := ⟨mw_187, mw_59, ⟨by decide, by decide⟩, by decide +kernel, by decide⟩
theorem mw_186 : Jvm.Cond.instanceMethod ({ cls := "ServerLine$Row", name := "<init>", desc := "()V" } : Jvm.MethodName) ∈ mm_G := mm_in (mt_1 (List.mem_of_getElem? (l := tables_1_1) (i := 131) (by decide +kernel))) rfl
theorem mw_205 : Jvm.Cond.classLink "ServerLine" (30 : Nat) "ServerLine$Work" ∈ mm_G := mm_in (mt_1 (List.mem_of_getElem? (l := tables_1_1) (i := 150) (by decide +kernel))) rfl
theorem mw_206 : Jvm.Cond.instantiable "ServerLine$Work" (10 : Nat) ∈ mm_G := mm_in (mt_1 (List.mem_of_getElem? (l := tables_1_1) (i := 151) (by decide +kernel))) rfl
theorem mw_213 : Jvm.Cond.methodLink "ServerLine$Rule" (3 : Nat) ({ cls := "java/lang/Object", name := "<init>", desc := "()V" } : Jvm.MethodName) ∈ mm_G := mm_in (mt_1 (List.mem_of_getElem? (l := tables_1_1) (i := 158) (by decide +kernel))) rfl
theorem mw_210 : Jvm.Cond.methodLink "ServerLine$Work" (3 : Nat) ({ cls := "ServerLine$Rule", name := "<init>", desc := "(LServerLine$Line;)V" } : Jvm.MethodName) ∈ mm_G := mm_in (mt_1 (List.mem_of_getElem? (l := tables_1_1) (i := 155) (by decide +kernel))) rfl
theorem mw_212 : Jvm.Cond.code ({ cls := "ServerLine$Rule", name := "<init>", desc := "(LServerLine$Line;)V" } : Jvm.MethodName) prog_9_method_1_code (2 : Nat) (Option.none : Option Jvm.ClassFile.FieldType) ∈ mm_G := mm_in (mt_1 (List.mem_of_getElem? (l := tables_1_1) (i := 157) (by decide +kernel))) rfl
theorem wb_X7_init : mm_CB yX7_init cX7_init 2 none 1 := ⟨mw_212, mw_60, ⟨by decide, by decide⟩, by decide +kernel, by decide⟩
theorem mw_211 : Jvm.Cond.instanceMethod ({ cls := "ServerLine$Rule", name := "<init>", desc := "(LServerLine$Line;)V" } : Jvm.MethodName) ∈ mm_G := mm_in (mt_1 (List.mem_of_getElem? (l := tables_1_1) (i := 156) (by decide +kernel))) rfl
theorem mw_214 : Jvm.Cond.methodLink "ServerLine$Work" (21 : Nat) ({ cls := "java/lang/Math", name := "max", desc := "(II)I" } : Jvm.MethodName) ∈ mm_G := mm_in (mt_1 (List.mem_of_getElem? (l := tables_1_1) (i := 159) (by decide +kernel))) rfl
theorem mw_215 : Jvm.Cond.static ({ cls := "java/lang/Math", name := "max", desc := "(II)I" } : Jvm.MethodName) ∈ mm_G := mm_in (mt_1 (List.mem_of_getElem? (l := tables_1_1) (i := 160) (by decide +kernel))) rfl
theorem mw_216 : Jvm.Cond.code ({ cls := "java/lang/Math", name := "max", desc := "(II)I" } : Jvm.MethodName) prog_15_method_65_code (2 : Nat) (Option.some Jvm.ClassFile.FieldType.int) ∈ mm_G := mm_in (mt_1 (List.mem_of_getElem? (l := tables_1_1) (i := 161) (by decide +kernel))) rfl
theorem mw_207 : Jvm.Cond.methodLink "ServerLine" (32 : Nat) ({ cls := "ServerLine$Work", name := "<init>", desc := "(LServerLine$Line;I)V" } : Jvm.MethodName) ∈ mm_G := mm_in (mt_1 (List.mem_of_getElem? (l := tables_1_1) (i := 152) (by decide +kernel))) rfl
theorem mw_209 : Jvm.Cond.code ({ cls := "ServerLine$Work", name := "<init>", desc := "(LServerLine$Line;I)V" } : Jvm.MethodName) prog_11_method_1_code (3 : Nat) (Option.none : Option Jvm.ClassFile.FieldType) ∈ mm_G := mm_in (mt_1 (List.mem_of_getElem? (l := tables_1_1) (i := 154) (by decide +kernel))) rfl
theorem wb_X9_init : mm_CB yX9_init cX9_init 3 none 2 := ⟨mw_209, mw_61, ⟨by decide, by decide⟩, by decide +kernel, by decide⟩
theorem mw_208 : Jvm.Cond.instanceMethod ({ cls := "ServerLine$Work", name := "<init>", desc := "(LServerLine$Line;I)V" } : Jvm.MethodName) ∈ mm_G := mm_in (mt_1 (List.mem_of_getElem? (l := tables_1_1) (i := 153) (by decide +kernel))) rfl
theorem mw_285 : Jvm.Cond.classLink "ServerLine" (39 : Nat) "ServerLine$Guarded" ∈ mm_G := mm_in (mt_1 (List.mem_of_getElem? (l := tables_1_1) (i := 230) (by decide +kernel))) rfl
theorem mw_286 : Jvm.Cond.instantiable "ServerLine$Guarded" (7 : Nat) ∈ mm_G := mm_in (mt_1 (List.mem_of_getElem? (l := tables_1_1) (i := 231) (by decide +kernel))) rfl
theorem mw_290 : Jvm.Cond.methodLink "ServerLine$Guarded" (3 : Nat) ({ cls := "ServerLine$Rule", name := "<init>", desc := "(LServerLine$Line;)V" } : Jvm.MethodName) ∈ mm_G := mm_in (mt_1 (List.mem_of_getElem? (l := tables_1_1) (i := 235) (by decide +kernel))) rfl
theorem mw_291 : Jvm.Cond.classLink "ServerLine$Guarded" (15 : Nat) "ServerLine$Both" ∈ mm_G := mm_in (mt_1 (List.mem_of_getElem? (l := tables_1_1) (i := 236) (by decide +kernel))) rfl
theorem mw_292 : Jvm.Cond.instantiable "ServerLine$Both" (4 : Nat) ∈ mm_G := mm_in (mt_1 (List.mem_of_getElem? (l := tables_1_1) (i := 237) (by decide +kernel))) rfl
theorem mw_296 : Jvm.Cond.methodLink "ServerLine$Both" (3 : Nat) ({ cls := "ServerLine$Rule", name := "<init>", desc := "(LServerLine$Line;)V" } : Jvm.MethodName) ∈ mm_G := mm_in (mt_2 (List.mem_of_getElem? (l := tables_1_2) (i := 1) (by decide +kernel))) rfl
theorem mw_293 : Jvm.Cond.methodLink "ServerLine$Guarded" (17 : Nat) ({ cls := "ServerLine$Both", name := "<init>", desc := "(LServerLine$Line;)V" } : Jvm.MethodName) ∈ mm_G := mm_in (mt_1 (List.mem_of_getElem? (l := tables_1_1) (i := 238) (by decide +kernel))) rfl
theorem mw_295 : Jvm.Cond.code ({ cls := "ServerLine$Both", name := "<init>", desc := "(LServerLine$Line;)V" } : Jvm.MethodName) prog_3_method_1_code (2 : Nat) (Option.none : Option Jvm.ClassFile.FieldType) ∈ mm_G := mm_in (mt_2 (List.mem_of_getElem? (l := tables_1_2) (i := 0) (by decide +kernel))) rfl
theorem wb_X1_init : mm_CB yX1_init cX1_init 2 none 1 := ⟨mw_295, mw_64, ⟨by decide, by decide⟩, by decide +kernel, by decide⟩
theorem mw_294 : Jvm.Cond.instanceMethod ({ cls := "ServerLine$Both", name := "<init>", desc := "(LServerLine$Line;)V" } : Jvm.MethodName) ∈ mm_G := mm_in (mt_1 (List.mem_of_getElem? (l := tables_1_1) (i := 239) (by decide +kernel))) rfl
theorem mw_302 : Jvm.Cond.classLink "ServerLine$Guarded" (22 : Nat) "ServerLine$Nearest" ∈ mm_G := mm_in (mt_2 (List.mem_of_getElem? (l := tables_1_2) (i := 7) (by decide +kernel))) rfl
theorem mw_303 : Jvm.Cond.instantiable "ServerLine$Nearest" (5 : Nat) ∈ mm_G := mm_in (mt_2 (List.mem_of_getElem? (l := tables_1_2) (i := 8) (by decide +kernel))) rfl
theorem mw_307 : Jvm.Cond.methodLink "ServerLine$Nearest" (3 : Nat) ({ cls := "ServerLine$Rule", name := "<init>", desc := "(LServerLine$Line;)V" } : Jvm.MethodName) ∈ mm_G := mm_in (mt_2 (List.mem_of_getElem? (l := tables_1_2) (i := 12) (by decide +kernel))) rfl
theorem mw_304 : Jvm.Cond.methodLink "ServerLine$Guarded" (24 : Nat) ({ cls := "ServerLine$Nearest", name := "<init>", desc := "(LServerLine$Line;Z)V" } : Jvm.MethodName) ∈ mm_G := mm_in (mt_2 (List.mem_of_getElem? (l := tables_1_2) (i := 9) (by decide +kernel))) rfl
theorem mw_306 : Jvm.Cond.code ({ cls := "ServerLine$Nearest", name := "<init>", desc := "(LServerLine$Line;Z)V" } : Jvm.MethodName) prog_7_method_1_code (3 : Nat) (Option.none : Option Jvm.ClassFile.FieldType) ∈ mm_G := mm_in (mt_2 (List.mem_of_getElem? (l := tables_1_2) (i := 11) (by decide +kernel))) rfl
theorem wb_X5_init : mm_CB yX5_init cX5_init 3 none 2 := ⟨mw_306, mw_65, ⟨by decide, by decide⟩, by decide +kernel, by decide⟩
theorem mw_305 : Jvm.Cond.instanceMethod ({ cls := "ServerLine$Nearest", name := "<init>", desc := "(LServerLine$Line;Z)V" } : Jvm.MethodName) ∈ mm_G := mm_in (mt_2 (List.mem_of_getElem? (l := tables_1_2) (i := 10) (by decide +kernel))) rfl
theorem mw_287 : Jvm.Cond.methodLink "ServerLine" (41 : Nat) ({ cls := "ServerLine$Guarded", name := "<init>", desc := "(LServerLine$Line;)V" } : Jvm.MethodName) ∈ mm_G := mm_in (mt_1 (List.mem_of_getElem? (l := tables_1_1) (i := 232) (by decide +kernel))) rfl
theorem mw_289 : Jvm.Cond.code ({ cls := "ServerLine$Guarded", name := "<init>", desc := "(LServerLine$Line;)V" } : Jvm.MethodName) prog_4_method_1_code (2 : Nat) (Option.none : Option Jvm.ClassFile.FieldType) ∈ mm_G := mm_in (mt_1 (List.mem_of_getElem? (l := tables_1_1) (i := 234) (by decide +kernel))) rfl
theorem wb_X2_init : mm_CB yX2_init cX2_init 2 none 1 := ⟨mw_289, mw_63, ⟨by decide, by decide⟩, by decide +kernel, by decide⟩
theorem mw_288 : Jvm.Cond.instanceMethod ({ cls := "ServerLine$Guarded", name := "<init>", desc := "(LServerLine$Line;)V" } : Jvm.MethodName) ∈ mm_G := mm_in (mt_1 (List.mem_of_getElem? (l := tables_1_1) (i := 233) (by decide +kernel))) rfl
theorem mw_331 : Jvm.Cond.classLink "ServerLine" (48 : Nat) "ServerLine$Rule" ∈ mm_G := mm_in (mt_2 (List.mem_of_getElem? (l := tables_1_2) (i := 36) (by decide +kernel))) rfl
theorem mw_333 : Jvm.Cond.classLink "ServerLine" (50 : Nat) "ServerLine$Nearest" ∈ mm_G := mm_in (mt_2 (List.mem_of_getElem? (l := tables_1_2) (i := 38) (by decide +kernel))) rfl
theorem mw_334 : Jvm.Cond.methodLink "ServerLine" (52 : Nat) ({ cls := "ServerLine$Nearest", name := "<init>", desc := "(LServerLine$Line;Z)V" } : Jvm.MethodName) ∈ mm_G := mm_in (mt_2 (List.mem_of_getElem? (l := tables_1_2) (i := 39) (by decide +kernel))) rfl
theorem mw_335 : Jvm.Cond.classLink "ServerLine" (55 : Nat) "ServerLine$Both" ∈ mm_G := mm_in (mt_2 (List.mem_of_getElem? (l := tables_1_2) (i := 40) (by decide +kernel))) rfl
theorem mw_336 : Jvm.Cond.methodLink "ServerLine" (57 : Nat) ({ cls := "ServerLine$Both", name := "<init>", desc := "(LServerLine$Line;)V" } : Jvm.MethodName) ∈ mm_G := mm_in (mt_2 (List.mem_of_getElem? (l := tables_1_2) (i := 41) (by decide +kernel))) rfl
theorem mw_337 : Jvm.Cond.classLink "ServerLine" (62 : Nat) "ServerLine$Ahead" ∈ mm_G := mm_in (mt_2 (List.mem_of_getElem? (l := tables_1_2) (i := 42) (by decide +kernel))) rfl
theorem mw_338 : Jvm.Cond.instantiable "ServerLine$Ahead" (8 : Nat) ∈ mm_G := mm_in (mt_2 (List.mem_of_getElem? (l := tables_1_2) (i := 43) (by decide +kernel))) rfl
theorem mw_342 : Jvm.Cond.methodLink "ServerLine$Ahead" (3 : Nat) ({ cls := "ServerLine$Rule", name := "<init>", desc := "(LServerLine$Line;)V" } : Jvm.MethodName) ∈ mm_G := mm_in (mt_2 (List.mem_of_getElem? (l := tables_1_2) (i := 47) (by decide +kernel))) rfl
theorem mw_343 : Jvm.Cond.classLink "ServerLine$Ahead" (9 : Nat) "[[I" ∈ mm_G := mm_in (mt_2 (List.mem_of_getElem? (l := tables_1_2) (i := 48) (by decide +kernel))) rfl
theorem mw_339 : Jvm.Cond.methodLink "ServerLine" (64 : Nat) ({ cls := "ServerLine$Ahead", name := "<init>", desc := "(LServerLine$Line;)V" } : Jvm.MethodName) ∈ mm_G := mm_in (mt_2 (List.mem_of_getElem? (l := tables_1_2) (i := 44) (by decide +kernel))) rfl
theorem mw_341 : Jvm.Cond.code ({ cls := "ServerLine$Ahead", name := "<init>", desc := "(LServerLine$Line;)V" } : Jvm.MethodName) prog_2_method_1_code (2 : Nat) (Option.none : Option Jvm.ClassFile.FieldType) ∈ mm_G := mm_in (mt_2 (List.mem_of_getElem? (l := tables_1_2) (i := 46) (by decide +kernel))) rfl
theorem wb_X0_init : mm_CB yX0_init cX0_init 2 none 1 := ⟨mw_341, mw_66, ⟨by decide, by decide⟩, by decide +kernel, by decide⟩
theorem mw_340 : Jvm.Cond.instanceMethod ({ cls := "ServerLine$Ahead", name := "<init>", desc := "(LServerLine$Line;)V" } : Jvm.MethodName) ∈ mm_G := mm_in (mt_2 (List.mem_of_getElem? (l := tables_1_2) (i := 45) (by decide +kernel))) rfl
theorem mw_361 : Jvm.Cond.classLink "ServerLine" (69 : Nat) "ServerLine$Longing" ∈ mm_G := mm_in (mt_2 (List.mem_of_getElem? (l := tables_1_2) (i := 66) (by decide +kernel))) rfl
theorem mw_362 : Jvm.Cond.instantiable "ServerLine$Longing" (3 : Nat) ∈ mm_G := mm_in (mt_2 (List.mem_of_getElem? (l := tables_1_2) (i := 67) (by decide +kernel))) rfl
theorem mw_366 : Jvm.Cond.methodLink "ServerLine$Longing" (3 : Nat) ({ cls := "java/lang/Object", name := "<init>", desc := "()V" } : Jvm.MethodName) ∈ mm_G := mm_in (mt_2 (List.mem_of_getElem? (l := tables_1_2) (i := 71) (by decide +kernel))) rfl
theorem mw_367 : Jvm.Cond.classLink "ServerLine$Longing" (19 : Nat) "ServerLine$Both" ∈ mm_G := mm_in (mt_2 (List.mem_of_getElem? (l := tables_1_2) (i := 72) (by decide +kernel))) rfl
theorem mw_368 : Jvm.Cond.methodLink "ServerLine$Longing" (21 : Nat) ({ cls := "ServerLine$Both", name := "<init>", desc := "(LServerLine$Line;)V" } : Jvm.MethodName) ∈ mm_G := mm_in (mt_2 (List.mem_of_getElem? (l := tables_1_2) (i := 73) (by decide +kernel))) rfl
theorem mw_363 : Jvm.Cond.methodLink "ServerLine" (71 : Nat) ({ cls := "ServerLine$Longing", name := "<init>", desc := "(LServerLine$Line;LServerLine$Ahead;)V" } : Jvm.MethodName) ∈ mm_G := mm_in (mt_2 (List.mem_of_getElem? (l := tables_1_2) (i := 68) (by decide +kernel))) rfl
theorem mw_365 : Jvm.Cond.code ({ cls := "ServerLine$Longing", name := "<init>", desc := "(LServerLine$Line;LServerLine$Ahead;)V" } : Jvm.MethodName) prog_6_method_1_code (3 : Nat) (Option.none : Option Jvm.ClassFile.FieldType) ∈ mm_G := mm_in (mt_2 (List.mem_of_getElem? (l := tables_1_2) (i := 70) (by decide +kernel))) rfl
theorem wb_X4_init : mm_CB yX4_init cX4_init 3 none 2 := ⟨mw_365, mw_67, ⟨by decide, by decide⟩, by decide +kernel, by decide⟩
theorem mw_364 : Jvm.Cond.instanceMethod ({ cls := "ServerLine$Longing", name := "<init>", desc := "(LServerLine$Line;LServerLine$Ahead;)V" } : Jvm.MethodName) ∈ mm_G := mm_in (mt_2 (List.mem_of_getElem? (l := tables_1_2) (i := 69) (by decide +kernel))) rfl
theorem mw_379 : Jvm.Cond.classLink "ServerLine" (78 : Nat) "ServerLine$WorstSearch" ∈ mm_G := mm_in (mt_2 (List.mem_of_getElem? (l := tables_1_2) (i := 84) (by decide +kernel))) rfl
theorem mw_380 : Jvm.Cond.instantiable "ServerLine$WorstSearch" (7 : Nat) ∈ mm_G := mm_in (mt_2 (List.mem_of_getElem? (l := tables_1_2) (i := 85) (by decide +kernel))) rfl
theorem mw_384 : Jvm.Cond.methodLink "ServerLine$WorstSearch" (3 : Nat) ({ cls := "java/lang/Object", name := "<init>", desc := "()V" } : Jvm.MethodName) ∈ mm_G := mm_in (mt_2 (List.mem_of_getElem? (l := tables_1_2) (i := 89) (by decide +kernel))) rfl
theorem mw_385 : Jvm.Cond.classLink "ServerLine$WorstSearch" (26 : Nat) "ServerLine$Rule" ∈ mm_G := mm_in (mt_2 (List.mem_of_getElem? (l := tables_1_2) (i := 90) (by decide +kernel))) rfl
theorem mw_386 : Jvm.Cond.classLink "ServerLine$WorstSearch" (28 : Nat) "ServerLine$Nearest" ∈ mm_G := mm_in (mt_2 (List.mem_of_getElem? (l := tables_1_2) (i := 91) (by decide +kernel))) rfl
theorem mw_387 : Jvm.Cond.methodLink "ServerLine$WorstSearch" (30 : Nat) ({ cls := "ServerLine$Nearest", name := "<init>", desc := "(LServerLine$Line;Z)V" } : Jvm.MethodName) ∈ mm_G := mm_in (mt_2 (List.mem_of_getElem? (l := tables_1_2) (i := 92) (by decide +kernel))) rfl
theorem mw_388 : Jvm.Cond.classLink "ServerLine$WorstSearch" (33 : Nat) "ServerLine$Both" ∈ mm_G := mm_in (mt_2 (List.mem_of_getElem? (l := tables_1_2) (i := 93) (by decide +kernel))) rfl
theorem mw_389 : Jvm.Cond.methodLink "ServerLine$WorstSearch" (35 : Nat) ({ cls := "ServerLine$Both", name := "<init>", desc := "(LServerLine$Line;)V" } : Jvm.MethodName) ∈ mm_G := mm_in (mt_2 (List.mem_of_getElem? (l := tables_1_2) (i := 94) (by decide +kernel))) rfl
theorem mw_390 : Jvm.Cond.classLink "ServerLine$WorstSearch" (38 : Nat) "ServerLine$Work" ∈ mm_G := mm_in (mt_2 (List.mem_of_getElem? (l := tables_1_2) (i := 95) (by decide +kernel))) rfl
theorem mw_391 : Jvm.Cond.methodLink "ServerLine$WorstSearch" (40 : Nat) ({ cls := "ServerLine$Work", name := "<init>", desc := "(LServerLine$Line;I)V" } : Jvm.MethodName) ∈ mm_G := mm_in (mt_2 (List.mem_of_getElem? (l := tables_1_2) (i := 96) (by decide +kernel))) rfl
theorem mw_381 : Jvm.Cond.methodLink "ServerLine" (80 : Nat) ({ cls := "ServerLine$WorstSearch", name := "<init>", desc := "(LServerLine$Line;)V" } : Jvm.MethodName) ∈ mm_G := mm_in (mt_2 (List.mem_of_getElem? (l := tables_1_2) (i := 86) (by decide +kernel))) rfl
theorem mw_383 : Jvm.Cond.code ({ cls := "ServerLine$WorstSearch", name := "<init>", desc := "(LServerLine$Line;)V" } : Jvm.MethodName) prog_12_method_1_code (2 : Nat) (Option.none : Option Jvm.ClassFile.FieldType) ∈ mm_G := mm_in (mt_2 (List.mem_of_getElem? (l := tables_1_2) (i := 88) (by decide +kernel))) rfl
theorem wb_X10_init : mm_CB yX10_init cX10_init 2 none 1 := ⟨mw_383, mw_68, ⟨by decide, by decide⟩, by decide +kernel, by decide⟩
theorem mw_382 : Jvm.Cond.instanceMethod ({ cls := "ServerLine$WorstSearch", name := "<init>", desc := "(LServerLine$Line;)V" } : Jvm.MethodName) ∈ mm_G := mm_in (mt_2 (List.mem_of_getElem? (l := tables_1_2) (i := 87) (by decide +kernel))) rfl
theorem mw_870 : Jvm.Cond.methodLink "ServerLineModel" (1 : Nat) ({ cls := "java/lang/Object", name := "<init>", desc := "()V" } : Jvm.MethodName) ∈ mm_G := mm_in (mt_4 (List.mem_of_getElem? (l := tables_1_4) (i := 95) (by decide +kernel))) rfl
theorem mw_959 : Jvm.Cond.arrayClass Jvm.ClassFile.FieldType.boolean ∈ mm_G := mm_in (mt_4 (List.mem_of_getElem? (l := tables_1_4) (i := 184) (by decide +kernel))) rfl
def ln_F0 : mmS := fun i j => if i = 0 then (if j = 0 then 1 else if j = 1 then 1 else if j = 2 then 2 else 0) else 0
def ln_F1 : mmS := (nm_X3_numberCrowds_0 ln_F0).getD ln_F0
def ln_F2 : mmS := (nm_X3_listCrowds_0 ln_F1).getD ln_F1
theorem ln_some {α : Type} {o : Option α} {d : α} (h : o.isSome = true) : o = some (o.getD d) := by
  cases o with
  | none => cases h
  | some v => rfl
set_option maxRecDepth 100000 in
theorem ln_e1 : nm_X3_numberCrowds_0 ln_F0 = some ln_F1 := ln_some (by decide +kernel)
set_option maxRecDepth 100000 in
theorem ln_e2 : nm_X3_listCrowds_0 ln_F1 = some ln_F2 := ln_some (by decide +kernel)
theorem cn_small {z : mmZ} {k : mmK} {cc : ByteArray} {nL d mc ms sz pc cs ss : Nat} {pre ws ws2 : va_W} {post : (Nat → Nat) → va_W} {lv : List (Nat × Value)} {rest : List Value} {y : MethodName} {bytes : ByteArray} {mL dc idx : Nat} {F F2 : mmS} (k2 : mmK) (C : cn_C z k RX3 cc nL d mc ms sz) (hk : (k2.1, k2.2.1, k2.2.2.1, k2.2.2.2.1, k2.2.2.2.2.1) = (k.1, k.2.1, k.2.2.1, k.2.2.2.1, k.2.2.2.2.1)) (hT : mn_T (mm_l z) k2 y bytes mL none dc [.ref (mmad k2 0)] F none F2) (wb : mm_CB y bytes mL none 0) (w : mm_VW RX3 idx y) (hy : y.cls = RX3) (hw : mn_W k2 F = ws) (hw2 : mn_W k2 F2 = ws2) (h3 : cs ≤ mc) (h4 : ss ≤ ms) (hd : dc + 1 ≤ d) (hr : (rest.map fun v => v.category).sum ≤ 8) (hdg : decode cc pc = .ok (.invokevirtual idx, 3)) (q : Nat) (hq : pc + 3 = q) (kk : cn_AW z k nL mc ms pre sz post cs ss ws2 q lv rest) : cn_AW z k nL mc ms pre sz post cs ss ws pc lv (.ref (mmad k2 0) :: rest) := by
  obtain ⟨p, l, e, R, s, m, args, below, meth, c⟩ := z
  obtain ⟨kD, kI, kZ, kR, kG, kad⟩ := k2
  obtain ⟨jD, jI, jZ, jR, jG, jad⟩ := k
  simp only [Prod.mk.injEq] at hk
  obtain ⟨rfl, rfl, rfl, rfl, rfl⟩ := hk
  subst hq; subst hw; subst hw2
  have hRm : R = cn_rm d mc ms := C.2.2.2.2.2.2.2.2.2.2.1
  subst hRm
  intro H lc ls hP hD hS hl
  have hts := C.2.2.2.2.2.1
  have hI : mn_inj (kD, kI, kZ, kR, kG, kad) := fun i j hi hj e9 => hD.1 i j _ _ (mn_at _ F hi) (mn_at _ F hj) e9
  have hAw : ∀ q, mn_A (kD, kI, kZ, kR, kG, kad) q → va_A pre sz q := by
    rintro q ⟨i, hi, rfl⟩
    exact hD.2 i _ (mn_at _ F hi)
  have cb : CallB (cn_rm d mc ms) s args RX3 idx y bytes mL none (.code y bytes mL none :: mm_G) (mm_rm dc) 0 0 0 := callB_of (Ts := mm_G) 0 hts (mm_good0 wb.1) rfl rfl rfl (hts _ wb.2.1) (hts _ w.1) ⟨wb.2.2.1.1, wb.2.2.1.2, wb.2.2.2.1⟩ ⟨hd, by have := wb.2.2.2.2; show 8 + (mL + 11) + 40 * dc ≤ 40 * d; omega⟩
  have hrun := va_runV (As := []) (rest := rest) (C := y.cls) (b := kad 0) (cells := cs) (slots := ss) (locs := lc) (H := H) (p := p) (e := e) (below := below) (meth := meth) (g := F0 m pc ls (.ref (kad 0) :: rest)) ⟨C.1, C.2.1, C.2.2.2.1, C.2.2.2.2.1, hts⟩ hT ⟨cb, hts _ w.2.1, hts _ w.2.2⟩ ⟨mn_blind _ _ F, by rw [hy]; exact va_recv C.2.2.2.2.2.2.1 hP (ci := 3) (q0 := 0) rfl (mn_at _ F (by decide)), mn_pre hP C.2.2.2.2.2.2.1 C.2.2.2.2.2.2.2.1.1 hI⟩ rfl rfl hl.1 rfl (lv_room hr) hdg ⟨h3, h4⟩
  intro T hT2 X
  obtain ⟨v, st₀, t, T', L, h0, X', hL, e1, e2, ⟨hv, hp, hz, hk⟩, stp⟩ := hrun T hT2 X
  cases hv
  rw [h0] at hz hk
  have hD2 : va_D (va_A pre sz) (mn_W (kD, kI, kZ, kR, kG, kad) F2) := (mn_D F2 hI).weaken (fun _ _ _ h => hAw _ h)
  obtain ⟨t2, a1, b1⟩ := kk T'.heap (lc ++ L) ls (by rw [e1]; exact hp) hD2
    ⟨Nat.le_trans hS.1 (by rw [e1]; exact hz), fun q h1 h2 => by rw [e1, hk q (Nat.lt_of_lt_of_le h1 hS.1) (fun z => h2 (hAw q z))]; exact hS.2.1 q h1 h2, fun q hq => by
      rcases List.mem_append.mp hq with h | h
      · exact hS.2.2 q h
      · exact hAw _ (hL q h)⟩ hl T' rfl X'
  exact ⟨t2, stp t2 a1, b1⟩
